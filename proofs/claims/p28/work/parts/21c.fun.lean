def W_X10_bestWait : Nat → Nat → Hp → Int32 → Int32 → Int32 → Int32 → Int32 → Option (Int32 × Hp)
  | 0 => fun _ _ _ _ _ _ _ => none
  | n + 1 => fun hd h l1 l2 l3 l4 l5 => (if hd = 9 then (if (60 : Int32) ≤ (l5 : Int32) then some (l3, h) else ((F_X10_fewest n h l1 l2 ((hi h 204 4) + l5) 0 l4).bind (fun q2 => (if (q2.1 : Int32) = ((-1) : Int32) then W_X10_bestWait n 9 q2.2  l1 l2 l3 l4 (l5 + 1) else W_X10_bestWait n 9 q2.2  l1 l2 l5 (q2.1 - 1) (l5 + 1))))) else none)
set_option maxRecDepth 100000 in
set_option maxHeartbeats 4000000 in
theorem sw_X10_bestWait (d : Nat)  (n : Nat) : (∀ (l1 : Int32) (l2 : Int32) (l3 : Int32) (l4 : Int32) (l5 : Int32) (h : Hp), ∀ (r : Int32) (h' : Hp), W_X10_bestWait n 9 h  l1 l2 l3 l4 l5 = some (r, h') → G h → V mX10_bestWait (d + 4) 9 [some (.ref 204), some (.int l1), some (.int l2), some (.int l3), some (.int l4), some (.int l5), none] [] h (fun r1 h1 => r1 = some (.int r) ∧ h1 = h' ∧ G h')) := by
  induction n with
  | zero => exact by intros; contradiction
  | succ n ih =>
    have s_X10_bestWait_IH_9 := ih
    intro l1 l2 l3 l4 l5 h r h' hF hG
    unfold W_X10_bestWait at hF
    rw [if_pos rfl] at hF
    refine v_iload (i := 5) dX10_bestWait_9 rfl ?_
    refine v_bipush (v := 60) dX10_bestWait_11 (by decide) ?_
    refine v_icmp_ge 55 dX10_bestWait_13 (by decide) (fun c1 => ?_) (fun c1 => ?_)
    · rw [if_pos c1] at hF
      refine v_iload_n (i := 3) dX10_bestWait_55 rfl rfl ?_
      refine v_ireturn rfl dX10_bestWait_56 ?_
      obtain ⟨rfl, rfl⟩ := Prod.mk.inj (Option.some.inj hF)
      exact ⟨rfl, rfl, hG⟩
    · rw [if_neg c1] at hF
      refine v_aload_n (i := 0) dX10_bestWait_16 rfl rfl ?_
      refine v_iload_n (i := 1) dX10_bestWait_17 rfl rfl ?_
      refine v_iload_n (i := 2) dX10_bestWait_18 rfl rfl ?_
      refine v_aload_n (i := 0) dX10_bestWait_19 rfl rfl ?_
      refine g_X10_22 rfl sh_204 (by exact ltG hG (by decide)) dX10_bestWait_20 ?_
      refine v_iload (i := 5) dX10_bestWait_23 rfl ?_
      refine v_iadd dX10_bestWait_25 ?_
      refine v_iconst (v := 0) dX10_bestWait_26 (by decide) ?_
      refine v_iload (i := 4) dX10_bestWait_27 rfl ?_
      obtain ⟨q2, q2_e, hF⟩ := Option.bind_eq_some_iff.mp hF
      refine c_X10_90 rfl sh_204 (by exact ltG hG (by decide)) (Nat.le_of_ble_eq_true rfl) dX10_bestWait_29 (s_X10_fewest _ q2_e hG) (fun r1 h1 hq => ?_)
      obtain ⟨rfl, hq, hG⟩ := hq
      replace hq := hq.symm
      subst hq
      show V _ _ _ _ (_ :: _) _ _
      refine v_istore (i := 6) dX10_bestWait_32 (by decide) (nlT rfl) ?_
      simp only [List.set_cons_zero, List.set_cons_succ]
      refine v_iload (i := 6) dX10_bestWait_34 rfl ?_
      refine v_iconst (v := (-1)) dX10_bestWait_36 (by decide) ?_
      refine v_icmp_eq 49 dX10_bestWait_37 (by decide) (fun c4 => ?_) (fun c4 => ?_)
      · rw [if_pos c4] at hF
        refine v_iinc (i := 5) (v := (l5 + 1)) dX10_bestWait_49 rfl rfl (by decide) (nlT rfl) ?_
        simp only [List.set_cons_zero, List.set_cons_succ]
        refine v_goto 9 dX10_bestWait_52 (by decide) ?_
        refine V.weak (la2 := [some (.ref 204), some (.int l1), some (.int l2), some (.int l3), some (.int l4), some (.int (l5 + 1)), none]) (by simp [wk]) ?_
        exact (s_X10_bestWait_IH_9) _ _ _ _ _ _ _ _ hF hG
      · rw [if_neg c4] at hF
        refine v_iload (i := 5) dX10_bestWait_40 rfl ?_
        refine v_istore_n (i := 3) dX10_bestWait_42 rfl (by decide) (nlT rfl) ?_
        simp only [List.set_cons_zero, List.set_cons_succ]
        refine v_iload (i := 6) dX10_bestWait_43 rfl ?_
        refine v_iconst (v := 1) dX10_bestWait_45 (by decide) ?_
        refine v_isub dX10_bestWait_46 ?_
        refine v_istore (i := 4) dX10_bestWait_47 (by decide) (nlT rfl) ?_
        simp only [List.set_cons_zero, List.set_cons_succ]
        refine v_iinc (i := 5) (v := (l5 + 1)) dX10_bestWait_49 rfl rfl (by decide) (nlT rfl) ?_
        simp only [List.set_cons_zero, List.set_cons_succ]
        refine v_goto 9 dX10_bestWait_52 (by decide) ?_
        refine V.weak (la2 := [some (.ref 204), some (.int l1), some (.int l2), some (.int l5), some (.int (q2.1 - 1)), some (.int (l5 + 1)), none]) (by simp [wk]) ?_
        exact (s_X10_bestWait_IH_9) _ _ _ _ _ _ _ _ hF hG
def F_X10_bestWait (n : Nat) (h : Hp) (x1 : Int32) (x2 : Int32) : Option (Int32 × Hp) := W_X10_bestWait n 9 h  x1 x2 (-1) 100 0
set_option maxRecDepth 100000 in
set_option maxHeartbeats 4000000 in
theorem s_X10_bestWait (d : Nat) {n : Nat} {h : Hp} {x1 : Int32} {x2 : Int32} {q0 : (Int32 × Hp)} (hF : F_X10_bestWait n h x1 x2 = some q0) (hG : G h)  : Kc mX10_bestWait (d + 4) [.ref 204, .int x1, .int x2] h (fun r1 h1 => r1 = some (.int q0.1) ∧ h1 = q0.2 ∧ G q0.2) := by
  obtain ⟨r, h'⟩ := q0
  have s_X10_bestWait_IH_9 := sw_X10_bestWait d   n
  unfold F_X10_bestWait at hF
  refine Kc.of [some (.ref 204), some (.int x1), some (.int x2), none, none, none, none] ok_X10_bestWait rfl (Nat.le_of_ble_eq_true rfl) ?_
  refine v_iconst (v := (-1)) dX10_bestWait_0 (by decide) ?_
  refine v_istore_n (i := 3) dX10_bestWait_1 rfl (by decide) (nlT rfl) ?_
  simp only [List.set_cons_zero, List.set_cons_succ]
  refine v_bipush (v := 100) dX10_bestWait_2 (by decide) ?_
  refine v_istore (i := 4) dX10_bestWait_4 (by decide) (nlT rfl) ?_
  simp only [List.set_cons_zero, List.set_cons_succ]
  refine v_iconst (v := 0) dX10_bestWait_6 (by decide) ?_
  refine v_istore (i := 5) dX10_bestWait_7 (by decide) (nlT rfl) ?_
  simp only [List.set_cons_zero, List.set_cons_succ]
  refine V.weak (la2 := [some (.ref 204), some (.int x1), some (.int x2), some (.int (-1)), some (.int 100), some (.int 0), none]) (by simp [wk]) ?_
  exact (s_X10_bestWait_IH_9) _ _ _ _ _ _ _ _ hF hG
def W_X10_fewestMown : Nat → Nat → Hp → Int32 → Int32 → Int32 → Int32 → Int32 → Option (Int32 × Hp)
  | 0 => fun _ _ _ _ _ _ _ => none
  | n + 1 => fun hd h l1 l2 l3 l4 l5 => (if hd = 22 then ((F_J6_bitCount_0f7a4 n h l4).bind (fun q1 => (if (q1.1 : Int32) ≤ (l5 : Int32) then some (l4, q1.2) else ((F_X10_mownBy n q1.2 l5 l1 l2 l3 l4).bind (fun q4 => (if (q4.1 : Int32) = ((-1) : Int32) then W_X10_fewestMown n 22 q4.2  l1 l2 l3 l4 (l5 + 1) else some (q4.1, q4.2))))))) else none)
set_option maxRecDepth 100000 in
set_option maxHeartbeats 4000000 in
theorem sw_X10_fewestMown (d : Nat)  (n : Nat) : (∀ (l1 : Int32) (l2 : Int32) (l3 : Int32) (l4 : Int32) (l5 : Int32) (h : Hp), ∀ (r : Int32) (h' : Hp), W_X10_fewestMown n 22 h  l1 l2 l3 l4 l5 = some (r, h') → G h → V mX10_fewestMown (d + 5) 22 [some (.ref 204), some (.int l1), some (.int l2), some (.int l3), some (.int l4), some (.int l5), none] [] h (fun r1 h1 => r1 = some (.int r) ∧ h1 = h' ∧ G h')) := by
  induction n with
  | zero => exact by intros; contradiction
  | succ n ih =>
    have s_X10_fewestMown_IH_22 := ih
    intro l1 l2 l3 l4 l5 h r h' hF hG
    unfold W_X10_fewestMown at hF
    rw [if_pos rfl] at hF
    refine v_iload (i := 5) dX10_fewestMown_22 rfl ?_
    refine v_iload (i := 4) dX10_fewestMown_24 rfl ?_
    obtain ⟨q1, q1_e, hF⟩ := Option.bind_eq_some_iff.mp hF
    refine c_X10_94 rfl (Nat.le_of_ble_eq_true rfl) dX10_fewestMown_26 (s_J6_bitCount_0f7a4 _ q1_e hG) (fun r1 h1 hq => ?_)
    obtain ⟨rfl, hq, hG⟩ := hq
    replace hq := hq.symm
    subst hq
    show V _ _ _ _ (_ :: _) _ _
    refine v_icmp_ge 60 dX10_fewestMown_29 (by decide) (fun c3 => ?_) (fun c3 => ?_)
    · rw [if_pos c3] at hF
      refine v_iload (i := 4) dX10_fewestMown_60 rfl ?_
      refine v_ireturn rfl dX10_fewestMown_62 ?_
      obtain ⟨rfl, rfl⟩ := Prod.mk.inj (Option.some.inj hF)
      exact ⟨rfl, rfl, hG⟩
    · rw [if_neg c3] at hF
      refine v_aload_n (i := 0) dX10_fewestMown_32 rfl rfl ?_
      refine v_iload (i := 5) dX10_fewestMown_33 rfl ?_
      refine v_iload_n (i := 1) dX10_fewestMown_35 rfl rfl ?_
      refine v_iload_n (i := 2) dX10_fewestMown_36 rfl rfl ?_
      refine v_iload_n (i := 3) dX10_fewestMown_37 rfl rfl ?_
      refine v_iload (i := 4) dX10_fewestMown_38 rfl ?_
      obtain ⟨q4, q4_e, hF⟩ := Option.bind_eq_some_iff.mp hF
      refine c_X10_99 rfl sh_204 (by exact ltG hG (by decide)) (Nat.le_of_ble_eq_true rfl) dX10_fewestMown_40 (s_X10_mownBy _ q4_e hG) (fun r1 h1 hq => ?_)
      obtain ⟨rfl, hq, hG⟩ := hq
      replace hq := hq.symm
      subst hq
      show V _ _ _ _ (_ :: _) _ _
      refine v_istore (i := 6) dX10_fewestMown_43 (by decide) (nlT rfl) ?_
      simp only [List.set_cons_zero, List.set_cons_succ]
      refine v_iload (i := 6) dX10_fewestMown_45 rfl ?_
      refine v_iconst (v := (-1)) dX10_fewestMown_47 (by decide) ?_
      refine v_icmp_eq 54 dX10_fewestMown_48 (by decide) (fun c6 => ?_) (fun c6 => ?_)
      · rw [if_pos c6] at hF
        refine v_iinc (i := 5) (v := (l5 + 1)) dX10_fewestMown_54 rfl rfl (by decide) (nlT rfl) ?_
        simp only [List.set_cons_zero, List.set_cons_succ]
        refine v_goto 22 dX10_fewestMown_57 (by decide) ?_
        refine V.weak (la2 := [some (.ref 204), some (.int l1), some (.int l2), some (.int l3), some (.int l4), some (.int (l5 + 1)), none]) (by simp [wk]) ?_
        exact (s_X10_fewestMown_IH_22) _ _ _ _ _ _ _ _ hF hG
      · rw [if_neg c6] at hF
        refine v_iload (i := 6) dX10_fewestMown_51 rfl ?_
        refine v_ireturn rfl dX10_fewestMown_53 ?_
        obtain ⟨rfl, rfl⟩ := Prod.mk.inj (Option.some.inj hF)
        exact ⟨rfl, rfl, hG⟩
def F_X10_fewestMown (n : Nat) (h : Hp) (x1 : Int32) (x2 : Int32) (x3 : Int32) (x4 : Int32) : Option (Int32 × Hp) := ((F_X10_fewest n h x1 x2 (hi h 204 4) x4 x3).bind (fun q7 => (if (q7.1 : Int32) = ((-1) : Int32) then some ((-1), q7.2) else W_X10_fewestMown n 22 q7.2  x1 x2 x3 x4 0)))
set_option maxRecDepth 100000 in
set_option maxHeartbeats 4000000 in
theorem s_X10_fewestMown (d : Nat) {n : Nat} {h : Hp} {x1 : Int32} {x2 : Int32} {x3 : Int32} {x4 : Int32} {q0 : (Int32 × Hp)} (hF : F_X10_fewestMown n h x1 x2 x3 x4 = some q0) (hG : G h)  : Kc mX10_fewestMown (d + 5) [.ref 204, .int x1, .int x2, .int x3, .int x4] h (fun r1 h1 => r1 = some (.int q0.1) ∧ h1 = q0.2 ∧ G q0.2) := by
  obtain ⟨r, h'⟩ := q0
  have s_X10_fewestMown_IH_22 := sw_X10_fewestMown d   n
  unfold F_X10_fewestMown at hF
  refine Kc.of [some (.ref 204), some (.int x1), some (.int x2), some (.int x3), some (.int x4), none, none] ok_X10_fewestMown rfl (Nat.le_of_ble_eq_true rfl) ?_
  refine v_aload_n (i := 0) dX10_fewestMown_0 rfl rfl ?_
  refine v_iload_n (i := 1) dX10_fewestMown_1 rfl rfl ?_
  refine v_iload_n (i := 2) dX10_fewestMown_2 rfl rfl ?_
  refine v_aload_n (i := 0) dX10_fewestMown_3 rfl rfl ?_
  refine g_X10_22 rfl sh_204 (by exact ltG hG (by decide)) dX10_fewestMown_4 ?_
  refine v_iload (i := 4) dX10_fewestMown_7 rfl ?_
  refine v_iload_n (i := 3) dX10_fewestMown_9 rfl rfl ?_
  obtain ⟨q7, q7_e, hF⟩ := Option.bind_eq_some_iff.mp hF
  refine c_X10_90 rfl sh_204 (by exact ltG hG (by decide)) (Nat.le_of_ble_eq_true rfl) dX10_fewestMown_10 (s_X10_fewest _ q7_e hG) (fun r1 h1 hq => ?_)
  obtain ⟨rfl, hq, hG⟩ := hq
  replace hq := hq.symm
  subst hq
  show V _ _ _ _ (_ :: _) _ _
  refine v_iconst (v := (-1)) dX10_fewestMown_13 (by decide) ?_
  refine v_icmp_ne 19 dX10_fewestMown_14 (by decide) (fun c9 => ?_) (fun c9 => ?_)
  · rw [if_neg c9] at hF
    refine v_iconst (v := 0) dX10_fewestMown_19 (by decide) ?_
    refine v_istore (i := 5) dX10_fewestMown_20 (by decide) (nlT rfl) ?_
    simp only [List.set_cons_zero, List.set_cons_succ]
    refine V.weak (la2 := [some (.ref 204), some (.int x1), some (.int x2), some (.int x3), some (.int x4), some (.int 0), none]) (by simp [wk]) ?_
    exact (s_X10_fewestMown_IH_22) _ _ _ _ _ _ _ _ hF hG
  · rw [if_pos c9] at hF
    refine v_iconst (v := (-1)) dX10_fewestMown_17 (by decide) ?_
    refine v_ireturn rfl dX10_fewestMown_18 ?_
    obtain ⟨rfl, rfl⟩ := Prod.mk.inj (Option.some.inj hF)
    exact ⟨rfl, rfl, hG⟩
def F_X11_leave (n : Nat) (h : Hp) (x1 : Int32) (x2 : Int32) (x3 : Int32) : Option (Int32 × Hp) := ((F_X11_isFree n h x1).bind (fun q1 => (if (q1.1 : Int32) = 0 then some ((-1), q1.2) else ((F_X11_isFree n q1.2 x2).bind (fun q4 => (if (q4.1 : Int32) = 0 then some ((-1), q4.2) else ((F_X11_isNoughtOrOne n q4.2 x3).bind (fun q7 => (if (q7.1 : Int32) = 0 then some ((-1), q7.2) else ((F_X10_look n q7.2 30).bind (fun q10 => ((F_X10_bestWait n q10 x1 x2).bind (fun q12 => (if (q12.1 : Int32) = ((-1) : Int32) then some ((-2), q12.2) else (if (x3 : Int32) = 0 then some (q12.1, q12.2) else ((F_X10_fewest n q12.2 x1 x2 ((hi q12.2 30 0) + q12.1) 0 100).bind (fun q16 => some (q16.1, q16.2))))))))))))))))))
set_option maxRecDepth 100000 in
set_option maxHeartbeats 4000000 in
theorem s_X11_leave (d : Nat) {n : Nat} {h : Hp} {x1 : Int32} {x2 : Int32} {x3 : Int32} {q0 : (Int32 × Hp)} (hF : F_X11_leave n h x1 x2 x3 = some q0) (hG : G h)  : Kc mX11_leave (d + 5) [.ref 0, .int x1, .int x2, .int x3] h (fun r1 h1 => r1 = some (.int q0.1) ∧ h1 = q0.2 ∧ G q0.2) := by
  obtain ⟨r, h'⟩ := q0
  unfold F_X11_leave at hF
  refine Kc.of [some (.ref 0), some (.int x1), some (.int x2), some (.int x3), none] ok_X11_leave rfl (Nat.le_of_ble_eq_true rfl) ?_
  refine v_aload_n (i := 0) dX11_leave_0 rfl rfl ?_
  refine v_iload_n (i := 1) dX11_leave_1 rfl rfl ?_
  obtain ⟨q1, q1_e, hF⟩ := Option.bind_eq_some_iff.mp hF
  refine c_X11_243 rfl sh_0 (by exact ltG hG (by decide)) (Nat.le_of_ble_eq_true rfl) dX11_leave_2 (s_X11_isFree _ q1_e hG) (fun r1 h1 hq => ?_)
  obtain ⟨rfl, hq, hG⟩ := hq
  replace hq := hq.symm
  subst hq
  show V _ _ _ _ (_ :: _) _ _
  refine v_if_eq 23 dX11_leave_5 (by decide) (fun c3 => ?_) (fun c3 => ?_)
  · rw [if_pos c3] at hF
    refine v_iconst (v := (-1)) dX11_leave_23 (by decide) ?_
    refine v_ireturn rfl dX11_leave_24 ?_
    obtain ⟨rfl, rfl⟩ := Prod.mk.inj (Option.some.inj hF)
    exact ⟨rfl, rfl, hG⟩
  · rw [if_neg c3] at hF
    refine v_aload_n (i := 0) dX11_leave_8 rfl rfl ?_
    refine v_iload_n (i := 2) dX11_leave_9 rfl rfl ?_
    obtain ⟨q4, q4_e, hF⟩ := Option.bind_eq_some_iff.mp hF
    refine c_X11_243 rfl sh_0 (by exact ltG hG (by decide)) (Nat.le_of_ble_eq_true rfl) dX11_leave_10 (s_X11_isFree _ q4_e hG) (fun r1 h1 hq => ?_)
    obtain ⟨rfl, hq, hG⟩ := hq
    replace hq := hq.symm
    subst hq
    show V _ _ _ _ (_ :: _) _ _
    refine v_if_eq 23 dX11_leave_13 (by decide) (fun c6 => ?_) (fun c6 => ?_)
    · rw [if_pos c6] at hF
      refine v_iconst (v := (-1)) dX11_leave_23 (by decide) ?_
      refine v_ireturn rfl dX11_leave_24 ?_
      obtain ⟨rfl, rfl⟩ := Prod.mk.inj (Option.some.inj hF)
      exact ⟨rfl, rfl, hG⟩
    · rw [if_neg c6] at hF
      refine v_iload_n (i := 3) dX11_leave_16 rfl rfl ?_
      obtain ⟨q7, q7_e, hF⟩ := Option.bind_eq_some_iff.mp hF
      refine c_X11_237 rfl (Nat.le_of_ble_eq_true rfl) dX11_leave_17 (s_X11_isNoughtOrOne _ q7_e hG) (fun r1 h1 hq => ?_)
      obtain ⟨rfl, hq, hG⟩ := hq
      replace hq := hq.symm
      subst hq
      show V _ _ _ _ (_ :: _) _ _
      refine v_if_ne 25 dX11_leave_20 (by decide) (fun c9 => ?_) (fun c9 => ?_)
      · rw [if_neg c9] at hF
        refine v_aload_n (i := 0) dX11_leave_25 rfl rfl ?_
        refine g_X11_77 (q := 204) rfl sh_0 (by exact ltG hG (by decide)) (by exact rG hG r0_0_12) dX11_leave_26 ?_
        refine v_aload_n (i := 0) dX11_leave_29 rfl rfl ?_
        refine g_X11_44 (q := 30) rfl sh_0 (by exact ltG hG (by decide)) (by exact rG hG r0_0_6) dX11_leave_30 ?_
        obtain ⟨q10, q10_e, hF⟩ := Option.bind_eq_some_iff.mp hF
        refine c_X11_246 rfl sh_204 (by exact ltG hG (by decide)) (Nat.le_of_ble_eq_true rfl) dX11_leave_33 (s_X10_look _ q10_e hG (by first | assumption | exact sc_30 | exact sc_34 | exact sc_10 | exact fd_24 | exact fd_4 | exact lw_25 | exact lw_5 | exact bd_23 | exact bd_3 | exact ⟨by first | assumption | rfl, by first | decide | omega⟩)) (fun r1 h1 hq => ?_)
        obtain ⟨rfl, hq, hG⟩ := hq
        replace hq := hq.symm
        subst hq
        simp only [Option.toList, List.nil_append]
        refine v_aload_n (i := 0) dX11_leave_36 rfl rfl ?_
        refine g_X11_77 (q := 204) rfl sh_0 (by exact ltG hG (by decide)) (by exact rG hG r0_0_12) dX11_leave_37 ?_
        refine v_iload_n (i := 1) dX11_leave_40 rfl rfl ?_
        refine v_iload_n (i := 2) dX11_leave_41 rfl rfl ?_
        obtain ⟨q12, q12_e, hF⟩ := Option.bind_eq_some_iff.mp hF
        refine c_X11_257 rfl sh_204 (by exact ltG hG (by decide)) (Nat.le_of_ble_eq_true rfl) dX11_leave_42 (s_X10_bestWait _ q12_e hG) (fun r1 h1 hq => ?_)
        obtain ⟨rfl, hq, hG⟩ := hq
        replace hq := hq.symm
        subst hq
        show V _ _ _ _ (_ :: _) _ _
        refine v_istore (i := 4) dX11_leave_45 (by decide) (nlT rfl) ?_
        simp only [List.set_cons_zero, List.set_cons_succ]
        refine v_iload (i := 4) dX11_leave_47 rfl ?_
        refine v_iconst (v := (-1)) dX11_leave_49 (by decide) ?_
        refine v_icmp_ne 56 dX11_leave_50 (by decide) (fun c14 => ?_) (fun c14 => ?_)
        · rw [if_neg c14] at hF
          refine v_iload_n (i := 3) dX11_leave_56 rfl rfl ?_
          refine v_if_ne 65 dX11_leave_57 (by decide) (fun c15 => ?_) (fun c15 => ?_)
          · rw [if_neg c15] at hF
            refine v_aload_n (i := 0) dX11_leave_65 rfl rfl ?_
            refine g_X11_77 (q := 204) rfl sh_0 (by exact ltG hG (by decide)) (by exact rG hG r0_0_12) dX11_leave_66 ?_
            refine v_iload_n (i := 1) dX11_leave_69 rfl rfl ?_
            refine v_iload_n (i := 2) dX11_leave_70 rfl rfl ?_
            refine v_aload_n (i := 0) dX11_leave_71 rfl rfl ?_
            refine g_X11_44 (q := 30) rfl sh_0 (by exact ltG hG (by decide)) (by exact rG hG r0_0_6) dX11_leave_72 ?_
            refine g_X11_139 rfl sh_30 (by exact ltG hG (by decide)) dX11_leave_75 ?_
            refine v_iload (i := 4) dX11_leave_78 rfl ?_
            refine v_iadd dX11_leave_80 ?_
            refine v_iconst (v := 0) dX11_leave_81 (by decide) ?_
            refine v_bipush (v := 100) dX11_leave_82 (by decide) ?_
            obtain ⟨q16, q16_e, hF⟩ := Option.bind_eq_some_iff.mp hF
            refine c_X11_249 rfl sh_204 (by exact ltG hG (by decide)) (Nat.le_of_ble_eq_true rfl) dX11_leave_84 (s_X10_fewest _ q16_e hG) (fun r1 h1 hq => ?_)
            obtain ⟨rfl, hq, hG⟩ := hq
            replace hq := hq.symm
            subst hq
            show V _ _ _ _ (_ :: _) _ _
            refine v_ireturn rfl dX11_leave_87 ?_
            obtain ⟨rfl, rfl⟩ := Prod.mk.inj (Option.some.inj hF)
            exact ⟨rfl, rfl, hG⟩
          · rw [if_pos c15] at hF
            refine v_iload (i := 4) dX11_leave_60 rfl ?_
            refine v_goto 87 dX11_leave_62 (by decide) ?_
            refine v_ireturn rfl dX11_leave_87 ?_
            obtain ⟨rfl, rfl⟩ := Prod.mk.inj (Option.some.inj hF)
            exact ⟨rfl, rfl, hG⟩
        · rw [if_pos c14] at hF
          refine v_bipush (v := (-2)) dX11_leave_53 (by decide) ?_
          refine v_ireturn rfl dX11_leave_55 ?_
          obtain ⟨rfl, rfl⟩ := Prod.mk.inj (Option.some.inj hF)
          exact ⟨rfl, rfl, hG⟩
      · rw [if_pos c9] at hF
        refine v_iconst (v := (-1)) dX11_leave_23 (by decide) ?_
        refine v_ireturn rfl dX11_leave_24 ?_
        obtain ⟨rfl, rfl⟩ := Prod.mk.inj (Option.some.inj hF)
        exact ⟨rfl, rfl, hG⟩
def F_X11_mows (n : Nat) (h : Hp) (x1 : Int32) (x2 : Int32) (x3 : Int32) (x4 : Int32) : Option (Int32 × Hp) := ((F_X11_isFree n h x1).bind (fun q1 => (if (q1.1 : Int32) = 0 then some ((-1), q1.2) else ((F_X11_isFree n q1.2 x2).bind (fun q4 => (if (q4.1 : Int32) = 0 then some ((-1), q4.2) else ((F_X11_isSpan n q4.2 x3).bind (fun q7 => (if (q7.1 : Int32) = 0 then some ((-1), q7.2) else ((F_X11_isNoughtOrOne n q7.2 x4).bind (fun q10 => (if (q10.1 : Int32) = 0 then some ((-1), q10.2) else ((F_X10_look n q10.2 30).bind (fun q13 => ((F_X10_fewestMown n q13 x1 x2 x3 (hi q13 30 3)).bind (fun q15 => (if (q15.1 : Int32) = ((-1) : Int32) then some ((-2), q15.2) else (if (x4 : Int32) = 0 then ((F_J6_bitCount_0f7a4 n q15.2 q15.1).bind (fun q19 => some (q19.1, q19.2))) else some (q15.1, q15.2)))))))))))))))))))
set_option maxRecDepth 100000 in
set_option maxHeartbeats 4000000 in
theorem s_X11_mows (d : Nat) {n : Nat} {h : Hp} {x1 : Int32} {x2 : Int32} {x3 : Int32} {x4 : Int32} {q0 : (Int32 × Hp)} (hF : F_X11_mows n h x1 x2 x3 x4 = some q0) (hG : G h)  : Kc mX11_mows (d + 6) [.ref 0, .int x1, .int x2, .int x3, .int x4] h (fun r1 h1 => r1 = some (.int q0.1) ∧ h1 = q0.2 ∧ G q0.2) := by
  obtain ⟨r, h'⟩ := q0
  unfold F_X11_mows at hF
  refine Kc.of [some (.ref 0), some (.int x1), some (.int x2), some (.int x3), some (.int x4), none] ok_X11_mows rfl (Nat.le_of_ble_eq_true rfl) ?_
  refine v_aload_n (i := 0) dX11_mows_0 rfl rfl ?_
  refine v_iload_n (i := 1) dX11_mows_1 rfl rfl ?_
  obtain ⟨q1, q1_e, hF⟩ := Option.bind_eq_some_iff.mp hF
  refine c_X11_243 rfl sh_0 (by exact ltG hG (by decide)) (Nat.le_of_ble_eq_true rfl) dX11_mows_2 (s_X11_isFree _ q1_e hG) (fun r1 h1 hq => ?_)
  obtain ⟨rfl, hq, hG⟩ := hq
  replace hq := hq.symm
  subst hq
  show V _ _ _ _ (_ :: _) _ _
  refine v_if_eq 31 dX11_mows_5 (by decide) (fun c3 => ?_) (fun c3 => ?_)
  · rw [if_pos c3] at hF
    refine v_iconst (v := (-1)) dX11_mows_31 (by decide) ?_
    refine v_ireturn rfl dX11_mows_32 ?_
    obtain ⟨rfl, rfl⟩ := Prod.mk.inj (Option.some.inj hF)
    exact ⟨rfl, rfl, hG⟩
  · rw [if_neg c3] at hF
    refine v_aload_n (i := 0) dX11_mows_8 rfl rfl ?_
    refine v_iload_n (i := 2) dX11_mows_9 rfl rfl ?_
    obtain ⟨q4, q4_e, hF⟩ := Option.bind_eq_some_iff.mp hF
    refine c_X11_243 rfl sh_0 (by exact ltG hG (by decide)) (Nat.le_of_ble_eq_true rfl) dX11_mows_10 (s_X11_isFree _ q4_e hG) (fun r1 h1 hq => ?_)
    obtain ⟨rfl, hq, hG⟩ := hq
    replace hq := hq.symm
    subst hq
    show V _ _ _ _ (_ :: _) _ _
    refine v_if_eq 31 dX11_mows_13 (by decide) (fun c6 => ?_) (fun c6 => ?_)
    · rw [if_pos c6] at hF
      refine v_iconst (v := (-1)) dX11_mows_31 (by decide) ?_
      refine v_ireturn rfl dX11_mows_32 ?_
      obtain ⟨rfl, rfl⟩ := Prod.mk.inj (Option.some.inj hF)
      exact ⟨rfl, rfl, hG⟩
    · rw [if_neg c6] at hF
      refine v_iload_n (i := 3) dX11_mows_16 rfl rfl ?_
      obtain ⟨q7, q7_e, hF⟩ := Option.bind_eq_some_iff.mp hF
      refine c_X11_226 rfl (Nat.le_of_ble_eq_true rfl) dX11_mows_17 (s_X11_isSpan _ q7_e hG) (fun r1 h1 hq => ?_)
      obtain ⟨rfl, hq, hG⟩ := hq
      replace hq := hq.symm
      subst hq
      show V _ _ _ _ (_ :: _) _ _
      refine v_if_eq 31 dX11_mows_20 (by decide) (fun c9 => ?_) (fun c9 => ?_)
      · rw [if_pos c9] at hF
        refine v_iconst (v := (-1)) dX11_mows_31 (by decide) ?_
        refine v_ireturn rfl dX11_mows_32 ?_
        obtain ⟨rfl, rfl⟩ := Prod.mk.inj (Option.some.inj hF)
        exact ⟨rfl, rfl, hG⟩
      · rw [if_neg c9] at hF
        refine v_iload (i := 4) dX11_mows_23 rfl ?_
        obtain ⟨q10, q10_e, hF⟩ := Option.bind_eq_some_iff.mp hF
        refine c_X11_237 rfl (Nat.le_of_ble_eq_true rfl) dX11_mows_25 (s_X11_isNoughtOrOne _ q10_e hG) (fun r1 h1 hq => ?_)
        obtain ⟨rfl, hq, hG⟩ := hq
        replace hq := hq.symm
        subst hq
        show V _ _ _ _ (_ :: _) _ _
        refine v_if_ne 33 dX11_mows_28 (by decide) (fun c12 => ?_) (fun c12 => ?_)
        · rw [if_neg c12] at hF
          refine v_aload_n (i := 0) dX11_mows_33 rfl rfl ?_
          refine g_X11_77 (q := 204) rfl sh_0 (by exact ltG hG (by decide)) (by exact rG hG r0_0_12) dX11_mows_34 ?_
          refine v_aload_n (i := 0) dX11_mows_37 rfl rfl ?_
          refine g_X11_44 (q := 30) rfl sh_0 (by exact ltG hG (by decide)) (by exact rG hG r0_0_6) dX11_mows_38 ?_
          obtain ⟨q13, q13_e, hF⟩ := Option.bind_eq_some_iff.mp hF
          refine c_X11_246 rfl sh_204 (by exact ltG hG (by decide)) (Nat.le_of_ble_eq_true rfl) dX11_mows_41 (s_X10_look _ q13_e hG (by first | assumption | exact sc_30 | exact sc_34 | exact sc_10 | exact fd_24 | exact fd_4 | exact lw_25 | exact lw_5 | exact bd_23 | exact bd_3 | exact ⟨by first | assumption | rfl, by first | decide | omega⟩)) (fun r1 h1 hq => ?_)
          obtain ⟨rfl, hq, hG⟩ := hq
          replace hq := hq.symm
          subst hq
          simp only [Option.toList, List.nil_append]
          refine v_aload_n (i := 0) dX11_mows_44 rfl rfl ?_
          refine g_X11_77 (q := 204) rfl sh_0 (by exact ltG hG (by decide)) (by exact rG hG r0_0_12) dX11_mows_45 ?_
          refine v_iload_n (i := 1) dX11_mows_48 rfl rfl ?_
          refine v_iload_n (i := 2) dX11_mows_49 rfl rfl ?_
          refine v_iload_n (i := 3) dX11_mows_50 rfl rfl ?_
          refine v_aload_n (i := 0) dX11_mows_51 rfl rfl ?_
          refine g_X11_44 (q := 30) rfl sh_0 (by exact ltG hG (by decide)) (by exact rG hG r0_0_6) dX11_mows_52 ?_
          refine g_X11_183 rfl sh_30 (by exact ltG hG (by decide)) dX11_mows_55 ?_
          obtain ⟨q15, q15_e, hF⟩ := Option.bind_eq_some_iff.mp hF
          refine c_X11_260 rfl sh_204 (by exact ltG hG (by decide)) (Nat.le_of_ble_eq_true rfl) dX11_mows_58 (s_X10_fewestMown _ q15_e hG) (fun r1 h1 hq => ?_)
          obtain ⟨rfl, hq, hG⟩ := hq
          replace hq := hq.symm
          subst hq
          show V _ _ _ _ (_ :: _) _ _
          refine v_istore (i := 5) dX11_mows_61 (by decide) (nlT rfl) ?_
          simp only [List.set_cons_zero, List.set_cons_succ]
          refine v_iload (i := 5) dX11_mows_63 rfl ?_
          refine v_iconst (v := (-1)) dX11_mows_65 (by decide) ?_
          refine v_icmp_ne 72 dX11_mows_66 (by decide) (fun c17 => ?_) (fun c17 => ?_)
          · rw [if_neg c17] at hF
            refine v_iload (i := 4) dX11_mows_72 rfl ?_
            refine v_if_ne 85 dX11_mows_74 (by decide) (fun c18 => ?_) (fun c18 => ?_)
            · rw [if_neg c18] at hF
              refine v_iload (i := 5) dX11_mows_85 rfl ?_
              refine v_ireturn rfl dX11_mows_87 ?_
              obtain ⟨rfl, rfl⟩ := Prod.mk.inj (Option.some.inj hF)
              exact ⟨rfl, rfl, hG⟩
            · rw [if_pos c18] at hF
              refine v_iload (i := 5) dX11_mows_77 rfl ?_
              obtain ⟨q19, q19_e, hF⟩ := Option.bind_eq_some_iff.mp hF
              refine c_X11_196 rfl (Nat.le_of_ble_eq_true rfl) dX11_mows_79 (s_J6_bitCount_0f7a4 _ q19_e hG) (fun r1 h1 hq => ?_)
              obtain ⟨rfl, hq, hG⟩ := hq
              replace hq := hq.symm
              subst hq
              show V _ _ _ _ (_ :: _) _ _
              refine v_goto 87 dX11_mows_82 (by decide) ?_
              refine v_ireturn rfl dX11_mows_87 ?_
              obtain ⟨rfl, rfl⟩ := Prod.mk.inj (Option.some.inj hF)
              exact ⟨rfl, rfl, hG⟩
          · rw [if_pos c17] at hF
            refine v_bipush (v := (-2)) dX11_mows_69 (by decide) ?_
            refine v_ireturn rfl dX11_mows_71 ?_
            obtain ⟨rfl, rfl⟩ := Prod.mk.inj (Option.some.inj hF)
            exact ⟨rfl, rfl, hG⟩
        · rw [if_pos c12] at hF
          refine v_iconst (v := (-1)) dX11_mows_31 (by decide) ?_
          refine v_ireturn rfl dX11_mows_32 ?_
          obtain ⟨rfl, rfl⟩ := Prod.mk.inj (Option.some.inj hF)
          exact ⟨rfl, rfl, hG⟩
def F_X7_readUnit (S : Nat → Hp → Int32 → Option Hp) (n : Nat) (h : Hp) (x1 : Int32) : Option Hp := ((F_X7_kind n h).bind (fun q1 => (if (q1.1 : Int32) = (30 : Int32) then ((F_X9_valueOf n q1.2 (hi q1.2 2 4)).bind (fun q50 => ((F_X4_add n q50.2 5 (q50.1 : Int64).toInt32).bind (fun q52 => ((F_X7_take n q52 q1.1).bind (fun q54 => some q54.2)))))) else (if (q1.1 : Int32) < 0 then (if (q1.1 : Int32) = (40 : Int32) then (if (x1 : Int32) < (6 : Int32) then ((F_X7_take n q1.2 q1.1).bind (fun q7 => (if (q7.1 : Int32) = 0 then some q7.2 else ((S n q7.2 (x1 + 1)).bind (fun q10 => ((F_X7_take n q10 41).bind (fun q12 => some q12.2))))))) else ((F_X7_stop n q1.2 2).bind (fun q14 => ((F_X7_take n q14 q1.1).bind (fun q16 => (if (q16.1 : Int32) = 0 then some q16.2 else ((S n q16.2 (x1 + 1)).bind (fun q19 => ((F_X7_take n q19 41).bind (fun q21 => some q21.2)))))))))) else ((F_X7_stop n q1.2 1).bind (fun q23 => some q23))) else (if (9 : Int32) ≤ (q1.1 : Int32) then (if (q1.1 : Int32) = (40 : Int32) then (if (x1 : Int32) < (6 : Int32) then ((F_X7_take n q1.2 q1.1).bind (fun q28 => (if (q28.1 : Int32) = 0 then some q28.2 else ((S n q28.2 (x1 + 1)).bind (fun q31 => ((F_X7_take n q31 41).bind (fun q33 => some q33.2))))))) else ((F_X7_stop n q1.2 2).bind (fun q35 => ((F_X7_take n q35 q1.1).bind (fun q37 => (if (q37.1 : Int32) = 0 then some q37.2 else ((S n q37.2 (x1 + 1)).bind (fun q40 => ((F_X7_take n q40 41).bind (fun q42 => some q42.2)))))))))) else ((F_X7_stop n q1.2 1).bind (fun q44 => some q44))) else ((F_X4_add n q1.2 5 ((-1) - q1.1)).bind (fun q46 => ((F_X7_take n q46 q1.1).bind (fun q48 => some q48.2)))))))))
set_option maxRecDepth 100000 in
set_option maxHeartbeats 4000000 in
theorem s_X7_readUnit (d : Nat) {e : Nat} {S : Nat → Hp → Int32 → Option Hp} (hS : ∀ d' : Nat, e ≤ d' → ∀ {n : Nat} {h : Hp} {x1 : Int32} {q0 : Hp}, S n h x1 = some q0 → G h → Kc mX7_readSum d' [.ref 2, .int x1] h (fun r1 h1 => r1 = none ∧ h1 = q0 ∧ G q0)) {n : Nat} {h : Hp} {x1 : Int32} {q0 : Hp} (hF : F_X7_readUnit S n h x1 = some q0) (hG : G h)  : Kc mX7_readUnit (d + e + 2) [.ref 2, .int x1] h (fun r1 h1 => r1 = none ∧ h1 = q0 ∧ G q0) := by
  obtain ⟨h', rfl⟩ : ∃ z, z = q0 := ⟨_, rfl⟩
  unfold F_X7_readUnit at hF
  refine Kc.of [some (.ref 2), some (.int x1), none] ok_X7_readUnit rfl (Nat.le_of_ble_eq_true rfl) ?_
  refine v_aload_n (i := 0) dX7_readUnit_0 rfl rfl ?_
  obtain ⟨q1, q1_e, hF⟩ := Option.bind_eq_some_iff.mp hF
  refine c_X7_80 rfl sh_2 (by exact ltG hG (by decide)) (Nat.le_of_ble_eq_true rfl) dX7_readUnit_1 (s_X7_kind _ q1_e hG) (fun r1 h1 hq => ?_)
  obtain ⟨rfl, hq, hG⟩ := hq
  replace hq := hq.symm
  subst hq
  show V _ _ _ _ (_ :: _) _ _
  refine v_istore_n (i := 2) dX7_readUnit_4 rfl (by decide) (nlT rfl) ?_
  simp only [List.set_cons_zero, List.set_cons_succ]
  refine v_iload_n (i := 2) dX7_readUnit_5 rfl rfl ?_
  refine v_bipush (v := 30) dX7_readUnit_6 (by decide) ?_
  refine v_icmp_ne 42 dX7_readUnit_8 (by decide) (fun c3 => ?_) (fun c3 => ?_)
  · rw [if_neg c3] at hF
    refine v_iload_n (i := 2) dX7_readUnit_42 rfl rfl ?_
    refine v_if_lt 74 dX7_readUnit_43 (by decide) (fun c4 => ?_) (fun c4 => ?_)
    · rw [if_pos c4] at hF
      refine v_iload_n (i := 2) dX7_readUnit_74 rfl rfl ?_
      refine v_bipush (v := 40) dX7_readUnit_75 (by decide) ?_
      refine v_icmp_eq 88 dX7_readUnit_77 (by decide) (fun c5 => ?_) (fun c5 => ?_)
      · rw [if_pos c5] at hF
        refine v_iload_n (i := 1) dX7_readUnit_88 rfl rfl ?_
        refine v_bipush (v := 6) dX7_readUnit_89 (by decide) ?_
        refine v_icmp_lt 99 dX7_readUnit_91 (by decide) (fun c6 => ?_) (fun c6 => ?_)
        · rw [if_pos c6] at hF
          refine v_aload_n (i := 0) dX7_readUnit_99 rfl rfl ?_
          refine v_iload_n (i := 2) dX7_readUnit_100 rfl rfl ?_
          obtain ⟨q7, q7_e, hF⟩ := Option.bind_eq_some_iff.mp hF
          refine c_X7_120 rfl sh_2 (by exact ltG hG (by decide)) (Nat.le_of_ble_eq_true rfl) dX7_readUnit_101 (s_X7_take _ q7_e hG) (fun r1 h1 hq => ?_)
          obtain ⟨rfl, hq, hG⟩ := hq
          replace hq := hq.symm
          subst hq
          show V _ _ _ _ (_ :: _) _ _
          refine v_if_eq 121 dX7_readUnit_104 (by decide) (fun c9 => ?_) (fun c9 => ?_)
          · rw [if_pos c9] at hF
            refine v_return rfl dX7_readUnit_121 ?_
            obtain rfl := Option.some.inj hF
            exact ⟨rfl, rfl, hG⟩
          · rw [if_neg c9] at hF
            refine v_aload_n (i := 0) dX7_readUnit_107 rfl rfl ?_
            refine v_iload_n (i := 1) dX7_readUnit_108 rfl rfl ?_
            refine v_iconst (v := 1) dX7_readUnit_109 (by decide) ?_
            refine v_iadd dX7_readUnit_110 ?_
            obtain ⟨q10, q10_e, hF⟩ := Option.bind_eq_some_iff.mp hF
            refine c_X7_177 rfl sh_2 (by exact ltG hG (by decide)) (Nat.le_of_ble_eq_true rfl) dX7_readUnit_111 (hS _ (by omega) q10_e hG) (fun r1 h1 hq => ?_)
            obtain ⟨rfl, hq, hG⟩ := hq
            replace hq := hq.symm
            subst hq
            simp only [Option.toList, List.nil_append]
            refine v_aload_n (i := 0) dX7_readUnit_114 rfl rfl ?_
            refine v_bipush (v := 41) dX7_readUnit_115 (by decide) ?_
            obtain ⟨q12, q12_e, hF⟩ := Option.bind_eq_some_iff.mp hF
            refine c_X7_120 rfl sh_2 (by exact ltG hG (by decide)) (Nat.le_of_ble_eq_true rfl) dX7_readUnit_117 (s_X7_take _ q12_e hG) (fun r1 h1 hq => ?_)
            obtain ⟨rfl, hq, hG⟩ := hq
            replace hq := hq.symm
            subst hq
            show V _ _ _ _ (_ :: _) _ _
            refine v_pop dX7_readUnit_120 rfl ?_
            refine v_return rfl dX7_readUnit_121 ?_
            obtain rfl := Option.some.inj hF
            exact ⟨rfl, rfl, hG⟩
        · rw [if_neg c6] at hF
          refine v_aload_n (i := 0) dX7_readUnit_94 rfl rfl ?_
          refine v_iconst (v := 2) dX7_readUnit_95 (by decide) ?_
          obtain ⟨q14, q14_e, hF⟩ := Option.bind_eq_some_iff.mp hF
          refine c_X7_105 rfl sh_2 (by exact ltG hG (by decide)) (Nat.le_of_ble_eq_true rfl) dX7_readUnit_96 (s_X7_stop _ q14_e hG) (fun r1 h1 hq => ?_)
          obtain ⟨rfl, hq, hG⟩ := hq
          replace hq := hq.symm
          subst hq
          simp only [Option.toList, List.nil_append]
          refine v_aload_n (i := 0) dX7_readUnit_99 rfl rfl ?_
          refine v_iload_n (i := 2) dX7_readUnit_100 rfl rfl ?_
          obtain ⟨q16, q16_e, hF⟩ := Option.bind_eq_some_iff.mp hF
          refine c_X7_120 rfl sh_2 (by exact ltG hG (by decide)) (Nat.le_of_ble_eq_true rfl) dX7_readUnit_101 (s_X7_take _ q16_e hG) (fun r1 h1 hq => ?_)
          obtain ⟨rfl, hq, hG⟩ := hq
          replace hq := hq.symm
          subst hq
          show V _ _ _ _ (_ :: _) _ _
          refine v_if_eq 121 dX7_readUnit_104 (by decide) (fun c18 => ?_) (fun c18 => ?_)
          · rw [if_pos c18] at hF
            refine v_return rfl dX7_readUnit_121 ?_
            obtain rfl := Option.some.inj hF
            exact ⟨rfl, rfl, hG⟩
          · rw [if_neg c18] at hF
            refine v_aload_n (i := 0) dX7_readUnit_107 rfl rfl ?_
            refine v_iload_n (i := 1) dX7_readUnit_108 rfl rfl ?_
            refine v_iconst (v := 1) dX7_readUnit_109 (by decide) ?_
            refine v_iadd dX7_readUnit_110 ?_
            obtain ⟨q19, q19_e, hF⟩ := Option.bind_eq_some_iff.mp hF
            refine c_X7_177 rfl sh_2 (by exact ltG hG (by decide)) (Nat.le_of_ble_eq_true rfl) dX7_readUnit_111 (hS _ (by omega) q19_e hG) (fun r1 h1 hq => ?_)
            obtain ⟨rfl, hq, hG⟩ := hq
            replace hq := hq.symm
            subst hq
            simp only [Option.toList, List.nil_append]
            refine v_aload_n (i := 0) dX7_readUnit_114 rfl rfl ?_
            refine v_bipush (v := 41) dX7_readUnit_115 (by decide) ?_
            obtain ⟨q21, q21_e, hF⟩ := Option.bind_eq_some_iff.mp hF
            refine c_X7_120 rfl sh_2 (by exact ltG hG (by decide)) (Nat.le_of_ble_eq_true rfl) dX7_readUnit_117 (s_X7_take _ q21_e hG) (fun r1 h1 hq => ?_)
            obtain ⟨rfl, hq, hG⟩ := hq
            replace hq := hq.symm
            subst hq
            show V _ _ _ _ (_ :: _) _ _
            refine v_pop dX7_readUnit_120 rfl ?_
            refine v_return rfl dX7_readUnit_121 ?_
            obtain rfl := Option.some.inj hF
            exact ⟨rfl, rfl, hG⟩
      · rw [if_neg c5] at hF
        refine v_aload_n (i := 0) dX7_readUnit_80 rfl rfl ?_
        refine v_iconst (v := 1) dX7_readUnit_81 (by decide) ?_
        obtain ⟨q23, q23_e, hF⟩ := Option.bind_eq_some_iff.mp hF
        refine c_X7_105 rfl sh_2 (by exact ltG hG (by decide)) (Nat.le_of_ble_eq_true rfl) dX7_readUnit_82 (s_X7_stop _ q23_e hG) (fun r1 h1 hq => ?_)
        obtain ⟨rfl, hq, hG⟩ := hq
        replace hq := hq.symm
        subst hq
        simp only [Option.toList, List.nil_append]
        refine v_goto 121 dX7_readUnit_85 (by decide) ?_
        refine v_return rfl dX7_readUnit_121 ?_
        obtain rfl := Option.some.inj hF
        exact ⟨rfl, rfl, hG⟩
    · rw [if_neg c4] at hF
      refine v_iload_n (i := 2) dX7_readUnit_46 rfl rfl ?_
      refine v_bipush (v := 9) dX7_readUnit_47 (by decide) ?_
      refine v_icmp_ge 74 dX7_readUnit_49 (by decide) (fun c25 => ?_) (fun c25 => ?_)
      · rw [if_pos c25] at hF
        refine v_iload_n (i := 2) dX7_readUnit_74 rfl rfl ?_
        refine v_bipush (v := 40) dX7_readUnit_75 (by decide) ?_
        refine v_icmp_eq 88 dX7_readUnit_77 (by decide) (fun c26 => ?_) (fun c26 => ?_)
        · rw [if_pos c26] at hF
          refine v_iload_n (i := 1) dX7_readUnit_88 rfl rfl ?_
          refine v_bipush (v := 6) dX7_readUnit_89 (by decide) ?_
          refine v_icmp_lt 99 dX7_readUnit_91 (by decide) (fun c27 => ?_) (fun c27 => ?_)
          · rw [if_pos c27] at hF
            refine v_aload_n (i := 0) dX7_readUnit_99 rfl rfl ?_
            refine v_iload_n (i := 2) dX7_readUnit_100 rfl rfl ?_
            obtain ⟨q28, q28_e, hF⟩ := Option.bind_eq_some_iff.mp hF
            refine c_X7_120 rfl sh_2 (by exact ltG hG (by decide)) (Nat.le_of_ble_eq_true rfl) dX7_readUnit_101 (s_X7_take _ q28_e hG) (fun r1 h1 hq => ?_)
            obtain ⟨rfl, hq, hG⟩ := hq
            replace hq := hq.symm
            subst hq
            show V _ _ _ _ (_ :: _) _ _
            refine v_if_eq 121 dX7_readUnit_104 (by decide) (fun c30 => ?_) (fun c30 => ?_)
            · rw [if_pos c30] at hF
              refine v_return rfl dX7_readUnit_121 ?_
              obtain rfl := Option.some.inj hF
              exact ⟨rfl, rfl, hG⟩
            · rw [if_neg c30] at hF
              refine v_aload_n (i := 0) dX7_readUnit_107 rfl rfl ?_
              refine v_iload_n (i := 1) dX7_readUnit_108 rfl rfl ?_
              refine v_iconst (v := 1) dX7_readUnit_109 (by decide) ?_
              refine v_iadd dX7_readUnit_110 ?_
              obtain ⟨q31, q31_e, hF⟩ := Option.bind_eq_some_iff.mp hF
              refine c_X7_177 rfl sh_2 (by exact ltG hG (by decide)) (Nat.le_of_ble_eq_true rfl) dX7_readUnit_111 (hS _ (by omega) q31_e hG) (fun r1 h1 hq => ?_)
              obtain ⟨rfl, hq, hG⟩ := hq
              replace hq := hq.symm
              subst hq
              simp only [Option.toList, List.nil_append]
              refine v_aload_n (i := 0) dX7_readUnit_114 rfl rfl ?_
              refine v_bipush (v := 41) dX7_readUnit_115 (by decide) ?_
              obtain ⟨q33, q33_e, hF⟩ := Option.bind_eq_some_iff.mp hF
              refine c_X7_120 rfl sh_2 (by exact ltG hG (by decide)) (Nat.le_of_ble_eq_true rfl) dX7_readUnit_117 (s_X7_take _ q33_e hG) (fun r1 h1 hq => ?_)
              obtain ⟨rfl, hq, hG⟩ := hq
              replace hq := hq.symm
              subst hq
              show V _ _ _ _ (_ :: _) _ _
              refine v_pop dX7_readUnit_120 rfl ?_
              refine v_return rfl dX7_readUnit_121 ?_
              obtain rfl := Option.some.inj hF
              exact ⟨rfl, rfl, hG⟩
          · rw [if_neg c27] at hF
            refine v_aload_n (i := 0) dX7_readUnit_94 rfl rfl ?_
            refine v_iconst (v := 2) dX7_readUnit_95 (by decide) ?_
            obtain ⟨q35, q35_e, hF⟩ := Option.bind_eq_some_iff.mp hF
            refine c_X7_105 rfl sh_2 (by exact ltG hG (by decide)) (Nat.le_of_ble_eq_true rfl) dX7_readUnit_96 (s_X7_stop _ q35_e hG) (fun r1 h1 hq => ?_)
            obtain ⟨rfl, hq, hG⟩ := hq
            replace hq := hq.symm
            subst hq
            simp only [Option.toList, List.nil_append]
            refine v_aload_n (i := 0) dX7_readUnit_99 rfl rfl ?_
            refine v_iload_n (i := 2) dX7_readUnit_100 rfl rfl ?_
            obtain ⟨q37, q37_e, hF⟩ := Option.bind_eq_some_iff.mp hF
            refine c_X7_120 rfl sh_2 (by exact ltG hG (by decide)) (Nat.le_of_ble_eq_true rfl) dX7_readUnit_101 (s_X7_take _ q37_e hG) (fun r1 h1 hq => ?_)
            obtain ⟨rfl, hq, hG⟩ := hq
            replace hq := hq.symm
            subst hq
            show V _ _ _ _ (_ :: _) _ _
            refine v_if_eq 121 dX7_readUnit_104 (by decide) (fun c39 => ?_) (fun c39 => ?_)
            · rw [if_pos c39] at hF
              refine v_return rfl dX7_readUnit_121 ?_
              obtain rfl := Option.some.inj hF
              exact ⟨rfl, rfl, hG⟩
            · rw [if_neg c39] at hF
              refine v_aload_n (i := 0) dX7_readUnit_107 rfl rfl ?_
              refine v_iload_n (i := 1) dX7_readUnit_108 rfl rfl ?_
              refine v_iconst (v := 1) dX7_readUnit_109 (by decide) ?_
              refine v_iadd dX7_readUnit_110 ?_
              obtain ⟨q40, q40_e, hF⟩ := Option.bind_eq_some_iff.mp hF
              refine c_X7_177 rfl sh_2 (by exact ltG hG (by decide)) (Nat.le_of_ble_eq_true rfl) dX7_readUnit_111 (hS _ (by omega) q40_e hG) (fun r1 h1 hq => ?_)
              obtain ⟨rfl, hq, hG⟩ := hq
              replace hq := hq.symm
              subst hq
              simp only [Option.toList, List.nil_append]
              refine v_aload_n (i := 0) dX7_readUnit_114 rfl rfl ?_
              refine v_bipush (v := 41) dX7_readUnit_115 (by decide) ?_
              obtain ⟨q42, q42_e, hF⟩ := Option.bind_eq_some_iff.mp hF
              refine c_X7_120 rfl sh_2 (by exact ltG hG (by decide)) (Nat.le_of_ble_eq_true rfl) dX7_readUnit_117 (s_X7_take _ q42_e hG) (fun r1 h1 hq => ?_)
              obtain ⟨rfl, hq, hG⟩ := hq
              replace hq := hq.symm
              subst hq
              show V _ _ _ _ (_ :: _) _ _
              refine v_pop dX7_readUnit_120 rfl ?_
              refine v_return rfl dX7_readUnit_121 ?_
              obtain rfl := Option.some.inj hF
              exact ⟨rfl, rfl, hG⟩
        · rw [if_neg c26] at hF
          refine v_aload_n (i := 0) dX7_readUnit_80 rfl rfl ?_
          refine v_iconst (v := 1) dX7_readUnit_81 (by decide) ?_
          obtain ⟨q44, q44_e, hF⟩ := Option.bind_eq_some_iff.mp hF
          refine c_X7_105 rfl sh_2 (by exact ltG hG (by decide)) (Nat.le_of_ble_eq_true rfl) dX7_readUnit_82 (s_X7_stop _ q44_e hG) (fun r1 h1 hq => ?_)
          obtain ⟨rfl, hq, hG⟩ := hq
          replace hq := hq.symm
          subst hq
          simp only [Option.toList, List.nil_append]
          refine v_goto 121 dX7_readUnit_85 (by decide) ?_
          refine v_return rfl dX7_readUnit_121 ?_
          obtain rfl := Option.some.inj hF
          exact ⟨rfl, rfl, hG⟩
      · rw [if_neg c25] at hF
        refine v_aload_n (i := 0) dX7_readUnit_52 rfl rfl ?_
        refine g_X7_12 (q := 3) rfl sh_2 (by exact ltG hG (by decide)) (by exact rG hG r0_2_0) dX7_readUnit_53 ?_
        refine g_X7_168 (q := 5) rfl sh_3 (by exact ltG hG (by decide)) (by exact rG hG r0_3_1) dX7_readUnit_56 ?_
        refine v_iconst (v := (-1)) dX7_readUnit_59 (by decide) ?_
        refine v_iload_n (i := 2) dX7_readUnit_60 rfl rfl ?_
        refine v_isub dX7_readUnit_61 ?_
        obtain ⟨q46, q46_e, hF⟩ := Option.bind_eq_some_iff.mp hF
        refine c_X7_183 rfl sh_5 (by exact ltG hG (by decide)) (Nat.le_of_ble_eq_true rfl) dX7_readUnit_62 (s_X4_add _ q46_e hG (by first | assumption | exact sc_30 | exact sc_34 | exact sc_10 | exact fd_24 | exact fd_4 | exact lw_25 | exact lw_5 | exact bd_23 | exact bd_3 | exact ⟨by first | assumption | rfl, by first | decide | omega⟩)) (fun r1 h1 hq => ?_)
        obtain ⟨rfl, hq, hG⟩ := hq
        replace hq := hq.symm
        subst hq
        simp only [Option.toList, List.nil_append]
        refine v_aload_n (i := 0) dX7_readUnit_65 rfl rfl ?_
        refine v_iload_n (i := 2) dX7_readUnit_66 rfl rfl ?_
        obtain ⟨q48, q48_e, hF⟩ := Option.bind_eq_some_iff.mp hF
        refine c_X7_120 rfl sh_2 (by exact ltG hG (by decide)) (Nat.le_of_ble_eq_true rfl) dX7_readUnit_67 (s_X7_take _ q48_e hG) (fun r1 h1 hq => ?_)
        obtain ⟨rfl, hq, hG⟩ := hq
        replace hq := hq.symm
        subst hq
        show V _ _ _ _ (_ :: _) _ _
        refine v_pop dX7_readUnit_70 rfl ?_
        refine v_goto 121 dX7_readUnit_71 (by decide) ?_
        refine v_return rfl dX7_readUnit_121 ?_
        obtain rfl := Option.some.inj hF
        exact ⟨rfl, rfl, hG⟩
  · rw [if_pos c3] at hF
    refine v_aload_n (i := 0) dX7_readUnit_11 rfl rfl ?_
    refine g_X7_12 (q := 3) rfl sh_2 (by exact ltG hG (by decide)) (by exact rG hG r0_2_0) dX7_readUnit_12 ?_
    refine g_X7_168 (q := 5) rfl sh_3 (by exact ltG hG (by decide)) (by exact rG hG r0_3_1) dX7_readUnit_15 ?_
    refine v_aload_n (i := 0) dX7_readUnit_18 rfl rfl ?_
    refine g_X7_69 (q := 18) rfl sh_2 (by exact ltG hG (by decide)) (by exact rG hG r0_2_3) dX7_readUnit_19 ?_
    refine v_aload_n (i := 0) dX7_readUnit_22 rfl rfl ?_
    refine g_X7_29 rfl sh_2 (by exact ltG hG (by decide)) dX7_readUnit_23 ?_
    obtain ⟨q50, q50_e, hF⟩ := Option.bind_eq_some_iff.mp hF
    refine c_X7_137 rfl sh_18 (by exact ltG hG (by decide)) (Nat.le_of_ble_eq_true rfl) dX7_readUnit_26 (s_X9_valueOf _ q50_e hG) (fun r1 h1 hq => ?_)
    obtain ⟨rfl, hq, hG⟩ := hq
    replace hq := hq.symm
    subst hq
    show V _ _ _ _ (_ :: _) _ _
    refine v_l2i dX7_readUnit_29 ?_
    obtain ⟨q52, q52_e, hF⟩ := Option.bind_eq_some_iff.mp hF
    refine c_X7_183 rfl sh_5 (by exact ltG hG (by decide)) (Nat.le_of_ble_eq_true rfl) dX7_readUnit_30 (s_X4_add _ q52_e hG (by first | assumption | exact sc_30 | exact sc_34 | exact sc_10 | exact fd_24 | exact fd_4 | exact lw_25 | exact lw_5 | exact bd_23 | exact bd_3 | exact ⟨by first | assumption | rfl, by first | decide | omega⟩)) (fun r1 h1 hq => ?_)
    obtain ⟨rfl, hq, hG⟩ := hq
    replace hq := hq.symm
    subst hq
    simp only [Option.toList, List.nil_append]
    refine v_aload_n (i := 0) dX7_readUnit_33 rfl rfl ?_
    refine v_iload_n (i := 2) dX7_readUnit_34 rfl rfl ?_
    obtain ⟨q54, q54_e, hF⟩ := Option.bind_eq_some_iff.mp hF
    refine c_X7_120 rfl sh_2 (by exact ltG hG (by decide)) (Nat.le_of_ble_eq_true rfl) dX7_readUnit_35 (s_X7_take _ q54_e hG) (fun r1 h1 hq => ?_)
    obtain ⟨rfl, hq, hG⟩ := hq
    replace hq := hq.symm
    subst hq
    show V _ _ _ _ (_ :: _) _ _
    refine v_pop dX7_readUnit_38 rfl ?_
    refine v_goto 121 dX7_readUnit_39 (by decide) ?_
    refine v_return rfl dX7_readUnit_121 ?_
    obtain rfl := Option.some.inj hF
    exact ⟨rfl, rfl, hG⟩
def W_X7_readSum (S : Nat → Hp → Int32 → Option Hp) : Nat → Nat → Hp → Int32 → Int32 → Int32 → Option Hp
  | 0 => fun _ _ _ _ _ => none
  | n + 1 => fun hd h l1 l2 l3 => (if hd = 9 then (if (400 : Int32) < (l3 : Int32) then some h else (if ((hi h 2 5) : Int32) = 0 then ((F_X7_kind n h).bind (fun q3 => (if (q3.1 : Int32) = (42 : Int32) then ((F_X7_take n q3.2 q3.1).bind (fun q6 => ((F_X7_readUnit S n q6.2 l1).bind (fun q8 => (if (q3.1 : Int32) = (42 : Int32) then ((F_X4_add n q8 5 (-12)).bind (fun q13 => W_X7_readSum S n 9 q13  l1 l2 (l3 + 1))) else ((F_X4_add n q8 5 (-13)).bind (fun q11 => W_X7_readSum S n 9 q11  l1 l2 (l3 + 1)))))))) else (if (q3.1 : Int32) = (47 : Int32) then ((F_X7_take n q3.2 q3.1).bind (fun q52 => ((F_X7_readUnit S n q52.2 l1).bind (fun q54 => (if (q3.1 : Int32) = (42 : Int32) then ((F_X4_add n q54 5 (-12)).bind (fun q59 => W_X7_readSum S n 9 q59  l1 l2 (l3 + 1))) else ((F_X4_add n q54 5 (-13)).bind (fun q57 => W_X7_readSum S n 9 q57  l1 l2 (l3 + 1)))))))) else (if (l2 : Int32) = 0 then (if (q3.1 : Int32) = (43 : Int32) then ((F_X7_take n q3.2 q3.1).bind (fun q18 => ((F_X7_readUnit S n q18.2 l1).bind (fun q20 => W_X7_readSum S n 9 q20  l1 q3.1 (l3 + 1))))) else (if (q3.1 : Int32) = (45 : Int32) then ((F_X7_take n q3.2 q3.1).bind (fun q23 => ((F_X7_readUnit S n q23.2 l1).bind (fun q25 => W_X7_readSum S n 9 q25  l1 q3.1 (l3 + 1))))) else some q3.2)) else (if (l2 : Int32) = (43 : Int32) then ((F_X4_add n q3.2 5 (-10)).bind (fun q40 => (if (q3.1 : Int32) = (43 : Int32) then ((F_X7_take n q40 q3.1).bind (fun q43 => ((F_X7_readUnit S n q43.2 l1).bind (fun q45 => W_X7_readSum S n 9 q45  l1 q3.1 (l3 + 1))))) else (if (q3.1 : Int32) = (45 : Int32) then ((F_X7_take n q40 q3.1).bind (fun q48 => ((F_X7_readUnit S n q48.2 l1).bind (fun q50 => W_X7_readSum S n 9 q50  l1 q3.1 (l3 + 1))))) else some q40)))) else ((F_X4_add n q3.2 5 (-11)).bind (fun q28 => (if (q3.1 : Int32) = (43 : Int32) then ((F_X7_take n q28 q3.1).bind (fun q31 => ((F_X7_readUnit S n q31.2 l1).bind (fun q33 => W_X7_readSum S n 9 q33  l1 q3.1 (l3 + 1))))) else (if (q3.1 : Int32) = (45 : Int32) then ((F_X7_take n q28 q3.1).bind (fun q36 => ((F_X7_readUnit S n q36.2 l1).bind (fun q38 => W_X7_readSum S n 9 q38  l1 q3.1 (l3 + 1))))) else some q28)))))))))) else some h)) else none)
set_option maxRecDepth 100000 in
set_option maxHeartbeats 4000000 in
theorem sw_X7_readSum (d : Nat) {e : Nat} {S : Nat → Hp → Int32 → Option Hp} (hS : ∀ d' : Nat, e ≤ d' → ∀ {n : Nat} {h : Hp} {x1 : Int32} {q0 : Hp}, S n h x1 = some q0 → G h → Kc mX7_readSum d' [.ref 2, .int x1] h (fun r1 h1 => r1 = none ∧ h1 = q0 ∧ G q0))  (n : Nat) : (∀ (l1 : Int32) (l2 : Int32) (l3 : Int32) (h : Hp), ∀ (h' : Hp), W_X7_readSum S n 9 h  l1 l2 l3 = some h' → G h → V mX7_readSum (d + e + 3) 9 [some (.ref 2), some (.int l1), some (.int l2), some (.int l3), none] [] h (fun r1 h1 => r1 = none ∧ h1 = h' ∧ G h')) := by
  induction n with
  | zero => exact by intros; contradiction
  | succ n ih =>
    have s_X7_readSum_IH_9 := ih
    intro l1 l2 l3 h h' hF hG
    unfold W_X7_readSum at hF
    rw [if_pos rfl] at hF
    refine v_iload_n (i := 3) dX7_readSum_9 rfl rfl ?_
    refine v_sipush (v := 400) dX7_readSum_10 (by decide) ?_
    refine v_icmp_gt 145 dX7_readSum_13 (by decide) (fun c1 => ?_) (fun c1 => ?_)
    · rw [if_pos c1] at hF
      refine v_return rfl dX7_readSum_145 ?_
      obtain rfl := Option.some.inj hF
      exact ⟨rfl, rfl, hG⟩
    · rw [if_neg c1] at hF
      refine v_aload_n (i := 0) dX7_readSum_16 rfl rfl ?_
      refine g_X7_32 rfl sh_2 (by exact ltG hG (by decide)) dX7_readSum_17 ?_
      refine v_if_ne 145 dX7_readSum_20 (by decide) (fun c2 => ?_) (fun c2 => ?_)
      · rw [if_neg c2] at hF
        refine v_return rfl dX7_readSum_145 ?_
        obtain rfl := Option.some.inj hF
        exact ⟨rfl, rfl, hG⟩
      · rw [if_pos c2] at hF
        refine v_aload_n (i := 0) dX7_readSum_23 rfl rfl ?_
        obtain ⟨q3, q3_e, hF⟩ := Option.bind_eq_some_iff.mp hF
        refine c_X7_80 rfl sh_2 (by exact ltG hG (by decide)) (Nat.le_of_ble_eq_true rfl) dX7_readSum_24 (s_X7_kind _ q3_e hG) (fun r1 h1 hq => ?_)
        obtain ⟨rfl, hq, hG⟩ := hq
        replace hq := hq.symm
        subst hq
        show V _ _ _ _ (_ :: _) _ _
        refine v_istore (i := 4) dX7_readSum_27 (by decide) (nlT rfl) ?_
        simp only [List.set_cons_zero, List.set_cons_succ]
        refine v_iload (i := 4) dX7_readSum_29 rfl ?_
        refine v_bipush (v := 42) dX7_readSum_31 (by decide) ?_
        refine v_icmp_eq 43 dX7_readSum_33 (by decide) (fun c5 => ?_) (fun c5 => ?_)
        · rw [if_pos c5] at hF
          refine v_aload_n (i := 0) dX7_readSum_43 rfl rfl ?_
          refine v_iload (i := 4) dX7_readSum_44 rfl ?_
          obtain ⟨q6, q6_e, hF⟩ := Option.bind_eq_some_iff.mp hF
          refine c_X7_120 rfl sh_2 (by exact ltG hG (by decide)) (Nat.le_of_ble_eq_true rfl) dX7_readSum_46 (s_X7_take _ q6_e hG) (fun r1 h1 hq => ?_)
          obtain ⟨rfl, hq, hG⟩ := hq
          replace hq := hq.symm
          subst hq
          show V _ _ _ _ (_ :: _) _ _
          refine v_pop dX7_readSum_49 rfl ?_
          refine v_aload_n (i := 0) dX7_readSum_50 rfl rfl ?_
          refine v_iload_n (i := 1) dX7_readSum_51 rfl rfl ?_
          obtain ⟨q8, q8_e, hF⟩ := Option.bind_eq_some_iff.mp hF
          refine c_X7_189 rfl sh_2 (by exact ltG hG (by decide)) (Nat.le_of_ble_eq_true rfl) dX7_readSum_52 (s_X7_readUnit _ hS q8_e hG) (fun r1 h1 hq => ?_)
          obtain ⟨rfl, hq, hG⟩ := hq
          replace hq := hq.symm
          subst hq
          simp only [Option.toList, List.nil_append]
          refine v_aload_n (i := 0) dX7_readSum_55 rfl rfl ?_
          refine g_X7_12 (q := 3) rfl sh_2 (by exact ltG hG (by decide)) (by exact rG hG r0_2_0) dX7_readSum_56 ?_
          refine g_X7_168 (q := 5) rfl sh_3 (by exact ltG hG (by decide)) (by exact rG hG r0_3_1) dX7_readSum_59 ?_
          refine v_iload (i := 4) dX7_readSum_62 rfl ?_
          refine v_bipush (v := 42) dX7_readSum_64 (by decide) ?_
          refine v_icmp_ne 74 dX7_readSum_66 (by decide) (fun c10 => ?_) (fun c10 => ?_)
          · rw [if_neg c10] at hF
            refine v_bipush (v := (-13)) dX7_readSum_74 (by decide) ?_
            obtain ⟨q11, q11_e, hF⟩ := Option.bind_eq_some_iff.mp hF
            refine c_X7_183 rfl sh_5 (by exact ltG hG (by decide)) (Nat.le_of_ble_eq_true rfl) dX7_readSum_76 (s_X4_add _ q11_e hG (by first | assumption | exact sc_30 | exact sc_34 | exact sc_10 | exact fd_24 | exact fd_4 | exact lw_25 | exact lw_5 | exact bd_23 | exact bd_3 | exact ⟨by first | assumption | rfl, by first | decide | omega⟩)) (fun r1 h1 hq => ?_)
            obtain ⟨rfl, hq, hG⟩ := hq
            replace hq := hq.symm
            subst hq
            simp only [Option.toList, List.nil_append]
            refine v_goto 139 dX7_readSum_79 (by decide) ?_
            refine v_iinc (i := 3) (v := (l3 + 1)) dX7_readSum_139 rfl rfl (by decide) (nlT rfl) ?_
            simp only [List.set_cons_zero, List.set_cons_succ]
            refine v_goto 9 dX7_readSum_142 (by decide) ?_
            refine V.weak (la2 := [some (.ref 2), some (.int l1), some (.int l2), some (.int (l3 + 1)), none]) (by simp [wk]) ?_
            exact (s_X7_readSum_IH_9) _ _ _ _ _ hF hG
          · rw [if_pos c10] at hF
            refine v_bipush (v := (-12)) dX7_readSum_69 (by decide) ?_
            refine v_goto 76 dX7_readSum_71 (by decide) ?_
            obtain ⟨q13, q13_e, hF⟩ := Option.bind_eq_some_iff.mp hF
            refine c_X7_183 rfl sh_5 (by exact ltG hG (by decide)) (Nat.le_of_ble_eq_true rfl) dX7_readSum_76 (s_X4_add _ q13_e hG (by first | assumption | exact sc_30 | exact sc_34 | exact sc_10 | exact fd_24 | exact fd_4 | exact lw_25 | exact lw_5 | exact bd_23 | exact bd_3 | exact ⟨by first | assumption | rfl, by first | decide | omega⟩)) (fun r1 h1 hq => ?_)
            obtain ⟨rfl, hq, hG⟩ := hq
            replace hq := hq.symm
            subst hq
            simp only [Option.toList, List.nil_append]
            refine v_goto 139 dX7_readSum_79 (by decide) ?_
            refine v_iinc (i := 3) (v := (l3 + 1)) dX7_readSum_139 rfl rfl (by decide) (nlT rfl) ?_
            simp only [List.set_cons_zero, List.set_cons_succ]
            refine v_goto 9 dX7_readSum_142 (by decide) ?_
            refine V.weak (la2 := [some (.ref 2), some (.int l1), some (.int l2), some (.int (l3 + 1)), none]) (by simp [wk]) ?_
            exact (s_X7_readSum_IH_9) _ _ _ _ _ hF hG
        · rw [if_neg c5] at hF
          refine v_iload (i := 4) dX7_readSum_36 rfl ?_
          refine v_bipush (v := 47) dX7_readSum_38 (by decide) ?_
          refine v_icmp_ne 82 dX7_readSum_40 (by decide) (fun c15 => ?_) (fun c15 => ?_)
          · rw [if_neg c15] at hF
            refine v_iload_n (i := 2) dX7_readSum_82 rfl rfl ?_
            refine v_if_eq 109 dX7_readSum_83 (by decide) (fun c16 => ?_) (fun c16 => ?_)
            · rw [if_pos c16] at hF
              refine v_iload (i := 4) dX7_readSum_109 rfl ?_
              refine v_bipush (v := 43) dX7_readSum_111 (by decide) ?_
              refine v_icmp_eq 124 dX7_readSum_113 (by decide) (fun c17 => ?_) (fun c17 => ?_)
              · rw [if_pos c17] at hF
                refine v_iload (i := 4) dX7_readSum_124 rfl ?_
                refine v_istore_n (i := 2) dX7_readSum_126 rfl (by decide) (nlT rfl) ?_
                simp only [List.set_cons_zero, List.set_cons_succ]
                refine v_aload_n (i := 0) dX7_readSum_127 rfl rfl ?_
                refine v_iload (i := 4) dX7_readSum_128 rfl ?_
                obtain ⟨q18, q18_e, hF⟩ := Option.bind_eq_some_iff.mp hF
                refine c_X7_120 rfl sh_2 (by exact ltG hG (by decide)) (Nat.le_of_ble_eq_true rfl) dX7_readSum_130 (s_X7_take _ q18_e hG) (fun r1 h1 hq => ?_)
                obtain ⟨rfl, hq, hG⟩ := hq
                replace hq := hq.symm
                subst hq
                show V _ _ _ _ (_ :: _) _ _
                refine v_pop dX7_readSum_133 rfl ?_
                refine v_aload_n (i := 0) dX7_readSum_134 rfl rfl ?_
                refine v_iload_n (i := 1) dX7_readSum_135 rfl rfl ?_
                obtain ⟨q20, q20_e, hF⟩ := Option.bind_eq_some_iff.mp hF
                refine c_X7_189 rfl sh_2 (by exact ltG hG (by decide)) (Nat.le_of_ble_eq_true rfl) dX7_readSum_136 (s_X7_readUnit _ hS q20_e hG) (fun r1 h1 hq => ?_)
                obtain ⟨rfl, hq, hG⟩ := hq
                replace hq := hq.symm
                subst hq
                simp only [Option.toList, List.nil_append]
                refine v_iinc (i := 3) (v := (l3 + 1)) dX7_readSum_139 rfl rfl (by decide) (nlT rfl) ?_
                simp only [List.set_cons_zero, List.set_cons_succ]
                refine v_goto 9 dX7_readSum_142 (by decide) ?_
                refine V.weak (la2 := [some (.ref 2), some (.int l1), some (.int q3.1), some (.int (l3 + 1)), none]) (by simp [wk]) ?_
                exact (s_X7_readSum_IH_9) _ _ _ _ _ hF hG
              · rw [if_neg c17] at hF
                refine v_iload (i := 4) dX7_readSum_116 rfl ?_
                refine v_bipush (v := 45) dX7_readSum_118 (by decide) ?_
                refine v_icmp_eq 124 dX7_readSum_120 (by decide) (fun c22 => ?_) (fun c22 => ?_)
                · rw [if_pos c22] at hF
                  refine v_iload (i := 4) dX7_readSum_124 rfl ?_
                  refine v_istore_n (i := 2) dX7_readSum_126 rfl (by decide) (nlT rfl) ?_
                  simp only [List.set_cons_zero, List.set_cons_succ]
                  refine v_aload_n (i := 0) dX7_readSum_127 rfl rfl ?_
                  refine v_iload (i := 4) dX7_readSum_128 rfl ?_
                  obtain ⟨q23, q23_e, hF⟩ := Option.bind_eq_some_iff.mp hF
                  refine c_X7_120 rfl sh_2 (by exact ltG hG (by decide)) (Nat.le_of_ble_eq_true rfl) dX7_readSum_130 (s_X7_take _ q23_e hG) (fun r1 h1 hq => ?_)
                  obtain ⟨rfl, hq, hG⟩ := hq
                  replace hq := hq.symm
                  subst hq
                  show V _ _ _ _ (_ :: _) _ _
                  refine v_pop dX7_readSum_133 rfl ?_
                  refine v_aload_n (i := 0) dX7_readSum_134 rfl rfl ?_
                  refine v_iload_n (i := 1) dX7_readSum_135 rfl rfl ?_
                  obtain ⟨q25, q25_e, hF⟩ := Option.bind_eq_some_iff.mp hF
                  refine c_X7_189 rfl sh_2 (by exact ltG hG (by decide)) (Nat.le_of_ble_eq_true rfl) dX7_readSum_136 (s_X7_readUnit _ hS q25_e hG) (fun r1 h1 hq => ?_)
                  obtain ⟨rfl, hq, hG⟩ := hq
                  replace hq := hq.symm
                  subst hq
                  simp only [Option.toList, List.nil_append]
                  refine v_iinc (i := 3) (v := (l3 + 1)) dX7_readSum_139 rfl rfl (by decide) (nlT rfl) ?_
                  simp only [List.set_cons_zero, List.set_cons_succ]
                  refine v_goto 9 dX7_readSum_142 (by decide) ?_
                  refine V.weak (la2 := [some (.ref 2), some (.int l1), some (.int q3.1), some (.int (l3 + 1)), none]) (by simp [wk]) ?_
                  exact (s_X7_readSum_IH_9) _ _ _ _ _ hF hG
                · rw [if_neg c22] at hF
                  refine v_return rfl dX7_readSum_123 ?_
                  obtain rfl := Option.some.inj hF
                  exact ⟨rfl, rfl, hG⟩
            · rw [if_neg c16] at hF
              refine v_aload_n (i := 0) dX7_readSum_86 rfl rfl ?_
              refine g_X7_12 (q := 3) rfl sh_2 (by exact ltG hG (by decide)) (by exact rG hG r0_2_0) dX7_readSum_87 ?_
              refine g_X7_168 (q := 5) rfl sh_3 (by exact ltG hG (by decide)) (by exact rG hG r0_3_1) dX7_readSum_90 ?_
              refine v_iload_n (i := 2) dX7_readSum_93 rfl rfl ?_
              refine v_bipush (v := 43) dX7_readSum_94 (by decide) ?_
              refine v_icmp_ne 104 dX7_readSum_96 (by decide) (fun c27 => ?_) (fun c27 => ?_)
              · rw [if_neg c27] at hF
                refine v_bipush (v := (-11)) dX7_readSum_104 (by decide) ?_
                obtain ⟨q28, q28_e, hF⟩ := Option.bind_eq_some_iff.mp hF
                refine c_X7_183 rfl sh_5 (by exact ltG hG (by decide)) (Nat.le_of_ble_eq_true rfl) dX7_readSum_106 (s_X4_add _ q28_e hG (by first | assumption | exact sc_30 | exact sc_34 | exact sc_10 | exact fd_24 | exact fd_4 | exact lw_25 | exact lw_5 | exact bd_23 | exact bd_3 | exact ⟨by first | assumption | rfl, by first | decide | omega⟩)) (fun r1 h1 hq => ?_)
                obtain ⟨rfl, hq, hG⟩ := hq
                replace hq := hq.symm
                subst hq
                simp only [Option.toList, List.nil_append]
                refine v_iload (i := 4) dX7_readSum_109 rfl ?_
                refine v_bipush (v := 43) dX7_readSum_111 (by decide) ?_
                refine v_icmp_eq 124 dX7_readSum_113 (by decide) (fun c30 => ?_) (fun c30 => ?_)
                · rw [if_pos c30] at hF
                  refine v_iload (i := 4) dX7_readSum_124 rfl ?_
                  refine v_istore_n (i := 2) dX7_readSum_126 rfl (by decide) (nlT rfl) ?_
                  simp only [List.set_cons_zero, List.set_cons_succ]
                  refine v_aload_n (i := 0) dX7_readSum_127 rfl rfl ?_
                  refine v_iload (i := 4) dX7_readSum_128 rfl ?_
                  obtain ⟨q31, q31_e, hF⟩ := Option.bind_eq_some_iff.mp hF
                  refine c_X7_120 rfl sh_2 (by exact ltG hG (by decide)) (Nat.le_of_ble_eq_true rfl) dX7_readSum_130 (s_X7_take _ q31_e hG) (fun r1 h1 hq => ?_)
                  obtain ⟨rfl, hq, hG⟩ := hq
                  replace hq := hq.symm
                  subst hq
                  show V _ _ _ _ (_ :: _) _ _
                  refine v_pop dX7_readSum_133 rfl ?_
                  refine v_aload_n (i := 0) dX7_readSum_134 rfl rfl ?_
                  refine v_iload_n (i := 1) dX7_readSum_135 rfl rfl ?_
                  obtain ⟨q33, q33_e, hF⟩ := Option.bind_eq_some_iff.mp hF
                  refine c_X7_189 rfl sh_2 (by exact ltG hG (by decide)) (Nat.le_of_ble_eq_true rfl) dX7_readSum_136 (s_X7_readUnit _ hS q33_e hG) (fun r1 h1 hq => ?_)
                  obtain ⟨rfl, hq, hG⟩ := hq
                  replace hq := hq.symm
                  subst hq
                  simp only [Option.toList, List.nil_append]
                  refine v_iinc (i := 3) (v := (l3 + 1)) dX7_readSum_139 rfl rfl (by decide) (nlT rfl) ?_
                  simp only [List.set_cons_zero, List.set_cons_succ]
                  refine v_goto 9 dX7_readSum_142 (by decide) ?_
                  refine V.weak (la2 := [some (.ref 2), some (.int l1), some (.int q3.1), some (.int (l3 + 1)), none]) (by simp [wk]) ?_
                  exact (s_X7_readSum_IH_9) _ _ _ _ _ hF hG
                · rw [if_neg c30] at hF
                  refine v_iload (i := 4) dX7_readSum_116 rfl ?_
                  refine v_bipush (v := 45) dX7_readSum_118 (by decide) ?_
                  refine v_icmp_eq 124 dX7_readSum_120 (by decide) (fun c35 => ?_) (fun c35 => ?_)
                  · rw [if_pos c35] at hF
                    refine v_iload (i := 4) dX7_readSum_124 rfl ?_
                    refine v_istore_n (i := 2) dX7_readSum_126 rfl (by decide) (nlT rfl) ?_
                    simp only [List.set_cons_zero, List.set_cons_succ]
                    refine v_aload_n (i := 0) dX7_readSum_127 rfl rfl ?_
                    refine v_iload (i := 4) dX7_readSum_128 rfl ?_
                    obtain ⟨q36, q36_e, hF⟩ := Option.bind_eq_some_iff.mp hF
                    refine c_X7_120 rfl sh_2 (by exact ltG hG (by decide)) (Nat.le_of_ble_eq_true rfl) dX7_readSum_130 (s_X7_take _ q36_e hG) (fun r1 h1 hq => ?_)
                    obtain ⟨rfl, hq, hG⟩ := hq
                    replace hq := hq.symm
                    subst hq
                    show V _ _ _ _ (_ :: _) _ _
                    refine v_pop dX7_readSum_133 rfl ?_
                    refine v_aload_n (i := 0) dX7_readSum_134 rfl rfl ?_
                    refine v_iload_n (i := 1) dX7_readSum_135 rfl rfl ?_
                    obtain ⟨q38, q38_e, hF⟩ := Option.bind_eq_some_iff.mp hF
                    refine c_X7_189 rfl sh_2 (by exact ltG hG (by decide)) (Nat.le_of_ble_eq_true rfl) dX7_readSum_136 (s_X7_readUnit _ hS q38_e hG) (fun r1 h1 hq => ?_)
                    obtain ⟨rfl, hq, hG⟩ := hq
                    replace hq := hq.symm
                    subst hq
                    simp only [Option.toList, List.nil_append]
                    refine v_iinc (i := 3) (v := (l3 + 1)) dX7_readSum_139 rfl rfl (by decide) (nlT rfl) ?_
                    simp only [List.set_cons_zero, List.set_cons_succ]
                    refine v_goto 9 dX7_readSum_142 (by decide) ?_
                    refine V.weak (la2 := [some (.ref 2), some (.int l1), some (.int q3.1), some (.int (l3 + 1)), none]) (by simp [wk]) ?_
                    exact (s_X7_readSum_IH_9) _ _ _ _ _ hF hG
                  · rw [if_neg c35] at hF
                    refine v_return rfl dX7_readSum_123 ?_
                    obtain rfl := Option.some.inj hF
                    exact ⟨rfl, rfl, hG⟩
              · rw [if_pos c27] at hF
                refine v_bipush (v := (-10)) dX7_readSum_99 (by decide) ?_
                refine v_goto 106 dX7_readSum_101 (by decide) ?_
                obtain ⟨q40, q40_e, hF⟩ := Option.bind_eq_some_iff.mp hF
                refine c_X7_183 rfl sh_5 (by exact ltG hG (by decide)) (Nat.le_of_ble_eq_true rfl) dX7_readSum_106 (s_X4_add _ q40_e hG (by first | assumption | exact sc_30 | exact sc_34 | exact sc_10 | exact fd_24 | exact fd_4 | exact lw_25 | exact lw_5 | exact bd_23 | exact bd_3 | exact ⟨by first | assumption | rfl, by first | decide | omega⟩)) (fun r1 h1 hq => ?_)
                obtain ⟨rfl, hq, hG⟩ := hq
                replace hq := hq.symm
                subst hq
                simp only [Option.toList, List.nil_append]
                refine v_iload (i := 4) dX7_readSum_109 rfl ?_
                refine v_bipush (v := 43) dX7_readSum_111 (by decide) ?_
                refine v_icmp_eq 124 dX7_readSum_113 (by decide) (fun c42 => ?_) (fun c42 => ?_)
                · rw [if_pos c42] at hF
                  refine v_iload (i := 4) dX7_readSum_124 rfl ?_
                  refine v_istore_n (i := 2) dX7_readSum_126 rfl (by decide) (nlT rfl) ?_
                  simp only [List.set_cons_zero, List.set_cons_succ]
                  refine v_aload_n (i := 0) dX7_readSum_127 rfl rfl ?_
                  refine v_iload (i := 4) dX7_readSum_128 rfl ?_
                  obtain ⟨q43, q43_e, hF⟩ := Option.bind_eq_some_iff.mp hF
                  refine c_X7_120 rfl sh_2 (by exact ltG hG (by decide)) (Nat.le_of_ble_eq_true rfl) dX7_readSum_130 (s_X7_take _ q43_e hG) (fun r1 h1 hq => ?_)
                  obtain ⟨rfl, hq, hG⟩ := hq
                  replace hq := hq.symm
                  subst hq
                  show V _ _ _ _ (_ :: _) _ _
                  refine v_pop dX7_readSum_133 rfl ?_
                  refine v_aload_n (i := 0) dX7_readSum_134 rfl rfl ?_
                  refine v_iload_n (i := 1) dX7_readSum_135 rfl rfl ?_
                  obtain ⟨q45, q45_e, hF⟩ := Option.bind_eq_some_iff.mp hF
                  refine c_X7_189 rfl sh_2 (by exact ltG hG (by decide)) (Nat.le_of_ble_eq_true rfl) dX7_readSum_136 (s_X7_readUnit _ hS q45_e hG) (fun r1 h1 hq => ?_)
                  obtain ⟨rfl, hq, hG⟩ := hq
                  replace hq := hq.symm
                  subst hq
                  simp only [Option.toList, List.nil_append]
                  refine v_iinc (i := 3) (v := (l3 + 1)) dX7_readSum_139 rfl rfl (by decide) (nlT rfl) ?_
                  simp only [List.set_cons_zero, List.set_cons_succ]
                  refine v_goto 9 dX7_readSum_142 (by decide) ?_
                  refine V.weak (la2 := [some (.ref 2), some (.int l1), some (.int q3.1), some (.int (l3 + 1)), none]) (by simp [wk]) ?_
                  exact (s_X7_readSum_IH_9) _ _ _ _ _ hF hG
                · rw [if_neg c42] at hF
                  refine v_iload (i := 4) dX7_readSum_116 rfl ?_
                  refine v_bipush (v := 45) dX7_readSum_118 (by decide) ?_
                  refine v_icmp_eq 124 dX7_readSum_120 (by decide) (fun c47 => ?_) (fun c47 => ?_)
                  · rw [if_pos c47] at hF
                    refine v_iload (i := 4) dX7_readSum_124 rfl ?_
                    refine v_istore_n (i := 2) dX7_readSum_126 rfl (by decide) (nlT rfl) ?_
                    simp only [List.set_cons_zero, List.set_cons_succ]
                    refine v_aload_n (i := 0) dX7_readSum_127 rfl rfl ?_
                    refine v_iload (i := 4) dX7_readSum_128 rfl ?_
                    obtain ⟨q48, q48_e, hF⟩ := Option.bind_eq_some_iff.mp hF
                    refine c_X7_120 rfl sh_2 (by exact ltG hG (by decide)) (Nat.le_of_ble_eq_true rfl) dX7_readSum_130 (s_X7_take _ q48_e hG) (fun r1 h1 hq => ?_)
                    obtain ⟨rfl, hq, hG⟩ := hq
                    replace hq := hq.symm
                    subst hq
                    show V _ _ _ _ (_ :: _) _ _
                    refine v_pop dX7_readSum_133 rfl ?_
                    refine v_aload_n (i := 0) dX7_readSum_134 rfl rfl ?_
                    refine v_iload_n (i := 1) dX7_readSum_135 rfl rfl ?_
                    obtain ⟨q50, q50_e, hF⟩ := Option.bind_eq_some_iff.mp hF
                    refine c_X7_189 rfl sh_2 (by exact ltG hG (by decide)) (Nat.le_of_ble_eq_true rfl) dX7_readSum_136 (s_X7_readUnit _ hS q50_e hG) (fun r1 h1 hq => ?_)
                    obtain ⟨rfl, hq, hG⟩ := hq
                    replace hq := hq.symm
                    subst hq
                    simp only [Option.toList, List.nil_append]
                    refine v_iinc (i := 3) (v := (l3 + 1)) dX7_readSum_139 rfl rfl (by decide) (nlT rfl) ?_
                    simp only [List.set_cons_zero, List.set_cons_succ]
                    refine v_goto 9 dX7_readSum_142 (by decide) ?_
                    refine V.weak (la2 := [some (.ref 2), some (.int l1), some (.int q3.1), some (.int (l3 + 1)), none]) (by simp [wk]) ?_
                    exact (s_X7_readSum_IH_9) _ _ _ _ _ hF hG
                  · rw [if_neg c47] at hF
                    refine v_return rfl dX7_readSum_123 ?_
                    obtain rfl := Option.some.inj hF
                    exact ⟨rfl, rfl, hG⟩
          · rw [if_pos c15] at hF
            refine v_aload_n (i := 0) dX7_readSum_43 rfl rfl ?_
            refine v_iload (i := 4) dX7_readSum_44 rfl ?_
            obtain ⟨q52, q52_e, hF⟩ := Option.bind_eq_some_iff.mp hF
            refine c_X7_120 rfl sh_2 (by exact ltG hG (by decide)) (Nat.le_of_ble_eq_true rfl) dX7_readSum_46 (s_X7_take _ q52_e hG) (fun r1 h1 hq => ?_)
            obtain ⟨rfl, hq, hG⟩ := hq
            replace hq := hq.symm
            subst hq
            show V _ _ _ _ (_ :: _) _ _
            refine v_pop dX7_readSum_49 rfl ?_
            refine v_aload_n (i := 0) dX7_readSum_50 rfl rfl ?_
            refine v_iload_n (i := 1) dX7_readSum_51 rfl rfl ?_
            obtain ⟨q54, q54_e, hF⟩ := Option.bind_eq_some_iff.mp hF
            refine c_X7_189 rfl sh_2 (by exact ltG hG (by decide)) (Nat.le_of_ble_eq_true rfl) dX7_readSum_52 (s_X7_readUnit _ hS q54_e hG) (fun r1 h1 hq => ?_)
            obtain ⟨rfl, hq, hG⟩ := hq
            replace hq := hq.symm
            subst hq
            simp only [Option.toList, List.nil_append]
            refine v_aload_n (i := 0) dX7_readSum_55 rfl rfl ?_
            refine g_X7_12 (q := 3) rfl sh_2 (by exact ltG hG (by decide)) (by exact rG hG r0_2_0) dX7_readSum_56 ?_
            refine g_X7_168 (q := 5) rfl sh_3 (by exact ltG hG (by decide)) (by exact rG hG r0_3_1) dX7_readSum_59 ?_
            refine v_iload (i := 4) dX7_readSum_62 rfl ?_
            refine v_bipush (v := 42) dX7_readSum_64 (by decide) ?_
            refine v_icmp_ne 74 dX7_readSum_66 (by decide) (fun c56 => ?_) (fun c56 => ?_)
            · rw [if_neg c56] at hF
              refine v_bipush (v := (-13)) dX7_readSum_74 (by decide) ?_
              obtain ⟨q57, q57_e, hF⟩ := Option.bind_eq_some_iff.mp hF
              refine c_X7_183 rfl sh_5 (by exact ltG hG (by decide)) (Nat.le_of_ble_eq_true rfl) dX7_readSum_76 (s_X4_add _ q57_e hG (by first | assumption | exact sc_30 | exact sc_34 | exact sc_10 | exact fd_24 | exact fd_4 | exact lw_25 | exact lw_5 | exact bd_23 | exact bd_3 | exact ⟨by first | assumption | rfl, by first | decide | omega⟩)) (fun r1 h1 hq => ?_)
              obtain ⟨rfl, hq, hG⟩ := hq
              replace hq := hq.symm
              subst hq
              simp only [Option.toList, List.nil_append]
              refine v_goto 139 dX7_readSum_79 (by decide) ?_
              refine v_iinc (i := 3) (v := (l3 + 1)) dX7_readSum_139 rfl rfl (by decide) (nlT rfl) ?_
              simp only [List.set_cons_zero, List.set_cons_succ]
              refine v_goto 9 dX7_readSum_142 (by decide) ?_
              refine V.weak (la2 := [some (.ref 2), some (.int l1), some (.int l2), some (.int (l3 + 1)), none]) (by simp [wk]) ?_
              exact (s_X7_readSum_IH_9) _ _ _ _ _ hF hG
            · rw [if_pos c56] at hF
              refine v_bipush (v := (-12)) dX7_readSum_69 (by decide) ?_
              refine v_goto 76 dX7_readSum_71 (by decide) ?_
              obtain ⟨q59, q59_e, hF⟩ := Option.bind_eq_some_iff.mp hF
              refine c_X7_183 rfl sh_5 (by exact ltG hG (by decide)) (Nat.le_of_ble_eq_true rfl) dX7_readSum_76 (s_X4_add _ q59_e hG (by first | assumption | exact sc_30 | exact sc_34 | exact sc_10 | exact fd_24 | exact fd_4 | exact lw_25 | exact lw_5 | exact bd_23 | exact bd_3 | exact ⟨by first | assumption | rfl, by first | decide | omega⟩)) (fun r1 h1 hq => ?_)
              obtain ⟨rfl, hq, hG⟩ := hq
              replace hq := hq.symm
              subst hq
              simp only [Option.toList, List.nil_append]
              refine v_goto 139 dX7_readSum_79 (by decide) ?_
              refine v_iinc (i := 3) (v := (l3 + 1)) dX7_readSum_139 rfl rfl (by decide) (nlT rfl) ?_
              simp only [List.set_cons_zero, List.set_cons_succ]
              refine v_goto 9 dX7_readSum_142 (by decide) ?_
              refine V.weak (la2 := [some (.ref 2), some (.int l1), some (.int l2), some (.int (l3 + 1)), none]) (by simp [wk]) ?_
              exact (s_X7_readSum_IH_9) _ _ _ _ _ hF hG
def F_X7_readSum (S : Nat → Hp → Int32 → Option Hp) (n : Nat) (h : Hp) (x1 : Int32) : Option Hp := ((F_X7_readUnit S n h x1).bind (fun q61 => W_X7_readSum S n 9 q61  x1 0 0))
set_option maxRecDepth 100000 in
set_option maxHeartbeats 4000000 in
theorem s_X7_readSum (d : Nat) {e : Nat} {S : Nat → Hp → Int32 → Option Hp} (hS : ∀ d' : Nat, e ≤ d' → ∀ {n : Nat} {h : Hp} {x1 : Int32} {q0 : Hp}, S n h x1 = some q0 → G h → Kc mX7_readSum d' [.ref 2, .int x1] h (fun r1 h1 => r1 = none ∧ h1 = q0 ∧ G q0)) {n : Nat} {h : Hp} {x1 : Int32} {q0 : Hp} (hF : F_X7_readSum S n h x1 = some q0) (hG : G h)  : Kc mX7_readSum (d + e + 3) [.ref 2, .int x1] h (fun r1 h1 => r1 = none ∧ h1 = q0 ∧ G q0) := by
  obtain ⟨h', rfl⟩ : ∃ z, z = q0 := ⟨_, rfl⟩
  have s_X7_readSum_IH_9 := sw_X7_readSum d hS   n
  unfold F_X7_readSum at hF
  refine Kc.of [some (.ref 2), some (.int x1), none, none, none] ok_X7_readSum rfl (Nat.le_of_ble_eq_true rfl) ?_
  refine v_iconst (v := 0) dX7_readSum_0 (by decide) ?_
  refine v_istore_n (i := 2) dX7_readSum_1 rfl (by decide) (nlT rfl) ?_
  simp only [List.set_cons_zero, List.set_cons_succ]
  refine v_aload_n (i := 0) dX7_readSum_2 rfl rfl ?_
  refine v_iload_n (i := 1) dX7_readSum_3 rfl rfl ?_
  obtain ⟨q61, q61_e, hF⟩ := Option.bind_eq_some_iff.mp hF
  refine c_X7_189 rfl sh_2 (by exact ltG hG (by decide)) (Nat.le_of_ble_eq_true rfl) dX7_readSum_4 (s_X7_readUnit _ hS q61_e hG) (fun r1 h1 hq => ?_)
  obtain ⟨rfl, hq, hG⟩ := hq
  replace hq := hq.symm
  subst hq
  simp only [Option.toList, List.nil_append]
  refine v_iconst (v := 0) dX7_readSum_7 (by decide) ?_
  refine v_istore_n (i := 3) dX7_readSum_8 rfl (by decide) (nlT rfl) ?_
  simp only [List.set_cons_zero, List.set_cons_succ]
  refine V.weak (la2 := [some (.ref 2), some (.int x1), some (.int 0), some (.int 0), none]) (by simp [wk]) ?_
  exact (s_X7_readSum_IH_9) _ _ _ _ _ hF hG
/-- the sums of a text, nested no deeper than so many levels -/
def L_X7_readSum : Nat → Nat → Hp → Int32 → Option Hp
  | 0 => fun _ _ _ => none
  | l + 1 => fun n h x => F_X7_readSum (L_X7_readSum l) n h x
theorem sl_X7_readSum : ∀ (l d : Nat), 4 * l ≤ d → ∀ {n : Nat} {h : Hp} {x1 : Int32} {q0 : Hp}, L_X7_readSum l n h x1 = some q0 → G h → Kc mX7_readSum d [.ref 2, .int x1] h (fun r1 h1 => r1 = none ∧ h1 = q0 ∧ G q0) := by
  intro l
  induction l with
  | zero => intro d _ n h x1 q0 e; cases e
  | succ l ih =>
    intro d hd n h x1 q0 e hG
    have k := s_X7_readSum (d - 4 * l - 3) (e := 4 * l) (S := L_X7_readSum l) (fun d' h' => ih d' h') e hG
    rw [show d - 4 * l - 3 + 4 * l + 3 = d by omega] at k
    exact k
def F_X7_readSumT (n : Nat) (h : Hp) (x1 : Int32) : Option Hp := L_X7_readSum 9 n h x1
theorem s_X7_readSumT (d : Nat) {n : Nat} {h : Hp} {x1 : Int32} {q0 : Hp} (hF : F_X7_readSumT n h x1 = some q0) (hG : G h) : Kc mX7_readSum (d + 36) [.ref 2, .int x1] h (fun r1 h1 => r1 = none ∧ h1 = q0 ∧ G q0) := sl_X7_readSum 9 (d + 36) (by omega) hF hG
def W_X5_pairOff (S : Nat → Hp → Nat → Int32 → Int32 → Int32 → Option Hp) : Nat → Nat → Hp → Nat → Int32 → Int32 → Int32 → Int32 → Int32 → Int32 → Option Hp
  | 0 => fun _ _ _ _ _ _ _ _ _ => none
  | n + 1 => fun hd h b1 l2 l3 l4 l5 l6 l7 => (if hd = 44 then (if (5 : Int32) ≤ (l7 : Int32) then ((F_J6_bitCount_0f7a4 n h l2).bind (fun q2 => (if (((q2.1 : Int32) &&& (1 : Int32)) : Int32) = 0 then some q2.2 else (if ixOK l5 5 = true then ((S n (wrI q2.2 212 (Int32.toNatClampNeg l5) (-2)) b1 l6 l3 (l4 + 1)).bind (fun q6 => some q6)) else none)))) else (if ((((((l6 : Int32).toUInt32 >>> ((l7 : Int32).toUInt32 &&& Int32.toUInt32 31)).toInt32) : Int32) &&& (1 : Int32)) : Int32) = 0 then W_X5_pairOff S n 44 h b1 l2 l3 l4 l5 l6 (l7 + 1) else (if ixOK l5 5 = true then (if ixOK l7 5 = true then (if ixOK l5 5 = true then (if ixOK l7 5 = true then ((F_X5_distance n (wrI (wrI h 212 (Int32.toNatClampNeg l5) l7) 212 (Int32.toNatClampNeg l7) l5) (hi (wrI (wrI h 212 (Int32.toNatClampNeg l5) l7) 212 (Int32.toNatClampNeg l7) l5) (b1 + 2) (Int32.toNatClampNeg l5)) (hi (wrI (wrI h 212 (Int32.toNatClampNeg l5) l7) 212 (Int32.toNatClampNeg l7) l5) (b1 + 2) (Int32.toNatClampNeg l7))).bind (fun q13 => ((S n q13.2 b1 ((l6 : Int32) &&& (((((1 : Int32) <<< ((l7 : Int32) &&& 31)) : Int32) ^^^ ((-1) : Int32)) : Int32)) (l3 + q13.1) (l4 + 1)).bind (fun q15 => W_X5_pairOff S n 44 q15 b1 l2 l3 l4 l5 l6 (l7 + 1))))) else none) else none) else none) else none))) else none)
set_option maxRecDepth 100000 in
set_option maxHeartbeats 4000000 in
theorem sw_X5_pairOff (d : Nat) {e : Nat} {S : Nat → Hp → Nat → Int32 → Int32 → Int32 → Option Hp} (hS : ∀ d' : Nat, e ≤ d' → ∀ {n : Nat} {h : Hp} {b1 : Nat} {x2 x3 x4 : Int32} {q0 : Hp}, S n h b1 x2 x3 x4 = some q0 → G h → Sc b1 → Kc mX5_pairOff d' [.ref 211, .ref b1, .int x2, .int x3, .int x4] h (fun r1 h1 => r1 = none ∧ h1 = q0 ∧ G q0)) (b1 : Nat) (ht1 : Sc b1) (n : Nat) : (∀ (l2 : Int32) (l3 : Int32) (l4 : Int32) (l5 : Int32) (l6 : Int32) (l7 : Int32) (h : Hp), ∀ (h' : Hp), W_X5_pairOff S n 44 h b1 l2 l3 l4 l5 l6 l7 = some h' → G h → V mX5_pairOff (d + e + 2) 44 [some (.ref 211), some (.ref b1), some (.int l2), some (.int l3), some (.int l4), some (.int l5), some (.int l6), some (.int l7), none] [] h (fun r1 h1 => r1 = none ∧ h1 = h' ∧ G h')) := by
  obtain ⟨t10, t11, t12, t13, t14, t15, t16, t17⟩ := id ht1
  induction n with
  | zero => exact by intros; contradiction
  | succ n ih =>
    have s_X5_pairOff_IH_44 := ih
    intro l2 l3 l4 l5 l6 l7 h h' hF hG
    unfold W_X5_pairOff at hF
    rw [if_pos rfl] at hF
    refine v_iload (i := 7) dX5_pairOff_44 rfl ?_
    refine v_iconst (v := 5) dX5_pairOff_46 (by decide) ?_
    refine v_icmp_ge 126 dX5_pairOff_47 (by decide) (fun c1 => ?_) (fun c1 => ?_)
    · rw [if_pos c1] at hF
      refine v_iload_n (i := 2) dX5_pairOff_126 rfl rfl ?_
      obtain ⟨q2, q2_e, hF⟩ := Option.bind_eq_some_iff.mp hF
      refine c_X5_47 rfl (Nat.le_of_ble_eq_true rfl) dX5_pairOff_127 (s_J6_bitCount_0f7a4 _ q2_e hG) (fun r1 h1 hq => ?_)
      obtain ⟨rfl, hq, hG⟩ := hq
      replace hq := hq.symm
      subst hq
      show V _ _ _ _ (_ :: _) _ _
      refine v_iconst (v := 1) dX5_pairOff_130 (by decide) ?_
      refine v_iand dX5_pairOff_131 ?_
      refine v_if_eq 156 dX5_pairOff_132 (by decide) (fun c4 => ?_) (fun c4 => ?_)
      · rw [if_pos c4] at hF
        refine v_return rfl dX5_pairOff_156 ?_
        obtain rfl := Option.some.inj hF
        exact ⟨rfl, rfl, hG⟩
      · rw [if_neg c4] at hF
        refine v_aload_n (i := 0) dX5_pairOff_135 rfl rfl ?_
        refine g_X5_9 (q := 212) rfl sh_211 (by exact ltG hG (by decide)) (by exact rG hG r0_211_1) dX5_pairOff_136 ?_
        refine v_iload (i := 5) dX5_pairOff_139 rfl ?_
        refine v_bipush (v := (-2)) dX5_pairOff_141 (by decide) ?_
        obtain ⟨k5, hF⟩ := ck_some hF
        refine v_iastore sh_212 (by exact ltG hG (by decide)) (ixO k5) dX5_pairOff_143 ?_
        refine v_aload_n (i := 0) dX5_pairOff_144 rfl rfl ?_
        refine v_aload_n (i := 1) dX5_pairOff_145 rfl rfl ?_
        refine v_iload (i := 6) dX5_pairOff_146 rfl ?_
        refine v_iload_n (i := 3) dX5_pairOff_148 rfl rfl ?_
        refine v_iload (i := 4) dX5_pairOff_149 rfl ?_
        refine v_iconst (v := 1) dX5_pairOff_151 (by decide) ?_
        refine v_iadd dX5_pairOff_152 ?_
        obtain ⟨q6, q6_e, hF⟩ := Option.bind_eq_some_iff.mp hF
        refine c_X5_26 rfl sh_211 (by exact ltG hG (by decide)) (Nat.le_of_ble_eq_true rfl) dX5_pairOff_153 (hS _ (by omega) q6_e hG (by first | assumption | exact sc_30 | exact sc_34 | exact sc_10 | exact fd_24 | exact fd_4 | exact lw_25 | exact lw_5 | exact bd_23 | exact bd_3 | exact ⟨by first | assumption | rfl, by first | decide | omega⟩)) (fun r1 h1 hq => ?_)
        obtain ⟨rfl, hq, hG⟩ := hq
        replace hq := hq.symm
        subst hq
        simp only [Option.toList, List.nil_append]
        refine v_return rfl dX5_pairOff_156 ?_
        obtain rfl := Option.some.inj hF
        exact ⟨rfl, rfl, hG⟩
    · rw [if_neg c1] at hF
      refine v_iload (i := 6) dX5_pairOff_50 rfl ?_
      refine v_iload (i := 7) dX5_pairOff_52 rfl ?_
      refine v_iushr dX5_pairOff_54 ?_
      refine v_iconst (v := 1) dX5_pairOff_55 (by decide) ?_
      refine v_iand dX5_pairOff_56 ?_
      refine v_if_eq 120 dX5_pairOff_57 (by decide) (fun c8 => ?_) (fun c8 => ?_)
      · rw [if_pos c8] at hF
        refine v_iinc (i := 7) (v := (l7 + 1)) dX5_pairOff_120 rfl rfl (by decide) (nlT rfl) ?_
        simp only [List.set_cons_zero, List.set_cons_succ]
        refine v_goto 44 dX5_pairOff_123 (by decide) ?_
        refine V.weak (la2 := [some (.ref 211), some (.ref b1), some (.int l2), some (.int l3), some (.int l4), some (.int l5), some (.int l6), some (.int (l7 + 1)), none]) (by simp [wk]) ?_
        exact (s_X5_pairOff_IH_44) _ _ _ _ _ _ _ _ hF hG
      · rw [if_neg c8] at hF
        refine v_aload_n (i := 0) dX5_pairOff_60 rfl rfl ?_
        refine g_X5_9 (q := 212) rfl sh_211 (by exact ltG hG (by decide)) (by exact rG hG r0_211_1) dX5_pairOff_61 ?_
        refine v_iload (i := 5) dX5_pairOff_64 rfl ?_
        refine v_iload (i := 7) dX5_pairOff_66 rfl ?_
        obtain ⟨k9, hF⟩ := ck_some hF
        refine v_iastore sh_212 (by exact ltG hG (by decide)) (ixO k9) dX5_pairOff_68 ?_
        refine v_aload_n (i := 0) dX5_pairOff_69 rfl rfl ?_
        refine g_X5_9 (q := 212) rfl sh_211 (by exact ltG hG (by decide)) (by exact rG hG r0_211_1) dX5_pairOff_70 ?_
        refine v_iload (i := 7) dX5_pairOff_73 rfl ?_
        refine v_iload (i := 5) dX5_pairOff_75 rfl ?_
        obtain ⟨k10, hF⟩ := ck_some hF
        refine v_iastore sh_212 (by exact ltG hG (by decide)) (ixO k10) dX5_pairOff_77 ?_
        refine v_aload_n (i := 0) dX5_pairOff_78 rfl rfl ?_
        refine v_aload_n (i := 1) dX5_pairOff_79 rfl rfl ?_
        refine g_X5_38 (q := (b1 + 2)) rfl t10 (by exact ltG hG (by omega)) (by exact rG hG t16) dX5_pairOff_80 ?_
        refine v_iload (i := 5) dX5_pairOff_83 rfl ?_
        obtain ⟨k11, hF⟩ := ck_some hF
        refine v_iaload t12 (by exact ltG hG (by omega)) (ixO k11) dX5_pairOff_85 ?_
        refine v_aload_n (i := 1) dX5_pairOff_86 rfl rfl ?_
        refine g_X5_38 (q := (b1 + 2)) rfl t10 (by exact ltG hG (by omega)) (by exact rG hG t16) dX5_pairOff_87 ?_
        refine v_iload (i := 7) dX5_pairOff_90 rfl ?_
        obtain ⟨k12, hF⟩ := ck_some hF
        refine v_iaload t12 (by exact ltG hG (by omega)) (ixO k12) dX5_pairOff_92 ?_
        obtain ⟨q13, q13_e, hF⟩ := Option.bind_eq_some_iff.mp hF
        refine c_X5_43 rfl sh_211 (by exact ltG hG (by decide)) (Nat.le_of_ble_eq_true rfl) dX5_pairOff_93 (s_X5_distance _ q13_e hG) (fun r1 h1 hq => ?_)
        obtain ⟨rfl, hq, hG⟩ := hq
        replace hq := hq.symm
        subst hq
        show V _ _ _ _ (_ :: _) _ _
        refine v_istore (i := 8) dX5_pairOff_96 (by decide) (nlT rfl) ?_
        simp only [List.set_cons_zero, List.set_cons_succ]
        refine v_aload_n (i := 0) dX5_pairOff_98 rfl rfl ?_
        refine v_aload_n (i := 1) dX5_pairOff_99 rfl rfl ?_
        refine v_iload (i := 6) dX5_pairOff_100 rfl ?_
        refine v_iconst (v := 1) dX5_pairOff_102 (by decide) ?_
        refine v_iload (i := 7) dX5_pairOff_103 rfl ?_
        refine v_ishl dX5_pairOff_105 ?_
        refine v_iconst (v := (-1)) dX5_pairOff_106 (by decide) ?_
        refine v_ixor dX5_pairOff_107 ?_
        refine v_iand dX5_pairOff_108 ?_
        refine v_iload_n (i := 3) dX5_pairOff_109 rfl rfl ?_
        refine v_iload (i := 8) dX5_pairOff_110 rfl ?_
        refine v_iadd dX5_pairOff_112 ?_
        refine v_iload (i := 4) dX5_pairOff_113 rfl ?_
        refine v_iconst (v := 1) dX5_pairOff_115 (by decide) ?_
        refine v_iadd dX5_pairOff_116 ?_
        obtain ⟨q15, q15_e, hF⟩ := Option.bind_eq_some_iff.mp hF
        refine c_X5_26 rfl sh_211 (by exact ltG hG (by decide)) (Nat.le_of_ble_eq_true rfl) dX5_pairOff_117 (hS _ (by omega) q15_e hG (by first | assumption | exact sc_30 | exact sc_34 | exact sc_10 | exact fd_24 | exact fd_4 | exact lw_25 | exact lw_5 | exact bd_23 | exact bd_3 | exact ⟨by first | assumption | rfl, by first | decide | omega⟩)) (fun r1 h1 hq => ?_)
        obtain ⟨rfl, hq, hG⟩ := hq
        replace hq := hq.symm
        subst hq
        simp only [Option.toList, List.nil_append]
        refine v_iinc (i := 7) (v := (l7 + 1)) dX5_pairOff_120 rfl rfl (by decide) (nlT rfl) ?_
        simp only [List.set_cons_zero, List.set_cons_succ]
        refine v_goto 44 dX5_pairOff_123 (by decide) ?_
        refine V.weak (la2 := [some (.ref 211), some (.ref b1), some (.int l2), some (.int l3), some (.int l4), some (.int l5), some (.int l6), some (.int (l7 + 1)), none]) (by simp [wk]) ?_
        exact (s_X5_pairOff_IH_44) _ _ _ _ _ _ _ _ hF hG
def F_X5_pairOff (S : Nat → Hp → Nat → Int32 → Int32 → Int32 → Option Hp) (n : Nat) (h : Hp) (b1 : Nat) (x2 : Int32) (x3 : Int32) (x4 : Int32) : Option Hp := ((F_X11_lowest n h x2).bind (fun q17 => (if (x2 : Int32) = 0 then ((F_X5_keepIfLess n q17.2 x3).bind (fun q20 => some q20)) else (if (5 : Int32) ≤ (q17.1 : Int32) then ((F_X5_keepIfLess n q17.2 x3).bind (fun q23 => some q23)) else (if (x4 : Int32) ≤ (5 : Int32) then W_X5_pairOff S n 44 q17.2 b1 x2 x3 x4 q17.1 ((x2 : Int32) &&& (((((1 : Int32) <<< ((q17.1 : Int32) &&& 31)) : Int32) ^^^ ((-1) : Int32)) : Int32)) (q17.1 + 1) else ((F_X5_keepIfLess n q17.2 x3).bind (fun q26 => some q26)))))))
set_option maxRecDepth 100000 in
set_option maxHeartbeats 4000000 in
theorem s_X5_pairOff (d : Nat) {e : Nat} {S : Nat → Hp → Nat → Int32 → Int32 → Int32 → Option Hp} (hS : ∀ d' : Nat, e ≤ d' → ∀ {n : Nat} {h : Hp} {b1 : Nat} {x2 x3 x4 : Int32} {q0 : Hp}, S n h b1 x2 x3 x4 = some q0 → G h → Sc b1 → Kc mX5_pairOff d' [.ref 211, .ref b1, .int x2, .int x3, .int x4] h (fun r1 h1 => r1 = none ∧ h1 = q0 ∧ G q0)) {n : Nat} {h : Hp} {b1 : Nat} {x2 : Int32} {x3 : Int32} {x4 : Int32} {q0 : Hp} (hF : F_X5_pairOff S n h b1 x2 x3 x4 = some q0) (hG : G h) (ht1 : Sc b1) : Kc mX5_pairOff (d + e + 2) [.ref 211, .ref b1, .int x2, .int x3, .int x4] h (fun r1 h1 => r1 = none ∧ h1 = q0 ∧ G q0) := by
  obtain ⟨t10, t11, t12, t13, t14, t15, t16, t17⟩ := id ht1
  obtain ⟨h', rfl⟩ : ∃ z, z = q0 := ⟨_, rfl⟩
  have s_X5_pairOff_IH_44 := sw_X5_pairOff d hS b1 ht1 n
  unfold F_X5_pairOff at hF
  refine Kc.of [some (.ref 211), some (.ref b1), some (.int x2), some (.int x3), some (.int x4), none, none, none, none] ok_X5_pairOff rfl (Nat.le_of_ble_eq_true rfl) ?_
  refine v_iload_n (i := 2) dX5_pairOff_0 rfl rfl ?_
  obtain ⟨q17, q17_e, hF⟩ := Option.bind_eq_some_iff.mp hF
  refine c_X5_30 rfl (Nat.le_of_ble_eq_true rfl) dX5_pairOff_1 (s_X11_lowest _ q17_e hG) (fun r1 h1 hq => ?_)
  obtain ⟨rfl, hq, hG⟩ := hq
  replace hq := hq.symm
  subst hq
  show V _ _ _ _ (_ :: _) _ _
  refine v_istore (i := 5) dX5_pairOff_4 (by decide) (nlT rfl) ?_
  simp only [List.set_cons_zero, List.set_cons_succ]
  refine v_iload_n (i := 2) dX5_pairOff_6 rfl rfl ?_
  refine v_if_eq 22 dX5_pairOff_7 (by decide) (fun c19 => ?_) (fun c19 => ?_)
  · rw [if_pos c19] at hF
    refine v_aload_n (i := 0) dX5_pairOff_22 rfl rfl ?_
    refine v_iload_n (i := 3) dX5_pairOff_23 rfl rfl ?_
    obtain ⟨q20, q20_e, hF⟩ := Option.bind_eq_some_iff.mp hF
    refine c_X5_34 rfl sh_211 (by exact ltG hG (by decide)) (Nat.le_of_ble_eq_true rfl) dX5_pairOff_24 (s_X5_keepIfLess _ q20_e hG) (fun r1 h1 hq => ?_)
    obtain ⟨rfl, hq, hG⟩ := hq
    replace hq := hq.symm
    subst hq
    simp only [Option.toList, List.nil_append]
    refine v_return rfl dX5_pairOff_27 ?_
    obtain rfl := Option.some.inj hF
    exact ⟨rfl, rfl, hG⟩
  · rw [if_neg c19] at hF
    refine v_iload (i := 5) dX5_pairOff_10 rfl ?_
    refine v_iconst (v := 5) dX5_pairOff_12 (by decide) ?_
    refine v_icmp_ge 22 dX5_pairOff_13 (by decide) (fun c22 => ?_) (fun c22 => ?_)
    · rw [if_pos c22] at hF
      refine v_aload_n (i := 0) dX5_pairOff_22 rfl rfl ?_
      refine v_iload_n (i := 3) dX5_pairOff_23 rfl rfl ?_
      obtain ⟨q23, q23_e, hF⟩ := Option.bind_eq_some_iff.mp hF
      refine c_X5_34 rfl sh_211 (by exact ltG hG (by decide)) (Nat.le_of_ble_eq_true rfl) dX5_pairOff_24 (s_X5_keepIfLess _ q23_e hG) (fun r1 h1 hq => ?_)
      obtain ⟨rfl, hq, hG⟩ := hq
      replace hq := hq.symm
      subst hq
      simp only [Option.toList, List.nil_append]
      refine v_return rfl dX5_pairOff_27 ?_
      obtain rfl := Option.some.inj hF
      exact ⟨rfl, rfl, hG⟩
    · rw [if_neg c22] at hF
      refine v_iload (i := 4) dX5_pairOff_16 rfl ?_
      refine v_iconst (v := 5) dX5_pairOff_18 (by decide) ?_
      refine v_icmp_le 28 dX5_pairOff_19 (by decide) (fun c25 => ?_) (fun c25 => ?_)
      · rw [if_pos c25] at hF
        refine v_iload_n (i := 2) dX5_pairOff_28 rfl rfl ?_
        refine v_iconst (v := 1) dX5_pairOff_29 (by decide) ?_
        refine v_iload (i := 5) dX5_pairOff_30 rfl ?_
        refine v_ishl dX5_pairOff_32 ?_
        refine v_iconst (v := (-1)) dX5_pairOff_33 (by decide) ?_
        refine v_ixor dX5_pairOff_34 ?_
        refine v_iand dX5_pairOff_35 ?_
        refine v_istore (i := 6) dX5_pairOff_36 (by decide) (nlT rfl) ?_
        simp only [List.set_cons_zero, List.set_cons_succ]
        refine v_iload (i := 5) dX5_pairOff_38 rfl ?_
        refine v_iconst (v := 1) dX5_pairOff_40 (by decide) ?_
        refine v_iadd dX5_pairOff_41 ?_
        refine v_istore (i := 7) dX5_pairOff_42 (by decide) (nlT rfl) ?_
        simp only [List.set_cons_zero, List.set_cons_succ]
        refine V.weak (la2 := [some (.ref 211), some (.ref b1), some (.int x2), some (.int x3), some (.int x4), some (.int q17.1), some (.int ((x2 : Int32) &&& (((((1 : Int32) <<< ((q17.1 : Int32) &&& 31)) : Int32) ^^^ ((-1) : Int32)) : Int32))), some (.int (q17.1 + 1)), none]) (by simp [wk]) ?_
        exact (s_X5_pairOff_IH_44) _ _ _ _ _ _ _ _ hF hG
      · rw [if_neg c25] at hF
        refine v_aload_n (i := 0) dX5_pairOff_22 rfl rfl ?_
        refine v_iload_n (i := 3) dX5_pairOff_23 rfl rfl ?_
        obtain ⟨q26, q26_e, hF⟩ := Option.bind_eq_some_iff.mp hF
        refine c_X5_34 rfl sh_211 (by exact ltG hG (by decide)) (Nat.le_of_ble_eq_true rfl) dX5_pairOff_24 (s_X5_keepIfLess _ q26_e hG) (fun r1 h1 hq => ?_)
        obtain ⟨rfl, hq, hG⟩ := hq
        replace hq := hq.symm
        subst hq
        simp only [Option.toList, List.nil_append]
        refine v_return rfl dX5_pairOff_27 ?_
        obtain rfl := Option.some.inj hF
        exact ⟨rfl, rfl, hG⟩
/-- pairs tried, nested no deeper than so many levels -/
def L_X5_pairOff : Nat → Nat → Hp → Nat → Int32 → Int32 → Int32 → Option Hp
  | 0 => fun _ _ _ _ _ _ => none
  | l + 1 => fun n h b1 x y z => F_X5_pairOff (L_X5_pairOff l) n h b1 x y z
theorem sl_X5_pairOff : ∀ (l d : Nat), 3 * l ≤ d → ∀ {n : Nat} {h : Hp} {b1 : Nat} {x2 x3 x4 : Int32} {q0 : Hp}, L_X5_pairOff l n h b1 x2 x3 x4 = some q0 → G h → Sc b1 → Kc mX5_pairOff d [.ref 211, .ref b1, .int x2, .int x3, .int x4] h (fun r1 h1 => r1 = none ∧ h1 = q0 ∧ G q0) := by
  intro l
  induction l with
  | zero => intro d _ n h b1 x2 x3 x4 q0 e; cases e
  | succ l ih =>
    intro d hd n h b1 x2 x3 x4 q0 e hG hs
    have k := s_X5_pairOff (d - 3 * l - 2) (e := 3 * l) (S := L_X5_pairOff l) (fun d' h' => ih d' h') e hG hs
    rw [show d - 3 * l - 2 + 3 * l + 2 = d by omega] at k
    exact k
def F_X5_pairOffT (n : Nat) (h : Hp) (b1 : Nat) (x2 x3 x4 : Int32) : Option Hp := L_X5_pairOff 8 n h b1 x2 x3 x4
theorem s_X5_pairOffT (d : Nat) {n : Nat} {h : Hp} {b1 : Nat} {x2 x3 x4 : Int32} {q0 : Hp} (hF : F_X5_pairOffT n h b1 x2 x3 x4 = some q0) (hG : G h) (ht1 : Sc b1) : Kc mX5_pairOff (d + 24) [.ref 211, .ref b1, .int x2, .int x3, .int x4] h (fun r1 h1 => r1 = none ∧ h1 = q0 ∧ G q0) := sl_X5_pairOff 8 (d + 24) (by omega) hF hG ht1
def F_X5_match (n : Nat) (h : Hp) (b1 : Nat) (x2 : Int32) : Option Hp := ((F_X5_pairOffT n (wrI h 211 3 (-1)) b1 (((1 : Int32) <<< ((x2 : Int32) &&& 31)) - 1) 0 0).bind (fun q1 => some q1))
set_option maxRecDepth 100000 in
set_option maxHeartbeats 4000000 in
theorem s_X5_match (d : Nat) {n : Nat} {h : Hp} {b1 : Nat} {x2 : Int32} {q0 : Hp} (hF : F_X5_match n h b1 x2 = some q0) (hG : G h) (ht1 : Sc b1) : Kc mX5_match (d + 25) [.ref 211, .ref b1, .int x2] h (fun r1 h1 => r1 = none ∧ h1 = q0 ∧ G q0) := by
  obtain ⟨t10, t11, t12, t13, t14, t15, t16, t17⟩ := id ht1
  obtain ⟨h', rfl⟩ : ∃ z, z = q0 := ⟨_, rfl⟩
  unfold F_X5_match at hF
  refine Kc.of [some (.ref 211), some (.ref b1), some (.int x2)] ok_X5_match rfl (Nat.le_of_ble_eq_true rfl) ?_
  refine v_aload_n (i := 0) dX5_match_0 rfl rfl ?_
  refine v_iconst (v := (-1)) dX5_match_1 (by decide) ?_
  refine p_X5_18 rfl sh_211 (by exact ltG hG (by decide)) dX5_match_2 ?_
  refine v_aload_n (i := 0) dX5_match_5 rfl rfl ?_
  refine v_aload_n (i := 1) dX5_match_6 rfl rfl ?_
  refine v_iconst (v := 1) dX5_match_7 (by decide) ?_
  refine v_iload_n (i := 2) dX5_match_8 rfl rfl ?_
  refine v_ishl dX5_match_9 ?_
  refine v_iconst (v := 1) dX5_match_10 (by decide) ?_
  refine v_isub dX5_match_11 ?_
  refine v_iconst (v := 0) dX5_match_12 (by decide) ?_
  refine v_iconst (v := 0) dX5_match_13 (by decide) ?_
  obtain ⟨q1, q1_e, hF⟩ := Option.bind_eq_some_iff.mp hF
  refine c_X5_26 rfl sh_211 (by exact ltG hG (by decide)) (Nat.le_of_ble_eq_true rfl) dX5_match_14 (s_X5_pairOffT _ q1_e hG (by first | assumption | exact sc_30 | exact sc_34 | exact sc_10 | exact fd_24 | exact fd_4 | exact lw_25 | exact lw_5 | exact bd_23 | exact bd_3 | exact ⟨by first | assumption | rfl, by first | decide | omega⟩)) (fun r1 h1 hq => ?_)
  obtain ⟨rfl, hq, hG⟩ := hq
  replace hq := hq.symm
  subst hq
  simp only [Option.toList, List.nil_append]
  refine v_return rfl dX5_match_17 ?_
  obtain rfl := Option.some.inj hF
  exact ⟨rfl, rfl, hG⟩
def W_X7_readLaw : Nat → Nat → Hp → Int32 → Int32 → Option Hp
  | 0 => fun _ _ _ _ => none
  | n + 1 => fun hd h l1 l2 => (if hd = 20 then (if ((hi h 2 5) : Int32) = 0 then ((F_X7_kind n h).bind (fun q6 => (if (q6.1 : Int32) = (19 : Int32) then (if (4 : Int32) < (l2 : Int32) then ((F_X7_readSumT n q6.2 0).bind (fun q14 => ((F_X4_add n q14 5 (-15)).bind (fun q16 => some q16)))) else (if (l2 : Int32) < (4 : Int32) then ((F_X7_take n q6.2 19).bind (fun q19 => ((F_X7_readSumT n q19.2 0).bind (fun q21 => ((F_X7_take n q21 60).bind (fun q23 => ((F_X7_readSumT n q23.2 0).bind (fun q25 => ((F_X7_take n q25 20).bind (fun q27 => ((F_X4_addLess n q27.2 5).bind (fun q29 => ((F_X7_readSumT n q29.2 0).bind (fun q31 => ((F_X7_take n q31 21).bind (fun q33 => ((F_X4_add n q33.2 5 (-15)).bind (fun q35 => ((F_X4_elseHere n q35 5 q29.1).bind (fun q37 => W_X7_readLaw n 20 q37  l1 (l2 + 1))))))))))))))))))))) else ((F_X7_stop n q6.2 2).bind (fun q39 => ((F_X7_take n q39 19).bind (fun q41 => ((F_X7_readSumT n q41.2 0).bind (fun q43 => ((F_X7_take n q43 60).bind (fun q45 => ((F_X7_readSumT n q45.2 0).bind (fun q47 => ((F_X7_take n q47 20).bind (fun q49 => ((F_X4_addLess n q49.2 5).bind (fun q51 => ((F_X7_readSumT n q51.2 0).bind (fun q53 => ((F_X7_take n q53 21).bind (fun q55 => ((F_X4_add n q55.2 5 (-15)).bind (fun q57 => ((F_X4_elseHere n q57 5 q51.1).bind (fun q59 => W_X7_readLaw n 20 q59  l1 (l2 + 1))))))))))))))))))))))))) else ((F_X7_readSumT n q6.2 0).bind (fun q9 => ((F_X4_add n q9 5 (-15)).bind (fun q11 => some q11))))))) else ((F_X7_readSumT n h 0).bind (fun q2 => ((F_X4_add n q2 5 (-15)).bind (fun q4 => some q4))))) else none)
set_option maxRecDepth 100000 in
set_option maxHeartbeats 4000000 in
theorem sw_X7_readLaw (d : Nat)  (n : Nat) : (∀ (l1 : Int32) (l2 : Int32) (h : Hp), ∀ (h' : Hp), W_X7_readLaw n 20 h  l1 l2 = some h' → G h → V mX7_readLaw (d + 37) 20 [some (.ref 2), some (.int l1), some (.int l2), none] [] h (fun r1 h1 => r1 = none ∧ h1 = h' ∧ G h')) := by
  induction n with
  | zero => exact by intros; contradiction
  | succ n ih =>
    have s_X7_readLaw_IH_20 := ih
    intro l1 l2 h h' hF hG
    unfold W_X7_readLaw at hF
    rw [if_pos rfl] at hF
    refine v_aload_n (i := 0) dX7_readLaw_20 rfl rfl ?_
    refine g_X7_32 rfl sh_2 (by exact ltG hG (by decide)) dX7_readLaw_21 ?_
    refine v_if_ne 134 dX7_readLaw_24 (by decide) (fun c1 => ?_) (fun c1 => ?_)
    · rw [if_neg c1] at hF
      refine v_aload_n (i := 0) dX7_readLaw_134 rfl rfl ?_
      refine v_iconst (v := 0) dX7_readLaw_135 (by decide) ?_
      obtain ⟨q2, q2_e, hF⟩ := Option.bind_eq_some_iff.mp hF
      refine c_X7_177 rfl sh_2 (by exact ltG hG (by decide)) (Nat.le_of_ble_eq_true rfl) dX7_readLaw_136 (s_X7_readSumT _ q2_e hG) (fun r1 h1 hq => ?_)
      obtain ⟨rfl, hq, hG⟩ := hq
      replace hq := hq.symm
      subst hq
      simp only [Option.toList, List.nil_append]
      refine v_aload_n (i := 0) dX7_readLaw_139 rfl rfl ?_
      refine g_X7_12 (q := 3) rfl sh_2 (by exact ltG hG (by decide)) (by exact rG hG r0_2_0) dX7_readLaw_140 ?_
      refine g_X7_168 (q := 5) rfl sh_3 (by exact ltG hG (by decide)) (by exact rG hG r0_3_1) dX7_readLaw_143 ?_
      refine v_bipush (v := (-15)) dX7_readLaw_146 (by decide) ?_
      obtain ⟨q4, q4_e, hF⟩ := Option.bind_eq_some_iff.mp hF
      refine c_X7_183 rfl sh_5 (by exact ltG hG (by decide)) (Nat.le_of_ble_eq_true rfl) dX7_readLaw_148 (s_X4_add _ q4_e hG (by first | assumption | exact sc_30 | exact sc_34 | exact sc_10 | exact fd_24 | exact fd_4 | exact lw_25 | exact lw_5 | exact bd_23 | exact bd_3 | exact ⟨by first | assumption | rfl, by first | decide | omega⟩)) (fun r1 h1 hq => ?_)
      obtain ⟨rfl, hq, hG⟩ := hq
      replace hq := hq.symm
      subst hq
      simp only [Option.toList, List.nil_append]
      refine v_return rfl dX7_readLaw_151 ?_
      obtain rfl := Option.some.inj hF
      exact ⟨rfl, rfl, hG⟩
    · rw [if_pos c1] at hF
      refine v_aload_n (i := 0) dX7_readLaw_27 rfl rfl ?_
      obtain ⟨q6, q6_e, hF⟩ := Option.bind_eq_some_iff.mp hF
      refine c_X7_80 rfl sh_2 (by exact ltG hG (by decide)) (Nat.le_of_ble_eq_true rfl) dX7_readLaw_28 (s_X7_kind _ q6_e hG) (fun r1 h1 hq => ?_)
      obtain ⟨rfl, hq, hG⟩ := hq
      replace hq := hq.symm
      subst hq
      show V _ _ _ _ (_ :: _) _ _
      refine v_bipush (v := 19) dX7_readLaw_31 (by decide) ?_
      refine v_icmp_ne 134 dX7_readLaw_33 (by decide) (fun c8 => ?_) (fun c8 => ?_)
      · rw [if_neg c8] at hF
        refine v_aload_n (i := 0) dX7_readLaw_134 rfl rfl ?_
        refine v_iconst (v := 0) dX7_readLaw_135 (by decide) ?_
        obtain ⟨q9, q9_e, hF⟩ := Option.bind_eq_some_iff.mp hF
        refine c_X7_177 rfl sh_2 (by exact ltG hG (by decide)) (Nat.le_of_ble_eq_true rfl) dX7_readLaw_136 (s_X7_readSumT _ q9_e hG) (fun r1 h1 hq => ?_)
        obtain ⟨rfl, hq, hG⟩ := hq
        replace hq := hq.symm
        subst hq
        simp only [Option.toList, List.nil_append]
        refine v_aload_n (i := 0) dX7_readLaw_139 rfl rfl ?_
        refine g_X7_12 (q := 3) rfl sh_2 (by exact ltG hG (by decide)) (by exact rG hG r0_2_0) dX7_readLaw_140 ?_
        refine g_X7_168 (q := 5) rfl sh_3 (by exact ltG hG (by decide)) (by exact rG hG r0_3_1) dX7_readLaw_143 ?_
        refine v_bipush (v := (-15)) dX7_readLaw_146 (by decide) ?_
        obtain ⟨q11, q11_e, hF⟩ := Option.bind_eq_some_iff.mp hF
        refine c_X7_183 rfl sh_5 (by exact ltG hG (by decide)) (Nat.le_of_ble_eq_true rfl) dX7_readLaw_148 (s_X4_add _ q11_e hG (by first | assumption | exact sc_30 | exact sc_34 | exact sc_10 | exact fd_24 | exact fd_4 | exact lw_25 | exact lw_5 | exact bd_23 | exact bd_3 | exact ⟨by first | assumption | rfl, by first | decide | omega⟩)) (fun r1 h1 hq => ?_)
        obtain ⟨rfl, hq, hG⟩ := hq
        replace hq := hq.symm
        subst hq
        simp only [Option.toList, List.nil_append]
        refine v_return rfl dX7_readLaw_151 ?_
        obtain rfl := Option.some.inj hF
        exact ⟨rfl, rfl, hG⟩
      · rw [if_pos c8] at hF
        refine v_iload_n (i := 2) dX7_readLaw_36 rfl rfl ?_
        refine v_iconst (v := 4) dX7_readLaw_37 (by decide) ?_
        refine v_icmp_gt 134 dX7_readLaw_38 (by decide) (fun c13 => ?_) (fun c13 => ?_)
        · rw [if_pos c13] at hF
          refine v_aload_n (i := 0) dX7_readLaw_134 rfl rfl ?_
          refine v_iconst (v := 0) dX7_readLaw_135 (by decide) ?_
          obtain ⟨q14, q14_e, hF⟩ := Option.bind_eq_some_iff.mp hF
          refine c_X7_177 rfl sh_2 (by exact ltG hG (by decide)) (Nat.le_of_ble_eq_true rfl) dX7_readLaw_136 (s_X7_readSumT _ q14_e hG) (fun r1 h1 hq => ?_)
          obtain ⟨rfl, hq, hG⟩ := hq
          replace hq := hq.symm
          subst hq
          simp only [Option.toList, List.nil_append]
          refine v_aload_n (i := 0) dX7_readLaw_139 rfl rfl ?_
          refine g_X7_12 (q := 3) rfl sh_2 (by exact ltG hG (by decide)) (by exact rG hG r0_2_0) dX7_readLaw_140 ?_
          refine g_X7_168 (q := 5) rfl sh_3 (by exact ltG hG (by decide)) (by exact rG hG r0_3_1) dX7_readLaw_143 ?_
          refine v_bipush (v := (-15)) dX7_readLaw_146 (by decide) ?_
          obtain ⟨q16, q16_e, hF⟩ := Option.bind_eq_some_iff.mp hF
          refine c_X7_183 rfl sh_5 (by exact ltG hG (by decide)) (Nat.le_of_ble_eq_true rfl) dX7_readLaw_148 (s_X4_add _ q16_e hG (by first | assumption | exact sc_30 | exact sc_34 | exact sc_10 | exact fd_24 | exact fd_4 | exact lw_25 | exact lw_5 | exact bd_23 | exact bd_3 | exact ⟨by first | assumption | rfl, by first | decide | omega⟩)) (fun r1 h1 hq => ?_)
          obtain ⟨rfl, hq, hG⟩ := hq
          replace hq := hq.symm
          subst hq
          simp only [Option.toList, List.nil_append]
          refine v_return rfl dX7_readLaw_151 ?_
          obtain rfl := Option.some.inj hF
          exact ⟨rfl, rfl, hG⟩
        · rw [if_neg c13] at hF
          refine v_iload_n (i := 2) dX7_readLaw_41 rfl rfl ?_
          refine v_iconst (v := 4) dX7_readLaw_42 (by decide) ?_
          refine v_icmp_lt 51 dX7_readLaw_43 (by decide) (fun c18 => ?_) (fun c18 => ?_)
          · rw [if_pos c18] at hF
            refine v_aload_n (i := 0) dX7_readLaw_51 rfl rfl ?_
            refine v_bipush (v := 19) dX7_readLaw_52 (by decide) ?_
            obtain ⟨q19, q19_e, hF⟩ := Option.bind_eq_some_iff.mp hF
            refine c_X7_120 rfl sh_2 (by exact ltG hG (by decide)) (Nat.le_of_ble_eq_true rfl) dX7_readLaw_54 (s_X7_take _ q19_e hG) (fun r1 h1 hq => ?_)
            obtain ⟨rfl, hq, hG⟩ := hq
            replace hq := hq.symm
            subst hq
            show V _ _ _ _ (_ :: _) _ _
            refine v_pop dX7_readLaw_57 rfl ?_
            refine v_aload_n (i := 0) dX7_readLaw_58 rfl rfl ?_
            refine v_iconst (v := 0) dX7_readLaw_59 (by decide) ?_
            obtain ⟨q21, q21_e, hF⟩ := Option.bind_eq_some_iff.mp hF
            refine c_X7_177 rfl sh_2 (by exact ltG hG (by decide)) (Nat.le_of_ble_eq_true rfl) dX7_readLaw_60 (s_X7_readSumT _ q21_e hG) (fun r1 h1 hq => ?_)
            obtain ⟨rfl, hq, hG⟩ := hq
            replace hq := hq.symm
            subst hq
            simp only [Option.toList, List.nil_append]
            refine v_aload_n (i := 0) dX7_readLaw_63 rfl rfl ?_
            refine v_bipush (v := 60) dX7_readLaw_64 (by decide) ?_
            obtain ⟨q23, q23_e, hF⟩ := Option.bind_eq_some_iff.mp hF
            refine c_X7_120 rfl sh_2 (by exact ltG hG (by decide)) (Nat.le_of_ble_eq_true rfl) dX7_readLaw_66 (s_X7_take _ q23_e hG) (fun r1 h1 hq => ?_)
            obtain ⟨rfl, hq, hG⟩ := hq
            replace hq := hq.symm
            subst hq
            show V _ _ _ _ (_ :: _) _ _
            refine v_pop dX7_readLaw_69 rfl ?_
            refine v_aload_n (i := 0) dX7_readLaw_70 rfl rfl ?_
            refine v_iconst (v := 0) dX7_readLaw_71 (by decide) ?_
            obtain ⟨q25, q25_e, hF⟩ := Option.bind_eq_some_iff.mp hF
            refine c_X7_177 rfl sh_2 (by exact ltG hG (by decide)) (Nat.le_of_ble_eq_true rfl) dX7_readLaw_72 (s_X7_readSumT _ q25_e hG) (fun r1 h1 hq => ?_)
            obtain ⟨rfl, hq, hG⟩ := hq
            replace hq := hq.symm
            subst hq
            simp only [Option.toList, List.nil_append]
            refine v_aload_n (i := 0) dX7_readLaw_75 rfl rfl ?_
            refine v_bipush (v := 20) dX7_readLaw_76 (by decide) ?_
            obtain ⟨q27, q27_e, hF⟩ := Option.bind_eq_some_iff.mp hF
            refine c_X7_120 rfl sh_2 (by exact ltG hG (by decide)) (Nat.le_of_ble_eq_true rfl) dX7_readLaw_78 (s_X7_take _ q27_e hG) (fun r1 h1 hq => ?_)
            obtain ⟨rfl, hq, hG⟩ := hq
            replace hq := hq.symm
            subst hq
            show V _ _ _ _ (_ :: _) _ _
            refine v_pop dX7_readLaw_81 rfl ?_
            refine v_aload_n (i := 0) dX7_readLaw_82 rfl rfl ?_
            refine g_X7_12 (q := 3) rfl sh_2 (by exact ltG hG (by decide)) (by exact rG hG r0_2_0) dX7_readLaw_83 ?_
            refine g_X7_168 (q := 5) rfl sh_3 (by exact ltG hG (by decide)) (by exact rG hG r0_3_1) dX7_readLaw_86 ?_
            obtain ⟨q29, q29_e, hF⟩ := Option.bind_eq_some_iff.mp hF
            refine c_X7_180 rfl sh_5 (by exact ltG hG (by decide)) (Nat.le_of_ble_eq_true rfl) dX7_readLaw_89 (s_X4_addLess _ q29_e hG (by first | assumption | exact sc_30 | exact sc_34 | exact sc_10 | exact fd_24 | exact fd_4 | exact lw_25 | exact lw_5 | exact bd_23 | exact bd_3 | exact ⟨by first | assumption | rfl, by first | decide | omega⟩)) (fun r1 h1 hq => ?_)
            obtain ⟨rfl, hq, hG⟩ := hq
            replace hq := hq.symm
            subst hq
            show V _ _ _ _ (_ :: _) _ _
            refine v_istore_n (i := 3) dX7_readLaw_92 rfl (by decide) (nlT rfl) ?_
            simp only [List.set_cons_zero, List.set_cons_succ]
            refine v_aload_n (i := 0) dX7_readLaw_93 rfl rfl ?_
            refine v_iconst (v := 0) dX7_readLaw_94 (by decide) ?_
            obtain ⟨q31, q31_e, hF⟩ := Option.bind_eq_some_iff.mp hF
            refine c_X7_177 rfl sh_2 (by exact ltG hG (by decide)) (Nat.le_of_ble_eq_true rfl) dX7_readLaw_95 (s_X7_readSumT _ q31_e hG) (fun r1 h1 hq => ?_)
            obtain ⟨rfl, hq, hG⟩ := hq
            replace hq := hq.symm
            subst hq
            simp only [Option.toList, List.nil_append]
            refine v_aload_n (i := 0) dX7_readLaw_98 rfl rfl ?_
            refine v_bipush (v := 21) dX7_readLaw_99 (by decide) ?_
            obtain ⟨q33, q33_e, hF⟩ := Option.bind_eq_some_iff.mp hF
            refine c_X7_120 rfl sh_2 (by exact ltG hG (by decide)) (Nat.le_of_ble_eq_true rfl) dX7_readLaw_101 (s_X7_take _ q33_e hG) (fun r1 h1 hq => ?_)
            obtain ⟨rfl, hq, hG⟩ := hq
            replace hq := hq.symm
            subst hq
            show V _ _ _ _ (_ :: _) _ _
            refine v_pop dX7_readLaw_104 rfl ?_
            refine v_aload_n (i := 0) dX7_readLaw_105 rfl rfl ?_
            refine g_X7_12 (q := 3) rfl sh_2 (by exact ltG hG (by decide)) (by exact rG hG r0_2_0) dX7_readLaw_106 ?_
            refine g_X7_168 (q := 5) rfl sh_3 (by exact ltG hG (by decide)) (by exact rG hG r0_3_1) dX7_readLaw_109 ?_
            refine v_bipush (v := (-15)) dX7_readLaw_112 (by decide) ?_
            obtain ⟨q35, q35_e, hF⟩ := Option.bind_eq_some_iff.mp hF
            refine c_X7_183 rfl sh_5 (by exact ltG hG (by decide)) (Nat.le_of_ble_eq_true rfl) dX7_readLaw_114 (s_X4_add _ q35_e hG (by first | assumption | exact sc_30 | exact sc_34 | exact sc_10 | exact fd_24 | exact fd_4 | exact lw_25 | exact lw_5 | exact bd_23 | exact bd_3 | exact ⟨by first | assumption | rfl, by first | decide | omega⟩)) (fun r1 h1 hq => ?_)
            obtain ⟨rfl, hq, hG⟩ := hq
            replace hq := hq.symm
            subst hq
            simp only [Option.toList, List.nil_append]
            refine v_aload_n (i := 0) dX7_readLaw_117 rfl rfl ?_
            refine g_X7_12 (q := 3) rfl sh_2 (by exact ltG hG (by decide)) (by exact rG hG r0_2_0) dX7_readLaw_118 ?_
            refine g_X7_168 (q := 5) rfl sh_3 (by exact ltG hG (by decide)) (by exact rG hG r0_3_1) dX7_readLaw_121 ?_
            refine v_iload_n (i := 3) dX7_readLaw_124 rfl rfl ?_
            obtain ⟨q37, q37_e, hF⟩ := Option.bind_eq_some_iff.mp hF
            refine c_X7_186 rfl sh_5 (by exact ltG hG (by decide)) (Nat.le_of_ble_eq_true rfl) dX7_readLaw_125 (s_X4_elseHere _ q37_e hG (by first | assumption | exact sc_30 | exact sc_34 | exact sc_10 | exact fd_24 | exact fd_4 | exact lw_25 | exact lw_5 | exact bd_23 | exact bd_3 | exact ⟨by first | assumption | rfl, by first | decide | omega⟩)) (fun r1 h1 hq => ?_)
            obtain ⟨rfl, hq, hG⟩ := hq
            replace hq := hq.symm
            subst hq
            simp only [Option.toList, List.nil_append]
            refine v_iinc (i := 2) (v := (l2 + 1)) dX7_readLaw_128 rfl rfl (by decide) (nlT rfl) ?_
            simp only [List.set_cons_zero, List.set_cons_succ]
            refine v_goto 20 dX7_readLaw_131 (by decide) ?_
            refine V.weak (la2 := [some (.ref 2), some (.int l1), some (.int (l2 + 1)), none]) (by simp [wk]) ?_
            exact (s_X7_readLaw_IH_20) _ _ _ _ hF hG
          · rw [if_neg c18] at hF
            refine v_aload_n (i := 0) dX7_readLaw_46 rfl rfl ?_
            refine v_iconst (v := 2) dX7_readLaw_47 (by decide) ?_
            obtain ⟨q39, q39_e, hF⟩ := Option.bind_eq_some_iff.mp hF
            refine c_X7_105 rfl sh_2 (by exact ltG hG (by decide)) (Nat.le_of_ble_eq_true rfl) dX7_readLaw_48 (s_X7_stop _ q39_e hG) (fun r1 h1 hq => ?_)
            obtain ⟨rfl, hq, hG⟩ := hq
            replace hq := hq.symm
            subst hq
            simp only [Option.toList, List.nil_append]
            refine v_aload_n (i := 0) dX7_readLaw_51 rfl rfl ?_
            refine v_bipush (v := 19) dX7_readLaw_52 (by decide) ?_
            obtain ⟨q41, q41_e, hF⟩ := Option.bind_eq_some_iff.mp hF
            refine c_X7_120 rfl sh_2 (by exact ltG hG (by decide)) (Nat.le_of_ble_eq_true rfl) dX7_readLaw_54 (s_X7_take _ q41_e hG) (fun r1 h1 hq => ?_)
            obtain ⟨rfl, hq, hG⟩ := hq
            replace hq := hq.symm
            subst hq
            show V _ _ _ _ (_ :: _) _ _
            refine v_pop dX7_readLaw_57 rfl ?_
            refine v_aload_n (i := 0) dX7_readLaw_58 rfl rfl ?_
            refine v_iconst (v := 0) dX7_readLaw_59 (by decide) ?_
            obtain ⟨q43, q43_e, hF⟩ := Option.bind_eq_some_iff.mp hF
            refine c_X7_177 rfl sh_2 (by exact ltG hG (by decide)) (Nat.le_of_ble_eq_true rfl) dX7_readLaw_60 (s_X7_readSumT _ q43_e hG) (fun r1 h1 hq => ?_)
            obtain ⟨rfl, hq, hG⟩ := hq
            replace hq := hq.symm
            subst hq
            simp only [Option.toList, List.nil_append]
            refine v_aload_n (i := 0) dX7_readLaw_63 rfl rfl ?_
            refine v_bipush (v := 60) dX7_readLaw_64 (by decide) ?_
            obtain ⟨q45, q45_e, hF⟩ := Option.bind_eq_some_iff.mp hF
            refine c_X7_120 rfl sh_2 (by exact ltG hG (by decide)) (Nat.le_of_ble_eq_true rfl) dX7_readLaw_66 (s_X7_take _ q45_e hG) (fun r1 h1 hq => ?_)
            obtain ⟨rfl, hq, hG⟩ := hq
            replace hq := hq.symm
            subst hq
            show V _ _ _ _ (_ :: _) _ _
            refine v_pop dX7_readLaw_69 rfl ?_
            refine v_aload_n (i := 0) dX7_readLaw_70 rfl rfl ?_
            refine v_iconst (v := 0) dX7_readLaw_71 (by decide) ?_
            obtain ⟨q47, q47_e, hF⟩ := Option.bind_eq_some_iff.mp hF
            refine c_X7_177 rfl sh_2 (by exact ltG hG (by decide)) (Nat.le_of_ble_eq_true rfl) dX7_readLaw_72 (s_X7_readSumT _ q47_e hG) (fun r1 h1 hq => ?_)
            obtain ⟨rfl, hq, hG⟩ := hq
            replace hq := hq.symm
            subst hq
            simp only [Option.toList, List.nil_append]
            refine v_aload_n (i := 0) dX7_readLaw_75 rfl rfl ?_
            refine v_bipush (v := 20) dX7_readLaw_76 (by decide) ?_
            obtain ⟨q49, q49_e, hF⟩ := Option.bind_eq_some_iff.mp hF
            refine c_X7_120 rfl sh_2 (by exact ltG hG (by decide)) (Nat.le_of_ble_eq_true rfl) dX7_readLaw_78 (s_X7_take _ q49_e hG) (fun r1 h1 hq => ?_)
            obtain ⟨rfl, hq, hG⟩ := hq
            replace hq := hq.symm
            subst hq
            show V _ _ _ _ (_ :: _) _ _
            refine v_pop dX7_readLaw_81 rfl ?_
            refine v_aload_n (i := 0) dX7_readLaw_82 rfl rfl ?_
            refine g_X7_12 (q := 3) rfl sh_2 (by exact ltG hG (by decide)) (by exact rG hG r0_2_0) dX7_readLaw_83 ?_
            refine g_X7_168 (q := 5) rfl sh_3 (by exact ltG hG (by decide)) (by exact rG hG r0_3_1) dX7_readLaw_86 ?_
            obtain ⟨q51, q51_e, hF⟩ := Option.bind_eq_some_iff.mp hF
            refine c_X7_180 rfl sh_5 (by exact ltG hG (by decide)) (Nat.le_of_ble_eq_true rfl) dX7_readLaw_89 (s_X4_addLess _ q51_e hG (by first | assumption | exact sc_30 | exact sc_34 | exact sc_10 | exact fd_24 | exact fd_4 | exact lw_25 | exact lw_5 | exact bd_23 | exact bd_3 | exact ⟨by first | assumption | rfl, by first | decide | omega⟩)) (fun r1 h1 hq => ?_)
            obtain ⟨rfl, hq, hG⟩ := hq
            replace hq := hq.symm
            subst hq
            show V _ _ _ _ (_ :: _) _ _
            refine v_istore_n (i := 3) dX7_readLaw_92 rfl (by decide) (nlT rfl) ?_
            simp only [List.set_cons_zero, List.set_cons_succ]
            refine v_aload_n (i := 0) dX7_readLaw_93 rfl rfl ?_
            refine v_iconst (v := 0) dX7_readLaw_94 (by decide) ?_
            obtain ⟨q53, q53_e, hF⟩ := Option.bind_eq_some_iff.mp hF
            refine c_X7_177 rfl sh_2 (by exact ltG hG (by decide)) (Nat.le_of_ble_eq_true rfl) dX7_readLaw_95 (s_X7_readSumT _ q53_e hG) (fun r1 h1 hq => ?_)
            obtain ⟨rfl, hq, hG⟩ := hq
            replace hq := hq.symm
            subst hq
            simp only [Option.toList, List.nil_append]
            refine v_aload_n (i := 0) dX7_readLaw_98 rfl rfl ?_
            refine v_bipush (v := 21) dX7_readLaw_99 (by decide) ?_
            obtain ⟨q55, q55_e, hF⟩ := Option.bind_eq_some_iff.mp hF
            refine c_X7_120 rfl sh_2 (by exact ltG hG (by decide)) (Nat.le_of_ble_eq_true rfl) dX7_readLaw_101 (s_X7_take _ q55_e hG) (fun r1 h1 hq => ?_)
            obtain ⟨rfl, hq, hG⟩ := hq
            replace hq := hq.symm
            subst hq
            show V _ _ _ _ (_ :: _) _ _
            refine v_pop dX7_readLaw_104 rfl ?_
            refine v_aload_n (i := 0) dX7_readLaw_105 rfl rfl ?_
            refine g_X7_12 (q := 3) rfl sh_2 (by exact ltG hG (by decide)) (by exact rG hG r0_2_0) dX7_readLaw_106 ?_
            refine g_X7_168 (q := 5) rfl sh_3 (by exact ltG hG (by decide)) (by exact rG hG r0_3_1) dX7_readLaw_109 ?_
            refine v_bipush (v := (-15)) dX7_readLaw_112 (by decide) ?_
            obtain ⟨q57, q57_e, hF⟩ := Option.bind_eq_some_iff.mp hF
            refine c_X7_183 rfl sh_5 (by exact ltG hG (by decide)) (Nat.le_of_ble_eq_true rfl) dX7_readLaw_114 (s_X4_add _ q57_e hG (by first | assumption | exact sc_30 | exact sc_34 | exact sc_10 | exact fd_24 | exact fd_4 | exact lw_25 | exact lw_5 | exact bd_23 | exact bd_3 | exact ⟨by first | assumption | rfl, by first | decide | omega⟩)) (fun r1 h1 hq => ?_)
            obtain ⟨rfl, hq, hG⟩ := hq
            replace hq := hq.symm
            subst hq
            simp only [Option.toList, List.nil_append]
            refine v_aload_n (i := 0) dX7_readLaw_117 rfl rfl ?_
            refine g_X7_12 (q := 3) rfl sh_2 (by exact ltG hG (by decide)) (by exact rG hG r0_2_0) dX7_readLaw_118 ?_
            refine g_X7_168 (q := 5) rfl sh_3 (by exact ltG hG (by decide)) (by exact rG hG r0_3_1) dX7_readLaw_121 ?_
            refine v_iload_n (i := 3) dX7_readLaw_124 rfl rfl ?_
            obtain ⟨q59, q59_e, hF⟩ := Option.bind_eq_some_iff.mp hF
            refine c_X7_186 rfl sh_5 (by exact ltG hG (by decide)) (Nat.le_of_ble_eq_true rfl) dX7_readLaw_125 (s_X4_elseHere _ q59_e hG (by first | assumption | exact sc_30 | exact sc_34 | exact sc_10 | exact fd_24 | exact fd_4 | exact lw_25 | exact lw_5 | exact bd_23 | exact bd_3 | exact ⟨by first | assumption | rfl, by first | decide | omega⟩)) (fun r1 h1 hq => ?_)
            obtain ⟨rfl, hq, hG⟩ := hq
            replace hq := hq.symm
            subst hq
            simp only [Option.toList, List.nil_append]
            refine v_iinc (i := 2) (v := (l2 + 1)) dX7_readLaw_128 rfl rfl (by decide) (nlT rfl) ?_
            simp only [List.set_cons_zero, List.set_cons_succ]
            refine v_goto 20 dX7_readLaw_131 (by decide) ?_
            refine V.weak (la2 := [some (.ref 2), some (.int l1), some (.int (l2 + 1)), none]) (by simp [wk]) ?_
            exact (s_X7_readLaw_IH_20) _ _ _ _ hF hG
def F_X7_readLaw (n : Nat) (h : Hp) (x1 : Int32) : Option Hp := ((F_X7_take n h 61).bind (fun q61 => ((F_X4_begin n q61.2 5 x1).bind (fun q63 => W_X7_readLaw n 20 q63  x1 0))))
set_option maxRecDepth 100000 in
set_option maxHeartbeats 4000000 in
theorem s_X7_readLaw (d : Nat) {n : Nat} {h : Hp} {x1 : Int32} {q0 : Hp} (hF : F_X7_readLaw n h x1 = some q0) (hG : G h)  : Kc mX7_readLaw (d + 37) [.ref 2, .int x1] h (fun r1 h1 => r1 = none ∧ h1 = q0 ∧ G q0) := by
  obtain ⟨h', rfl⟩ : ∃ z, z = q0 := ⟨_, rfl⟩
  have s_X7_readLaw_IH_20 := sw_X7_readLaw d   n
  unfold F_X7_readLaw at hF
  refine Kc.of [some (.ref 2), some (.int x1), none, none] ok_X7_readLaw rfl (Nat.le_of_ble_eq_true rfl) ?_
  refine v_aload_n (i := 0) dX7_readLaw_0 rfl rfl ?_
  refine v_bipush (v := 61) dX7_readLaw_1 (by decide) ?_
  obtain ⟨q61, q61_e, hF⟩ := Option.bind_eq_some_iff.mp hF
  refine c_X7_120 rfl sh_2 (by exact ltG hG (by decide)) (Nat.le_of_ble_eq_true rfl) dX7_readLaw_3 (s_X7_take _ q61_e hG) (fun r1 h1 hq => ?_)
  obtain ⟨rfl, hq, hG⟩ := hq
  replace hq := hq.symm
  subst hq
  show V _ _ _ _ (_ :: _) _ _
  refine v_pop dX7_readLaw_6 rfl ?_
  refine v_aload_n (i := 0) dX7_readLaw_7 rfl rfl ?_
  refine g_X7_12 (q := 3) rfl sh_2 (by exact ltG hG (by decide)) (by exact rG hG r0_2_0) dX7_readLaw_8 ?_
  refine g_X7_168 (q := 5) rfl sh_3 (by exact ltG hG (by decide)) (by exact rG hG r0_3_1) dX7_readLaw_11 ?_
  refine v_iload_n (i := 1) dX7_readLaw_14 rfl rfl ?_
  obtain ⟨q63, q63_e, hF⟩ := Option.bind_eq_some_iff.mp hF
  refine c_X7_172 rfl sh_5 (by exact ltG hG (by decide)) (Nat.le_of_ble_eq_true rfl) dX7_readLaw_15 (s_X4_begin _ q63_e hG (by first | assumption | exact sc_30 | exact sc_34 | exact sc_10 | exact fd_24 | exact fd_4 | exact lw_25 | exact lw_5 | exact bd_23 | exact bd_3 | exact ⟨by first | assumption | rfl, by first | decide | omega⟩)) (fun r1 h1 hq => ?_)
  obtain ⟨rfl, hq, hG⟩ := hq
  replace hq := hq.symm
  subst hq
  simp only [Option.toList, List.nil_append]
  refine v_iconst (v := 0) dX7_readLaw_18 (by decide) ?_
  refine v_istore_n (i := 2) dX7_readLaw_19 rfl (by decide) (nlT rfl) ?_
  simp only [List.set_cons_zero, List.set_cons_succ]
  refine V.weak (la2 := [some (.ref 2), some (.int x1), some (.int 0), none]) (by simp [wk]) ?_
  exact (s_X7_readLaw_IH_20) _ _ _ _ hF hG
def F_X7_readTell (n : Nat) (h : Hp) (x1 : Int32) : Option Hp := (if x1 = 9 then ((F_X7_readLawn n h).bind (fun q2 => ((F_X7_take n q2 59).bind (fun q4 => some q4.2)))) else (if x1 = 10 then ((F_X7_readTune n h).bind (fun q7 => ((F_X7_take n q7 59).bind (fun q9 => some q9.2)))) else (if x1 = 11 then ((F_X7_readGoer n h).bind (fun q12 => ((F_X7_take n q12 59).bind (fun q14 => some q14.2)))) else (if x1 = 12 then ((F_X7_readRope n h).bind (fun q17 => ((F_X7_take n q17 59).bind (fun q19 => some q19.2)))) else (if x1 = 13 then (if (x1 : Int32) < (13 : Int32) then ((F_X7_stop n h 1).bind (fun q23 => some q23)) else (if (x1 : Int32) ≤ (16 : Int32) then ((F_X7_take n h x1).bind (fun q26 => ((F_X7_readLaw n q26.2 (x1 - 13)).bind (fun q28 => ((F_X7_take n q28 59).bind (fun q30 => some q30.2)))))) else ((F_X7_stop n h 1).bind (fun q32 => some q32)))) else (if x1 = 14 then (if (x1 : Int32) < (13 : Int32) then ((F_X7_stop n h 1).bind (fun q36 => some q36)) else (if (x1 : Int32) ≤ (16 : Int32) then ((F_X7_take n h x1).bind (fun q39 => ((F_X7_readLaw n q39.2 (x1 - 13)).bind (fun q41 => ((F_X7_take n q41 59).bind (fun q43 => some q43.2)))))) else ((F_X7_stop n h 1).bind (fun q45 => some q45)))) else (if x1 = 15 then (if (x1 : Int32) < (13 : Int32) then ((F_X7_stop n h 1).bind (fun q49 => some q49)) else (if (x1 : Int32) ≤ (16 : Int32) then ((F_X7_take n h x1).bind (fun q52 => ((F_X7_readLaw n q52.2 (x1 - 13)).bind (fun q54 => ((F_X7_take n q54 59).bind (fun q56 => some q56.2)))))) else ((F_X7_stop n h 1).bind (fun q58 => some q58)))) else (if x1 = 16 then (if (x1 : Int32) < (13 : Int32) then ((F_X7_stop n h 1).bind (fun q62 => some q62)) else (if (x1 : Int32) ≤ (16 : Int32) then ((F_X7_take n h x1).bind (fun q65 => ((F_X7_readLaw n q65.2 (x1 - 13)).bind (fun q67 => ((F_X7_take n q67 59).bind (fun q69 => some q69.2)))))) else ((F_X7_stop n h 1).bind (fun q71 => some q71)))) else (if x1 = 17 then ((F_X7_take n h x1).bind (fun q74 => ((F_X7_takeNumber n q74.2 0 100).bind (fun q76 => ((F_X7_take n (wrI q76.2 3 3 q76.1) 59).bind (fun q78 => some q78.2)))))) else (if x1 = 18 then ((F_X7_take n h x1).bind (fun q81 => ((F_X7_takeNumber n q81.2 0 9999).bind (fun q83 => ((F_X7_take n (wrI q83.2 3 4 q83.1) 59).bind (fun q85 => some q85.2)))))) else (if (x1 : Int32) < (13 : Int32) then ((F_X7_stop n h 1).bind (fun q88 => some q88)) else (if (x1 : Int32) ≤ (16 : Int32) then ((F_X7_take n h x1).bind (fun q91 => ((F_X7_readLaw n q91.2 (x1 - 13)).bind (fun q93 => ((F_X7_take n q93 59).bind (fun q95 => some q95.2)))))) else ((F_X7_stop n h 1).bind (fun q97 => some q97))))))))))))))
set_option maxRecDepth 100000 in
set_option maxHeartbeats 4000000 in
theorem s_X7_readTell (d : Nat) {n : Nat} {h : Hp} {x1 : Int32} {q0 : Hp} (hF : F_X7_readTell n h x1 = some q0) (hG : G h)  : Kc mX7_readTell (d + 38) [.ref 2, .int x1] h (fun r1 h1 => r1 = none ∧ h1 = q0 ∧ G q0) := by
  obtain ⟨h', rfl⟩ : ∃ z, z = q0 := ⟨_, rfl⟩
  unfold F_X7_readTell at hF
  refine Kc.of [some (.ref 2), some (.int x1)] ok_X7_readTell rfl (Nat.le_of_ble_eq_true rfl) ?_
  refine v_iload_n (i := 1) dX7_readTell_0 rfl rfl ?_
  by_cases c1 : x1 = 9
  · rw [if_pos c1] at hF
    refine v_tableIn (off := 55) 56 dX7_readTell_1 (by rw [c1]; decide) (by rw [c1]; decide) (by rw [c1]; decide +kernel) (by decide) ?_
    refine v_aload_n (i := 0) dX7_readTell_56 rfl rfl ?_
    obtain ⟨q2, q2_e, hF⟩ := Option.bind_eq_some_iff.mp hF
    refine c_X7_108 rfl sh_2 (by exact ltG hG (by decide)) (Nat.le_of_ble_eq_true rfl) dX7_readTell_57 (s_X7_readLawn _ q2_e hG) (fun r1 h1 hq => ?_)
    obtain ⟨rfl, hq, hG⟩ := hq
    replace hq := hq.symm
    subst hq
    simp only [Option.toList, List.nil_append]
    refine v_goto 163 dX7_readTell_60 (by decide) ?_
    refine v_aload_n (i := 0) dX7_readTell_163 rfl rfl ?_
    refine v_bipush (v := 59) dX7_readTell_164 (by decide) ?_
    obtain ⟨q4, q4_e, hF⟩ := Option.bind_eq_some_iff.mp hF
    refine c_X7_120 rfl sh_2 (by exact ltG hG (by decide)) (Nat.le_of_ble_eq_true rfl) dX7_readTell_166 (s_X7_take _ q4_e hG) (fun r1 h1 hq => ?_)
    obtain ⟨rfl, hq, hG⟩ := hq
    replace hq := hq.symm
    subst hq
    show V _ _ _ _ (_ :: _) _ _
    refine v_pop dX7_readTell_169 rfl ?_
    refine v_return rfl dX7_readTell_170 ?_
    obtain rfl := Option.some.inj hF
    exact ⟨rfl, rfl, hG⟩
  rw [if_neg c1] at hF
  by_cases c6 : x1 = 10
  · rw [if_pos c6] at hF
    refine v_tableIn (off := 62) 63 dX7_readTell_1 (by rw [c6]; decide) (by rw [c6]; decide) (by rw [c6]; decide +kernel) (by decide) ?_
    refine v_aload_n (i := 0) dX7_readTell_63 rfl rfl ?_
    obtain ⟨q7, q7_e, hF⟩ := Option.bind_eq_some_iff.mp hF
    refine c_X7_111 rfl sh_2 (by exact ltG hG (by decide)) (Nat.le_of_ble_eq_true rfl) dX7_readTell_64 (s_X7_readTune _ q7_e hG) (fun r1 h1 hq => ?_)
    obtain ⟨rfl, hq, hG⟩ := hq
    replace hq := hq.symm
    subst hq
    simp only [Option.toList, List.nil_append]
    refine v_goto 163 dX7_readTell_67 (by decide) ?_
    refine v_aload_n (i := 0) dX7_readTell_163 rfl rfl ?_
    refine v_bipush (v := 59) dX7_readTell_164 (by decide) ?_
    obtain ⟨q9, q9_e, hF⟩ := Option.bind_eq_some_iff.mp hF
    refine c_X7_120 rfl sh_2 (by exact ltG hG (by decide)) (Nat.le_of_ble_eq_true rfl) dX7_readTell_166 (s_X7_take _ q9_e hG) (fun r1 h1 hq => ?_)
    obtain ⟨rfl, hq, hG⟩ := hq
    replace hq := hq.symm
    subst hq
    show V _ _ _ _ (_ :: _) _ _
    refine v_pop dX7_readTell_169 rfl ?_
    refine v_return rfl dX7_readTell_170 ?_
    obtain rfl := Option.some.inj hF
    exact ⟨rfl, rfl, hG⟩
  rw [if_neg c6] at hF
  by_cases c11 : x1 = 11
  · rw [if_pos c11] at hF
    refine v_tableIn (off := 69) 70 dX7_readTell_1 (by rw [c11]; decide) (by rw [c11]; decide) (by rw [c11]; decide +kernel) (by decide) ?_
    refine v_aload_n (i := 0) dX7_readTell_70 rfl rfl ?_
    obtain ⟨q12, q12_e, hF⟩ := Option.bind_eq_some_iff.mp hF
    refine c_X7_114 rfl sh_2 (by exact ltG hG (by decide)) (Nat.le_of_ble_eq_true rfl) dX7_readTell_71 (s_X7_readGoer _ q12_e hG) (fun r1 h1 hq => ?_)
    obtain ⟨rfl, hq, hG⟩ := hq
    replace hq := hq.symm
    subst hq
    simp only [Option.toList, List.nil_append]
    refine v_goto 163 dX7_readTell_74 (by decide) ?_
    refine v_aload_n (i := 0) dX7_readTell_163 rfl rfl ?_
    refine v_bipush (v := 59) dX7_readTell_164 (by decide) ?_
    obtain ⟨q14, q14_e, hF⟩ := Option.bind_eq_some_iff.mp hF
    refine c_X7_120 rfl sh_2 (by exact ltG hG (by decide)) (Nat.le_of_ble_eq_true rfl) dX7_readTell_166 (s_X7_take _ q14_e hG) (fun r1 h1 hq => ?_)
    obtain ⟨rfl, hq, hG⟩ := hq
    replace hq := hq.symm
    subst hq
    show V _ _ _ _ (_ :: _) _ _
    refine v_pop dX7_readTell_169 rfl ?_
    refine v_return rfl dX7_readTell_170 ?_
    obtain rfl := Option.some.inj hF
    exact ⟨rfl, rfl, hG⟩
  rw [if_neg c11] at hF
  by_cases c16 : x1 = 12
  · rw [if_pos c16] at hF
    refine v_tableIn (off := 76) 77 dX7_readTell_1 (by rw [c16]; decide) (by rw [c16]; decide) (by rw [c16]; decide +kernel) (by decide) ?_
    refine v_aload_n (i := 0) dX7_readTell_77 rfl rfl ?_
    obtain ⟨q17, q17_e, hF⟩ := Option.bind_eq_some_iff.mp hF
    refine c_X7_117 rfl sh_2 (by exact ltG hG (by decide)) (Nat.le_of_ble_eq_true rfl) dX7_readTell_78 (s_X7_readRope _ q17_e hG) (fun r1 h1 hq => ?_)
    obtain ⟨rfl, hq, hG⟩ := hq
    replace hq := hq.symm
    subst hq
    simp only [Option.toList, List.nil_append]
    refine v_goto 163 dX7_readTell_81 (by decide) ?_
    refine v_aload_n (i := 0) dX7_readTell_163 rfl rfl ?_
    refine v_bipush (v := 59) dX7_readTell_164 (by decide) ?_
    obtain ⟨q19, q19_e, hF⟩ := Option.bind_eq_some_iff.mp hF
    refine c_X7_120 rfl sh_2 (by exact ltG hG (by decide)) (Nat.le_of_ble_eq_true rfl) dX7_readTell_166 (s_X7_take _ q19_e hG) (fun r1 h1 hq => ?_)
    obtain ⟨rfl, hq, hG⟩ := hq
    replace hq := hq.symm
    subst hq
    show V _ _ _ _ (_ :: _) _ _
    refine v_pop dX7_readTell_169 rfl ?_
    refine v_return rfl dX7_readTell_170 ?_
    obtain rfl := Option.some.inj hF
    exact ⟨rfl, rfl, hG⟩
  rw [if_neg c16] at hF
  by_cases c21 : x1 = 13
  · rw [if_pos c21] at hF
    refine v_tableIn (off := 130) 131 dX7_readTell_1 (by rw [c21]; decide) (by rw [c21]; decide) (by rw [c21]; decide +kernel) (by decide) ?_
    refine v_iload_n (i := 1) dX7_readTell_131 rfl rfl ?_
    refine v_bipush (v := 13) dX7_readTell_132 (by decide) ?_
    refine v_icmp_lt 143 dX7_readTell_134 (by decide) (fun c22 => ?_) (fun c22 => ?_)
    · rw [if_pos c22] at hF
      refine v_aload_n (i := 0) dX7_readTell_143 rfl rfl ?_
      refine v_iconst (v := 1) dX7_readTell_144 (by decide) ?_
      obtain ⟨q23, q23_e, hF⟩ := Option.bind_eq_some_iff.mp hF
      refine c_X7_105 rfl sh_2 (by exact ltG hG (by decide)) (Nat.le_of_ble_eq_true rfl) dX7_readTell_145 (s_X7_stop _ q23_e hG) (fun r1 h1 hq => ?_)
      obtain ⟨rfl, hq, hG⟩ := hq
      replace hq := hq.symm
      subst hq
      simp only [Option.toList, List.nil_append]
      refine v_return rfl dX7_readTell_148 ?_
      obtain rfl := Option.some.inj hF
      exact ⟨rfl, rfl, hG⟩
    · rw [if_neg c22] at hF
      refine v_iload_n (i := 1) dX7_readTell_137 rfl rfl ?_
      refine v_bipush (v := 16) dX7_readTell_138 (by decide) ?_
      refine v_icmp_le 149 dX7_readTell_140 (by decide) (fun c25 => ?_) (fun c25 => ?_)
      · rw [if_pos c25] at hF
        refine v_aload_n (i := 0) dX7_readTell_149 rfl rfl ?_
        refine v_iload_n (i := 1) dX7_readTell_150 rfl rfl ?_
        obtain ⟨q26, q26_e, hF⟩ := Option.bind_eq_some_iff.mp hF
        refine c_X7_120 rfl sh_2 (by exact ltG hG (by decide)) (Nat.le_of_ble_eq_true rfl) dX7_readTell_151 (s_X7_take _ q26_e hG) (fun r1 h1 hq => ?_)
        obtain ⟨rfl, hq, hG⟩ := hq
        replace hq := hq.symm
        subst hq
        show V _ _ _ _ (_ :: _) _ _
        refine v_pop dX7_readTell_154 rfl ?_
        refine v_aload_n (i := 0) dX7_readTell_155 rfl rfl ?_
        refine v_iload_n (i := 1) dX7_readTell_156 rfl rfl ?_
        refine v_bipush (v := 13) dX7_readTell_157 (by decide) ?_
        refine v_isub dX7_readTell_159 ?_
        obtain ⟨q28, q28_e, hF⟩ := Option.bind_eq_some_iff.mp hF
        refine c_X7_134 rfl sh_2 (by exact ltG hG (by decide)) (Nat.le_of_ble_eq_true rfl) dX7_readTell_160 (s_X7_readLaw _ q28_e hG) (fun r1 h1 hq => ?_)
        obtain ⟨rfl, hq, hG⟩ := hq
        replace hq := hq.symm
        subst hq
        simp only [Option.toList, List.nil_append]
        refine v_aload_n (i := 0) dX7_readTell_163 rfl rfl ?_
        refine v_bipush (v := 59) dX7_readTell_164 (by decide) ?_
        obtain ⟨q30, q30_e, hF⟩ := Option.bind_eq_some_iff.mp hF
        refine c_X7_120 rfl sh_2 (by exact ltG hG (by decide)) (Nat.le_of_ble_eq_true rfl) dX7_readTell_166 (s_X7_take _ q30_e hG) (fun r1 h1 hq => ?_)
        obtain ⟨rfl, hq, hG⟩ := hq
        replace hq := hq.symm
        subst hq
        show V _ _ _ _ (_ :: _) _ _
        refine v_pop dX7_readTell_169 rfl ?_
        refine v_return rfl dX7_readTell_170 ?_
        obtain rfl := Option.some.inj hF
        exact ⟨rfl, rfl, hG⟩
      · rw [if_neg c25] at hF
        refine v_aload_n (i := 0) dX7_readTell_143 rfl rfl ?_
        refine v_iconst (v := 1) dX7_readTell_144 (by decide) ?_
        obtain ⟨q32, q32_e, hF⟩ := Option.bind_eq_some_iff.mp hF
        refine c_X7_105 rfl sh_2 (by exact ltG hG (by decide)) (Nat.le_of_ble_eq_true rfl) dX7_readTell_145 (s_X7_stop _ q32_e hG) (fun r1 h1 hq => ?_)
        obtain ⟨rfl, hq, hG⟩ := hq
        replace hq := hq.symm
        subst hq
        simp only [Option.toList, List.nil_append]
        refine v_return rfl dX7_readTell_148 ?_
        obtain rfl := Option.some.inj hF
        exact ⟨rfl, rfl, hG⟩
  rw [if_neg c21] at hF
  by_cases c34 : x1 = 14
  · rw [if_pos c34] at hF
    refine v_tableIn (off := 130) 131 dX7_readTell_1 (by rw [c34]; decide) (by rw [c34]; decide) (by rw [c34]; decide +kernel) (by decide) ?_
    refine v_iload_n (i := 1) dX7_readTell_131 rfl rfl ?_
    refine v_bipush (v := 13) dX7_readTell_132 (by decide) ?_
    refine v_icmp_lt 143 dX7_readTell_134 (by decide) (fun c35 => ?_) (fun c35 => ?_)
    · rw [if_pos c35] at hF
      refine v_aload_n (i := 0) dX7_readTell_143 rfl rfl ?_
      refine v_iconst (v := 1) dX7_readTell_144 (by decide) ?_
      obtain ⟨q36, q36_e, hF⟩ := Option.bind_eq_some_iff.mp hF
      refine c_X7_105 rfl sh_2 (by exact ltG hG (by decide)) (Nat.le_of_ble_eq_true rfl) dX7_readTell_145 (s_X7_stop _ q36_e hG) (fun r1 h1 hq => ?_)
      obtain ⟨rfl, hq, hG⟩ := hq
      replace hq := hq.symm
      subst hq
      simp only [Option.toList, List.nil_append]
      refine v_return rfl dX7_readTell_148 ?_
      obtain rfl := Option.some.inj hF
      exact ⟨rfl, rfl, hG⟩
    · rw [if_neg c35] at hF
      refine v_iload_n (i := 1) dX7_readTell_137 rfl rfl ?_
      refine v_bipush (v := 16) dX7_readTell_138 (by decide) ?_
      refine v_icmp_le 149 dX7_readTell_140 (by decide) (fun c38 => ?_) (fun c38 => ?_)
      · rw [if_pos c38] at hF
        refine v_aload_n (i := 0) dX7_readTell_149 rfl rfl ?_
        refine v_iload_n (i := 1) dX7_readTell_150 rfl rfl ?_
        obtain ⟨q39, q39_e, hF⟩ := Option.bind_eq_some_iff.mp hF
        refine c_X7_120 rfl sh_2 (by exact ltG hG (by decide)) (Nat.le_of_ble_eq_true rfl) dX7_readTell_151 (s_X7_take _ q39_e hG) (fun r1 h1 hq => ?_)
        obtain ⟨rfl, hq, hG⟩ := hq
        replace hq := hq.symm
        subst hq
        show V _ _ _ _ (_ :: _) _ _
        refine v_pop dX7_readTell_154 rfl ?_
        refine v_aload_n (i := 0) dX7_readTell_155 rfl rfl ?_
        refine v_iload_n (i := 1) dX7_readTell_156 rfl rfl ?_
        refine v_bipush (v := 13) dX7_readTell_157 (by decide) ?_
        refine v_isub dX7_readTell_159 ?_
        obtain ⟨q41, q41_e, hF⟩ := Option.bind_eq_some_iff.mp hF
        refine c_X7_134 rfl sh_2 (by exact ltG hG (by decide)) (Nat.le_of_ble_eq_true rfl) dX7_readTell_160 (s_X7_readLaw _ q41_e hG) (fun r1 h1 hq => ?_)
        obtain ⟨rfl, hq, hG⟩ := hq
        replace hq := hq.symm
        subst hq
        simp only [Option.toList, List.nil_append]
        refine v_aload_n (i := 0) dX7_readTell_163 rfl rfl ?_
        refine v_bipush (v := 59) dX7_readTell_164 (by decide) ?_
        obtain ⟨q43, q43_e, hF⟩ := Option.bind_eq_some_iff.mp hF
        refine c_X7_120 rfl sh_2 (by exact ltG hG (by decide)) (Nat.le_of_ble_eq_true rfl) dX7_readTell_166 (s_X7_take _ q43_e hG) (fun r1 h1 hq => ?_)
        obtain ⟨rfl, hq, hG⟩ := hq
        replace hq := hq.symm
        subst hq
        show V _ _ _ _ (_ :: _) _ _
        refine v_pop dX7_readTell_169 rfl ?_
        refine v_return rfl dX7_readTell_170 ?_
        obtain rfl := Option.some.inj hF
        exact ⟨rfl, rfl, hG⟩
      · rw [if_neg c38] at hF
        refine v_aload_n (i := 0) dX7_readTell_143 rfl rfl ?_
        refine v_iconst (v := 1) dX7_readTell_144 (by decide) ?_
        obtain ⟨q45, q45_e, hF⟩ := Option.bind_eq_some_iff.mp hF
        refine c_X7_105 rfl sh_2 (by exact ltG hG (by decide)) (Nat.le_of_ble_eq_true rfl) dX7_readTell_145 (s_X7_stop _ q45_e hG) (fun r1 h1 hq => ?_)
        obtain ⟨rfl, hq, hG⟩ := hq
        replace hq := hq.symm
        subst hq
        simp only [Option.toList, List.nil_append]
        refine v_return rfl dX7_readTell_148 ?_
        obtain rfl := Option.some.inj hF
        exact ⟨rfl, rfl, hG⟩
  rw [if_neg c34] at hF
  by_cases c47 : x1 = 15
  · rw [if_pos c47] at hF
    refine v_tableIn (off := 130) 131 dX7_readTell_1 (by rw [c47]; decide) (by rw [c47]; decide) (by rw [c47]; decide +kernel) (by decide) ?_
    refine v_iload_n (i := 1) dX7_readTell_131 rfl rfl ?_
    refine v_bipush (v := 13) dX7_readTell_132 (by decide) ?_
    refine v_icmp_lt 143 dX7_readTell_134 (by decide) (fun c48 => ?_) (fun c48 => ?_)
    · rw [if_pos c48] at hF
      refine v_aload_n (i := 0) dX7_readTell_143 rfl rfl ?_
      refine v_iconst (v := 1) dX7_readTell_144 (by decide) ?_
      obtain ⟨q49, q49_e, hF⟩ := Option.bind_eq_some_iff.mp hF
      refine c_X7_105 rfl sh_2 (by exact ltG hG (by decide)) (Nat.le_of_ble_eq_true rfl) dX7_readTell_145 (s_X7_stop _ q49_e hG) (fun r1 h1 hq => ?_)
      obtain ⟨rfl, hq, hG⟩ := hq
      replace hq := hq.symm
      subst hq
      simp only [Option.toList, List.nil_append]
      refine v_return rfl dX7_readTell_148 ?_
      obtain rfl := Option.some.inj hF
      exact ⟨rfl, rfl, hG⟩
    · rw [if_neg c48] at hF
      refine v_iload_n (i := 1) dX7_readTell_137 rfl rfl ?_
      refine v_bipush (v := 16) dX7_readTell_138 (by decide) ?_
      refine v_icmp_le 149 dX7_readTell_140 (by decide) (fun c51 => ?_) (fun c51 => ?_)
      · rw [if_pos c51] at hF
        refine v_aload_n (i := 0) dX7_readTell_149 rfl rfl ?_
        refine v_iload_n (i := 1) dX7_readTell_150 rfl rfl ?_
        obtain ⟨q52, q52_e, hF⟩ := Option.bind_eq_some_iff.mp hF
        refine c_X7_120 rfl sh_2 (by exact ltG hG (by decide)) (Nat.le_of_ble_eq_true rfl) dX7_readTell_151 (s_X7_take _ q52_e hG) (fun r1 h1 hq => ?_)
        obtain ⟨rfl, hq, hG⟩ := hq
        replace hq := hq.symm
        subst hq
        show V _ _ _ _ (_ :: _) _ _
        refine v_pop dX7_readTell_154 rfl ?_
        refine v_aload_n (i := 0) dX7_readTell_155 rfl rfl ?_
        refine v_iload_n (i := 1) dX7_readTell_156 rfl rfl ?_
        refine v_bipush (v := 13) dX7_readTell_157 (by decide) ?_
        refine v_isub dX7_readTell_159 ?_
        obtain ⟨q54, q54_e, hF⟩ := Option.bind_eq_some_iff.mp hF
        refine c_X7_134 rfl sh_2 (by exact ltG hG (by decide)) (Nat.le_of_ble_eq_true rfl) dX7_readTell_160 (s_X7_readLaw _ q54_e hG) (fun r1 h1 hq => ?_)
        obtain ⟨rfl, hq, hG⟩ := hq
        replace hq := hq.symm
        subst hq
        simp only [Option.toList, List.nil_append]
        refine v_aload_n (i := 0) dX7_readTell_163 rfl rfl ?_
        refine v_bipush (v := 59) dX7_readTell_164 (by decide) ?_
        obtain ⟨q56, q56_e, hF⟩ := Option.bind_eq_some_iff.mp hF
        refine c_X7_120 rfl sh_2 (by exact ltG hG (by decide)) (Nat.le_of_ble_eq_true rfl) dX7_readTell_166 (s_X7_take _ q56_e hG) (fun r1 h1 hq => ?_)
        obtain ⟨rfl, hq, hG⟩ := hq
        replace hq := hq.symm
        subst hq
        show V _ _ _ _ (_ :: _) _ _
        refine v_pop dX7_readTell_169 rfl ?_
        refine v_return rfl dX7_readTell_170 ?_
        obtain rfl := Option.some.inj hF
        exact ⟨rfl, rfl, hG⟩
      · rw [if_neg c51] at hF
        refine v_aload_n (i := 0) dX7_readTell_143 rfl rfl ?_
        refine v_iconst (v := 1) dX7_readTell_144 (by decide) ?_
        obtain ⟨q58, q58_e, hF⟩ := Option.bind_eq_some_iff.mp hF
        refine c_X7_105 rfl sh_2 (by exact ltG hG (by decide)) (Nat.le_of_ble_eq_true rfl) dX7_readTell_145 (s_X7_stop _ q58_e hG) (fun r1 h1 hq => ?_)
        obtain ⟨rfl, hq, hG⟩ := hq
        replace hq := hq.symm
        subst hq
        simp only [Option.toList, List.nil_append]
        refine v_return rfl dX7_readTell_148 ?_
        obtain rfl := Option.some.inj hF
        exact ⟨rfl, rfl, hG⟩
  rw [if_neg c47] at hF
  by_cases c60 : x1 = 16
  · rw [if_pos c60] at hF
    refine v_tableIn (off := 130) 131 dX7_readTell_1 (by rw [c60]; decide) (by rw [c60]; decide) (by rw [c60]; decide +kernel) (by decide) ?_
    refine v_iload_n (i := 1) dX7_readTell_131 rfl rfl ?_
    refine v_bipush (v := 13) dX7_readTell_132 (by decide) ?_
    refine v_icmp_lt 143 dX7_readTell_134 (by decide) (fun c61 => ?_) (fun c61 => ?_)
    · rw [if_pos c61] at hF
      refine v_aload_n (i := 0) dX7_readTell_143 rfl rfl ?_
      refine v_iconst (v := 1) dX7_readTell_144 (by decide) ?_
      obtain ⟨q62, q62_e, hF⟩ := Option.bind_eq_some_iff.mp hF
      refine c_X7_105 rfl sh_2 (by exact ltG hG (by decide)) (Nat.le_of_ble_eq_true rfl) dX7_readTell_145 (s_X7_stop _ q62_e hG) (fun r1 h1 hq => ?_)
      obtain ⟨rfl, hq, hG⟩ := hq
      replace hq := hq.symm
      subst hq
      simp only [Option.toList, List.nil_append]
      refine v_return rfl dX7_readTell_148 ?_
      obtain rfl := Option.some.inj hF
      exact ⟨rfl, rfl, hG⟩
    · rw [if_neg c61] at hF
      refine v_iload_n (i := 1) dX7_readTell_137 rfl rfl ?_
      refine v_bipush (v := 16) dX7_readTell_138 (by decide) ?_
      refine v_icmp_le 149 dX7_readTell_140 (by decide) (fun c64 => ?_) (fun c64 => ?_)
      · rw [if_pos c64] at hF
        refine v_aload_n (i := 0) dX7_readTell_149 rfl rfl ?_
        refine v_iload_n (i := 1) dX7_readTell_150 rfl rfl ?_
        obtain ⟨q65, q65_e, hF⟩ := Option.bind_eq_some_iff.mp hF
        refine c_X7_120 rfl sh_2 (by exact ltG hG (by decide)) (Nat.le_of_ble_eq_true rfl) dX7_readTell_151 (s_X7_take _ q65_e hG) (fun r1 h1 hq => ?_)
        obtain ⟨rfl, hq, hG⟩ := hq
        replace hq := hq.symm
        subst hq
        show V _ _ _ _ (_ :: _) _ _
        refine v_pop dX7_readTell_154 rfl ?_
        refine v_aload_n (i := 0) dX7_readTell_155 rfl rfl ?_
        refine v_iload_n (i := 1) dX7_readTell_156 rfl rfl ?_
        refine v_bipush (v := 13) dX7_readTell_157 (by decide) ?_
        refine v_isub dX7_readTell_159 ?_
        obtain ⟨q67, q67_e, hF⟩ := Option.bind_eq_some_iff.mp hF
        refine c_X7_134 rfl sh_2 (by exact ltG hG (by decide)) (Nat.le_of_ble_eq_true rfl) dX7_readTell_160 (s_X7_readLaw _ q67_e hG) (fun r1 h1 hq => ?_)
        obtain ⟨rfl, hq, hG⟩ := hq
        replace hq := hq.symm
        subst hq
        simp only [Option.toList, List.nil_append]
        refine v_aload_n (i := 0) dX7_readTell_163 rfl rfl ?_
        refine v_bipush (v := 59) dX7_readTell_164 (by decide) ?_
        obtain ⟨q69, q69_e, hF⟩ := Option.bind_eq_some_iff.mp hF
        refine c_X7_120 rfl sh_2 (by exact ltG hG (by decide)) (Nat.le_of_ble_eq_true rfl) dX7_readTell_166 (s_X7_take _ q69_e hG) (fun r1 h1 hq => ?_)
        obtain ⟨rfl, hq, hG⟩ := hq
        replace hq := hq.symm
        subst hq
        show V _ _ _ _ (_ :: _) _ _
        refine v_pop dX7_readTell_169 rfl ?_
        refine v_return rfl dX7_readTell_170 ?_
        obtain rfl := Option.some.inj hF
        exact ⟨rfl, rfl, hG⟩
      · rw [if_neg c64] at hF
        refine v_aload_n (i := 0) dX7_readTell_143 rfl rfl ?_
        refine v_iconst (v := 1) dX7_readTell_144 (by decide) ?_
        obtain ⟨q71, q71_e, hF⟩ := Option.bind_eq_some_iff.mp hF
        refine c_X7_105 rfl sh_2 (by exact ltG hG (by decide)) (Nat.le_of_ble_eq_true rfl) dX7_readTell_145 (s_X7_stop _ q71_e hG) (fun r1 h1 hq => ?_)
        obtain ⟨rfl, hq, hG⟩ := hq
        replace hq := hq.symm
        subst hq
        simp only [Option.toList, List.nil_append]
        refine v_return rfl dX7_readTell_148 ?_
        obtain rfl := Option.some.inj hF
        exact ⟨rfl, rfl, hG⟩
  rw [if_neg c60] at hF
  by_cases c73 : x1 = 17
  · rw [if_pos c73] at hF
    refine v_tableIn (off := 83) 84 dX7_readTell_1 (by rw [c73]; decide) (by rw [c73]; decide) (by rw [c73]; decide +kernel) (by decide) ?_
    refine v_aload_n (i := 0) dX7_readTell_84 rfl rfl ?_
    refine v_iload_n (i := 1) dX7_readTell_85 rfl rfl ?_
    obtain ⟨q74, q74_e, hF⟩ := Option.bind_eq_some_iff.mp hF
    refine c_X7_120 rfl sh_2 (by exact ltG hG (by decide)) (Nat.le_of_ble_eq_true rfl) dX7_readTell_86 (s_X7_take _ q74_e hG) (fun r1 h1 hq => ?_)
    obtain ⟨rfl, hq, hG⟩ := hq
    replace hq := hq.symm
    subst hq
    show V _ _ _ _ (_ :: _) _ _
    refine v_pop dX7_readTell_89 rfl ?_
    refine v_aload_n (i := 0) dX7_readTell_90 rfl rfl ?_
    refine g_X7_12 (q := 3) rfl sh_2 (by exact ltG hG (by decide)) (by exact rG hG r0_2_0) dX7_readTell_91 ?_
    refine v_aload_n (i := 0) dX7_readTell_94 rfl rfl ?_
    refine v_iconst (v := 0) dX7_readTell_95 (by decide) ?_
    refine v_bipush (v := 100) dX7_readTell_96 (by decide) ?_
    obtain ⟨q76, q76_e, hF⟩ := Option.bind_eq_some_iff.mp hF
    refine c_X7_124 rfl sh_2 (by exact ltG hG (by decide)) (Nat.le_of_ble_eq_true rfl) dX7_readTell_98 (s_X7_takeNumber _ q76_e hG) (fun r1 h1 hq => ?_)
    obtain ⟨rfl, hq, hG⟩ := hq
    replace hq := hq.symm
    subst hq
    show V _ _ _ _ (_ :: _) _ _
    refine p_X7_128 rfl sh_3 (by exact ltG hG (by decide)) dX7_readTell_101 ?_
    refine v_goto 163 dX7_readTell_104 (by decide) ?_
    refine v_aload_n (i := 0) dX7_readTell_163 rfl rfl ?_
    refine v_bipush (v := 59) dX7_readTell_164 (by decide) ?_
    obtain ⟨q78, q78_e, hF⟩ := Option.bind_eq_some_iff.mp hF
    refine c_X7_120 rfl sh_2 (by exact ltG hG (by decide)) (Nat.le_of_ble_eq_true rfl) dX7_readTell_166 (s_X7_take _ q78_e hG) (fun r1 h1 hq => ?_)
    obtain ⟨rfl, hq, hG⟩ := hq
    replace hq := hq.symm
    subst hq
    show V _ _ _ _ (_ :: _) _ _
    refine v_pop dX7_readTell_169 rfl ?_
    refine v_return rfl dX7_readTell_170 ?_
    obtain rfl := Option.some.inj hF
    exact ⟨rfl, rfl, hG⟩
  rw [if_neg c73] at hF
  by_cases c80 : x1 = 18
  · rw [if_pos c80] at hF
    refine v_tableIn (off := 106) 107 dX7_readTell_1 (by rw [c80]; decide) (by rw [c80]; decide) (by rw [c80]; decide +kernel) (by decide) ?_
    refine v_aload_n (i := 0) dX7_readTell_107 rfl rfl ?_
    refine v_iload_n (i := 1) dX7_readTell_108 rfl rfl ?_
    obtain ⟨q81, q81_e, hF⟩ := Option.bind_eq_some_iff.mp hF
    refine c_X7_120 rfl sh_2 (by exact ltG hG (by decide)) (Nat.le_of_ble_eq_true rfl) dX7_readTell_109 (s_X7_take _ q81_e hG) (fun r1 h1 hq => ?_)
    obtain ⟨rfl, hq, hG⟩ := hq
    replace hq := hq.symm
    subst hq
    show V _ _ _ _ (_ :: _) _ _
    refine v_pop dX7_readTell_112 rfl ?_
    refine v_aload_n (i := 0) dX7_readTell_113 rfl rfl ?_
    refine g_X7_12 (q := 3) rfl sh_2 (by exact ltG hG (by decide)) (by exact rG hG r0_2_0) dX7_readTell_114 ?_
    refine v_aload_n (i := 0) dX7_readTell_117 rfl rfl ?_
    refine v_iconst (v := 0) dX7_readTell_118 (by decide) ?_
    refine v_sipush (v := 9999) dX7_readTell_119 (by decide) ?_
    obtain ⟨q83, q83_e, hF⟩ := Option.bind_eq_some_iff.mp hF
    refine c_X7_124 rfl sh_2 (by exact ltG hG (by decide)) (Nat.le_of_ble_eq_true rfl) dX7_readTell_122 (s_X7_takeNumber _ q83_e hG) (fun r1 h1 hq => ?_)
    obtain ⟨rfl, hq, hG⟩ := hq
    replace hq := hq.symm
    subst hq
    show V _ _ _ _ (_ :: _) _ _
    refine p_X7_131 rfl sh_3 (by exact ltG hG (by decide)) dX7_readTell_125 ?_
    refine v_goto 163 dX7_readTell_128 (by decide) ?_
    refine v_aload_n (i := 0) dX7_readTell_163 rfl rfl ?_
    refine v_bipush (v := 59) dX7_readTell_164 (by decide) ?_
    obtain ⟨q85, q85_e, hF⟩ := Option.bind_eq_some_iff.mp hF
    refine c_X7_120 rfl sh_2 (by exact ltG hG (by decide)) (Nat.le_of_ble_eq_true rfl) dX7_readTell_166 (s_X7_take _ q85_e hG) (fun r1 h1 hq => ?_)
    obtain ⟨rfl, hq, hG⟩ := hq
    replace hq := hq.symm
    subst hq
    show V _ _ _ _ (_ :: _) _ _
    refine v_pop dX7_readTell_169 rfl ?_
    refine v_return rfl dX7_readTell_170 ?_
    obtain rfl := Option.some.inj hF
    exact ⟨rfl, rfl, hG⟩
  rw [if_neg c80] at hF
  have e_c1 : ¬ (x1 : Int32).toInt = 9 := fun q => c1 (Int32.toInt_inj.mp (q.trans (by decide)))
  have e_c6 : ¬ (x1 : Int32).toInt = 10 := fun q => c6 (Int32.toInt_inj.mp (q.trans (by decide)))
  have e_c11 : ¬ (x1 : Int32).toInt = 11 := fun q => c11 (Int32.toInt_inj.mp (q.trans (by decide)))
  have e_c16 : ¬ (x1 : Int32).toInt = 12 := fun q => c16 (Int32.toInt_inj.mp (q.trans (by decide)))
  have e_c21 : ¬ (x1 : Int32).toInt = 13 := fun q => c21 (Int32.toInt_inj.mp (q.trans (by decide)))
  have e_c34 : ¬ (x1 : Int32).toInt = 14 := fun q => c34 (Int32.toInt_inj.mp (q.trans (by decide)))
  have e_c47 : ¬ (x1 : Int32).toInt = 15 := fun q => c47 (Int32.toInt_inj.mp (q.trans (by decide)))
  have e_c60 : ¬ (x1 : Int32).toInt = 16 := fun q => c60 (Int32.toInt_inj.mp (q.trans (by decide)))
  have e_c73 : ¬ (x1 : Int32).toInt = 17 := fun q => c73 (Int32.toInt_inj.mp (q.trans (by decide)))
  have e_c80 : ¬ (x1 : Int32).toInt = 18 := fun q => c80 (Int32.toInt_inj.mp (q.trans (by decide)))
  refine v_tableOut 131 dX7_readTell_1 (by omega) (by decide) ?_
  refine v_iload_n (i := 1) dX7_readTell_131 rfl rfl ?_
  refine v_bipush (v := 13) dX7_readTell_132 (by decide) ?_
  refine v_icmp_lt 143 dX7_readTell_134 (by decide) (fun c87 => ?_) (fun c87 => ?_)
  · rw [if_pos c87] at hF
    refine v_aload_n (i := 0) dX7_readTell_143 rfl rfl ?_
    refine v_iconst (v := 1) dX7_readTell_144 (by decide) ?_
    obtain ⟨q88, q88_e, hF⟩ := Option.bind_eq_some_iff.mp hF
    refine c_X7_105 rfl sh_2 (by exact ltG hG (by decide)) (Nat.le_of_ble_eq_true rfl) dX7_readTell_145 (s_X7_stop _ q88_e hG) (fun r1 h1 hq => ?_)
    obtain ⟨rfl, hq, hG⟩ := hq
    replace hq := hq.symm
    subst hq
    simp only [Option.toList, List.nil_append]
    refine v_return rfl dX7_readTell_148 ?_
    obtain rfl := Option.some.inj hF
    exact ⟨rfl, rfl, hG⟩
  · rw [if_neg c87] at hF
    refine v_iload_n (i := 1) dX7_readTell_137 rfl rfl ?_
    refine v_bipush (v := 16) dX7_readTell_138 (by decide) ?_
    refine v_icmp_le 149 dX7_readTell_140 (by decide) (fun c90 => ?_) (fun c90 => ?_)
    · rw [if_pos c90] at hF
      refine v_aload_n (i := 0) dX7_readTell_149 rfl rfl ?_
      refine v_iload_n (i := 1) dX7_readTell_150 rfl rfl ?_
      obtain ⟨q91, q91_e, hF⟩ := Option.bind_eq_some_iff.mp hF
      refine c_X7_120 rfl sh_2 (by exact ltG hG (by decide)) (Nat.le_of_ble_eq_true rfl) dX7_readTell_151 (s_X7_take _ q91_e hG) (fun r1 h1 hq => ?_)
      obtain ⟨rfl, hq, hG⟩ := hq
      replace hq := hq.symm
      subst hq
      show V _ _ _ _ (_ :: _) _ _
      refine v_pop dX7_readTell_154 rfl ?_
      refine v_aload_n (i := 0) dX7_readTell_155 rfl rfl ?_
      refine v_iload_n (i := 1) dX7_readTell_156 rfl rfl ?_
      refine v_bipush (v := 13) dX7_readTell_157 (by decide) ?_
      refine v_isub dX7_readTell_159 ?_
      obtain ⟨q93, q93_e, hF⟩ := Option.bind_eq_some_iff.mp hF
      refine c_X7_134 rfl sh_2 (by exact ltG hG (by decide)) (Nat.le_of_ble_eq_true rfl) dX7_readTell_160 (s_X7_readLaw _ q93_e hG) (fun r1 h1 hq => ?_)
      obtain ⟨rfl, hq, hG⟩ := hq
      replace hq := hq.symm
      subst hq
      simp only [Option.toList, List.nil_append]
      refine v_aload_n (i := 0) dX7_readTell_163 rfl rfl ?_
      refine v_bipush (v := 59) dX7_readTell_164 (by decide) ?_
      obtain ⟨q95, q95_e, hF⟩ := Option.bind_eq_some_iff.mp hF
      refine c_X7_120 rfl sh_2 (by exact ltG hG (by decide)) (Nat.le_of_ble_eq_true rfl) dX7_readTell_166 (s_X7_take _ q95_e hG) (fun r1 h1 hq => ?_)
      obtain ⟨rfl, hq, hG⟩ := hq
      replace hq := hq.symm
      subst hq
      show V _ _ _ _ (_ :: _) _ _
      refine v_pop dX7_readTell_169 rfl ?_
      refine v_return rfl dX7_readTell_170 ?_
      obtain rfl := Option.some.inj hF
      exact ⟨rfl, rfl, hG⟩
    · rw [if_neg c90] at hF
      refine v_aload_n (i := 0) dX7_readTell_143 rfl rfl ?_
      refine v_iconst (v := 1) dX7_readTell_144 (by decide) ?_
      obtain ⟨q97, q97_e, hF⟩ := Option.bind_eq_some_iff.mp hF
      refine c_X7_105 rfl sh_2 (by exact ltG hG (by decide)) (Nat.le_of_ble_eq_true rfl) dX7_readTell_145 (s_X7_stop _ q97_e hG) (fun r1 h1 hq => ?_)
      obtain ⟨rfl, hq, hG⟩ := hq
      replace hq := hq.symm
      subst hq
      simp only [Option.toList, List.nil_append]
      refine v_return rfl dX7_readTell_148 ?_
      obtain rfl := Option.some.inj hF
      exact ⟨rfl, rfl, hG⟩
def W_X7_readText : Nat → Nat → Hp → Int32 → Int32 → Option (Int32 × Hp)
  | 0 => fun _ _ _ _ => none
  | n + 1 => fun hd h l1 l2 => (if hd = 14 then (if (400 : Int32) < (l2 : Int32) then (if ((hi h 2 5) : Int32) = 0 then ((F_X7_layOut n h l1).bind (fun q3 => some ((hi (wrI q3 2 2 (hi q3 2 7)) 2 6), (wrI q3 2 2 (hi q3 2 7))))) else ((F_X9_placeOf n h (hi h 2 4)).bind (fun q5 => some ((hi (wrI q5.2 2 2 q5.1) 2 5), (wrI q5.2 2 2 q5.1))))) else (if ((hi h 2 5) : Int32) = 0 then ((F_X7_kind n h).bind (fun q13 => (if (q13.1 : Int32) = (32 : Int32) then (if ((hi q13.2 2 5) : Int32) = 0 then ((F_X7_layOut n q13.2 l1).bind (fun q17 => some ((hi (wrI q17 2 2 (hi q17 2 7)) 2 6), (wrI q17 2 2 (hi q17 2 7))))) else ((F_X9_placeOf n q13.2 (hi q13.2 2 4)).bind (fun q19 => some ((hi (wrI q19.2 2 2 q19.1) 2 5), (wrI q19.2 2 2 q19.1))))) else ((F_X7_kind n q13.2).bind (fun q21 => ((F_X7_readTell n q21.2 q21.1).bind (fun q23 => W_X7_readText n 14 q23  l1 (l2 + 1)))))))) else (if ((hi h 2 5) : Int32) = 0 then ((F_X7_layOut n h l1).bind (fun q9 => some ((hi (wrI q9 2 2 (hi q9 2 7)) 2 6), (wrI q9 2 2 (hi q9 2 7))))) else ((F_X9_placeOf n h (hi h 2 4)).bind (fun q11 => some ((hi (wrI q11.2 2 2 q11.1) 2 5), (wrI q11.2 2 2 q11.1))))))) else none)
set_option maxRecDepth 100000 in
set_option maxHeartbeats 4000000 in
theorem sw_X7_readText (d : Nat)  (n : Nat) : (∀ (l1 : Int32) (l2 : Int32) (h : Hp), ∀ (r : Int32) (h' : Hp), W_X7_readText n 14 h  l1 l2 = some (r, h') → G h → V mX7_readText (d + 39) 14 [some (.ref 2), some (.int l1), some (.int l2)] [] h (fun r1 h1 => r1 = some (.int r) ∧ h1 = h' ∧ G h')) := by
  induction n with
  | zero => exact by intros; contradiction
  | succ n ih =>
    have s_X7_readText_IH_14 := ih
    intro l1 l2 h r h' hF hG
    unfold W_X7_readText at hF
    rw [if_pos rfl] at hF
    refine v_iload_n (i := 2) dX7_readText_14 rfl rfl ?_
    refine v_sipush (v := 400) dX7_readText_15 (by decide) ?_
    refine v_icmp_gt 51 dX7_readText_18 (by decide) (fun c1 => ?_) (fun c1 => ?_)
    · rw [if_pos c1] at hF
      refine v_aload_n (i := 0) dX7_readText_51 rfl rfl ?_
      refine g_X7_32 rfl sh_2 (by exact ltG hG (by decide)) dX7_readText_52 ?_
      refine v_if_eq 78 dX7_readText_55 (by decide) (fun c2 => ?_) (fun c2 => ?_)
      · rw [if_pos c2] at hF
        refine v_aload_n (i := 0) dX7_readText_78 rfl rfl ?_
        refine v_iload_n (i := 1) dX7_readText_79 rfl rfl ?_
        obtain ⟨q3, q3_e, hF⟩ := Option.bind_eq_some_iff.mp hF
        refine c_X7_91 rfl sh_2 (by exact ltG hG (by decide)) (Nat.le_of_ble_eq_true rfl) dX7_readText_80 (s_X7_layOut _ q3_e hG) (fun r1 h1 hq => ?_)
        obtain ⟨rfl, hq, hG⟩ := hq
        replace hq := hq.symm
        subst hq
        simp only [Option.toList, List.nil_append]
        refine v_aload_n (i := 0) dX7_readText_83 rfl rfl ?_
        refine v_aload_n (i := 0) dX7_readText_84 rfl rfl ?_
        refine g_X7_38 rfl sh_2 (by exact ltG hG (by decide)) dX7_readText_85 ?_
        refine p_X7_25 rfl sh_2 (by exact ltG hG (by decide)) dX7_readText_88 ?_
        refine v_aload_n (i := 0) dX7_readText_91 rfl rfl ?_
        refine g_X7_35 rfl sh_2 (by exact ltG hG (by decide)) dX7_readText_92 ?_
        refine v_ireturn rfl dX7_readText_95 ?_
        obtain ⟨rfl, rfl⟩ := Prod.mk.inj (Option.some.inj hF)
        exact ⟨rfl, rfl, hG⟩
      · rw [if_neg c2] at hF
        refine v_aload_n (i := 0) dX7_readText_58 rfl rfl ?_
        refine v_aload_n (i := 0) dX7_readText_59 rfl rfl ?_
        refine g_X7_69 (q := 18) rfl sh_2 (by exact ltG hG (by decide)) (by exact rG hG r0_2_3) dX7_readText_60 ?_
        refine v_aload_n (i := 0) dX7_readText_63 rfl rfl ?_
        refine g_X7_29 rfl sh_2 (by exact ltG hG (by decide)) dX7_readText_64 ?_
        obtain ⟨q5, q5_e, hF⟩ := Option.bind_eq_some_iff.mp hF
        refine c_X7_87 rfl sh_18 (by exact ltG hG (by decide)) (Nat.le_of_ble_eq_true rfl) dX7_readText_67 (s_X9_placeOf _ q5_e hG) (fun r1 h1 hq => ?_)
        obtain ⟨rfl, hq, hG⟩ := hq
        replace hq := hq.symm
        subst hq
        show V _ _ _ _ (_ :: _) _ _
        refine p_X7_25 rfl sh_2 (by exact ltG hG (by decide)) dX7_readText_70 ?_
        refine v_aload_n (i := 0) dX7_readText_73 rfl rfl ?_
        refine g_X7_32 rfl sh_2 (by exact ltG hG (by decide)) dX7_readText_74 ?_
        refine v_ireturn rfl dX7_readText_77 ?_
        obtain ⟨rfl, rfl⟩ := Prod.mk.inj (Option.some.inj hF)
        exact ⟨rfl, rfl, hG⟩
    · rw [if_neg c1] at hF
      refine v_aload_n (i := 0) dX7_readText_21 rfl rfl ?_
      refine g_X7_32 rfl sh_2 (by exact ltG hG (by decide)) dX7_readText_22 ?_
      refine v_if_ne 51 dX7_readText_25 (by decide) (fun c7 => ?_) (fun c7 => ?_)
      · rw [if_neg c7] at hF
        refine v_aload_n (i := 0) dX7_readText_51 rfl rfl ?_
        refine g_X7_32 rfl sh_2 (by exact ltG hG (by decide)) dX7_readText_52 ?_
        refine v_if_eq 78 dX7_readText_55 (by decide) (fun c8 => ?_) (fun c8 => ?_)
        · rw [if_pos c8] at hF
          refine v_aload_n (i := 0) dX7_readText_78 rfl rfl ?_
          refine v_iload_n (i := 1) dX7_readText_79 rfl rfl ?_
          obtain ⟨q9, q9_e, hF⟩ := Option.bind_eq_some_iff.mp hF
          refine c_X7_91 rfl sh_2 (by exact ltG hG (by decide)) (Nat.le_of_ble_eq_true rfl) dX7_readText_80 (s_X7_layOut _ q9_e hG) (fun r1 h1 hq => ?_)
          obtain ⟨rfl, hq, hG⟩ := hq
          replace hq := hq.symm
          subst hq
          simp only [Option.toList, List.nil_append]
          refine v_aload_n (i := 0) dX7_readText_83 rfl rfl ?_
          refine v_aload_n (i := 0) dX7_readText_84 rfl rfl ?_
          refine g_X7_38 rfl sh_2 (by exact ltG hG (by decide)) dX7_readText_85 ?_
          refine p_X7_25 rfl sh_2 (by exact ltG hG (by decide)) dX7_readText_88 ?_
          refine v_aload_n (i := 0) dX7_readText_91 rfl rfl ?_
          refine g_X7_35 rfl sh_2 (by exact ltG hG (by decide)) dX7_readText_92 ?_
          refine v_ireturn rfl dX7_readText_95 ?_
          obtain ⟨rfl, rfl⟩ := Prod.mk.inj (Option.some.inj hF)
          exact ⟨rfl, rfl, hG⟩
        · rw [if_neg c8] at hF
          refine v_aload_n (i := 0) dX7_readText_58 rfl rfl ?_
          refine v_aload_n (i := 0) dX7_readText_59 rfl rfl ?_
          refine g_X7_69 (q := 18) rfl sh_2 (by exact ltG hG (by decide)) (by exact rG hG r0_2_3) dX7_readText_60 ?_
          refine v_aload_n (i := 0) dX7_readText_63 rfl rfl ?_
          refine g_X7_29 rfl sh_2 (by exact ltG hG (by decide)) dX7_readText_64 ?_
          obtain ⟨q11, q11_e, hF⟩ := Option.bind_eq_some_iff.mp hF
          refine c_X7_87 rfl sh_18 (by exact ltG hG (by decide)) (Nat.le_of_ble_eq_true rfl) dX7_readText_67 (s_X9_placeOf _ q11_e hG) (fun r1 h1 hq => ?_)
          obtain ⟨rfl, hq, hG⟩ := hq
          replace hq := hq.symm
          subst hq
          show V _ _ _ _ (_ :: _) _ _
          refine p_X7_25 rfl sh_2 (by exact ltG hG (by decide)) dX7_readText_70 ?_
          refine v_aload_n (i := 0) dX7_readText_73 rfl rfl ?_
          refine g_X7_32 rfl sh_2 (by exact ltG hG (by decide)) dX7_readText_74 ?_
          refine v_ireturn rfl dX7_readText_77 ?_
          obtain ⟨rfl, rfl⟩ := Prod.mk.inj (Option.some.inj hF)
          exact ⟨rfl, rfl, hG⟩
      · rw [if_pos c7] at hF
        refine v_aload_n (i := 0) dX7_readText_28 rfl rfl ?_
        obtain ⟨q13, q13_e, hF⟩ := Option.bind_eq_some_iff.mp hF
        refine c_X7_80 rfl sh_2 (by exact ltG hG (by decide)) (Nat.le_of_ble_eq_true rfl) dX7_readText_29 (s_X7_kind _ q13_e hG) (fun r1 h1 hq => ?_)
        obtain ⟨rfl, hq, hG⟩ := hq
        replace hq := hq.symm
        subst hq
        show V _ _ _ _ (_ :: _) _ _
        refine v_bipush (v := 32) dX7_readText_32 (by decide) ?_
        refine v_icmp_eq 51 dX7_readText_34 (by decide) (fun c15 => ?_) (fun c15 => ?_)
        · rw [if_pos c15] at hF
          refine v_aload_n (i := 0) dX7_readText_51 rfl rfl ?_
          refine g_X7_32 rfl sh_2 (by exact ltG hG (by decide)) dX7_readText_52 ?_
          refine v_if_eq 78 dX7_readText_55 (by decide) (fun c16 => ?_) (fun c16 => ?_)
          · rw [if_pos c16] at hF
            refine v_aload_n (i := 0) dX7_readText_78 rfl rfl ?_
            refine v_iload_n (i := 1) dX7_readText_79 rfl rfl ?_
            obtain ⟨q17, q17_e, hF⟩ := Option.bind_eq_some_iff.mp hF
            refine c_X7_91 rfl sh_2 (by exact ltG hG (by decide)) (Nat.le_of_ble_eq_true rfl) dX7_readText_80 (s_X7_layOut _ q17_e hG) (fun r1 h1 hq => ?_)
            obtain ⟨rfl, hq, hG⟩ := hq
            replace hq := hq.symm
            subst hq
            simp only [Option.toList, List.nil_append]
            refine v_aload_n (i := 0) dX7_readText_83 rfl rfl ?_
            refine v_aload_n (i := 0) dX7_readText_84 rfl rfl ?_
            refine g_X7_38 rfl sh_2 (by exact ltG hG (by decide)) dX7_readText_85 ?_
            refine p_X7_25 rfl sh_2 (by exact ltG hG (by decide)) dX7_readText_88 ?_
            refine v_aload_n (i := 0) dX7_readText_91 rfl rfl ?_
            refine g_X7_35 rfl sh_2 (by exact ltG hG (by decide)) dX7_readText_92 ?_
            refine v_ireturn rfl dX7_readText_95 ?_
            obtain ⟨rfl, rfl⟩ := Prod.mk.inj (Option.some.inj hF)
            exact ⟨rfl, rfl, hG⟩
          · rw [if_neg c16] at hF
            refine v_aload_n (i := 0) dX7_readText_58 rfl rfl ?_
            refine v_aload_n (i := 0) dX7_readText_59 rfl rfl ?_
            refine g_X7_69 (q := 18) rfl sh_2 (by exact ltG hG (by decide)) (by exact rG hG r0_2_3) dX7_readText_60 ?_
            refine v_aload_n (i := 0) dX7_readText_63 rfl rfl ?_
            refine g_X7_29 rfl sh_2 (by exact ltG hG (by decide)) dX7_readText_64 ?_
            obtain ⟨q19, q19_e, hF⟩ := Option.bind_eq_some_iff.mp hF
            refine c_X7_87 rfl sh_18 (by exact ltG hG (by decide)) (Nat.le_of_ble_eq_true rfl) dX7_readText_67 (s_X9_placeOf _ q19_e hG) (fun r1 h1 hq => ?_)
            obtain ⟨rfl, hq, hG⟩ := hq
            replace hq := hq.symm
            subst hq
            show V _ _ _ _ (_ :: _) _ _
            refine p_X7_25 rfl sh_2 (by exact ltG hG (by decide)) dX7_readText_70 ?_
            refine v_aload_n (i := 0) dX7_readText_73 rfl rfl ?_
            refine g_X7_32 rfl sh_2 (by exact ltG hG (by decide)) dX7_readText_74 ?_
            refine v_ireturn rfl dX7_readText_77 ?_
            obtain ⟨rfl, rfl⟩ := Prod.mk.inj (Option.some.inj hF)
            exact ⟨rfl, rfl, hG⟩
        · rw [if_neg c15] at hF
          refine v_aload_n (i := 0) dX7_readText_37 rfl rfl ?_
          refine v_aload_n (i := 0) dX7_readText_38 rfl rfl ?_
          obtain ⟨q21, q21_e, hF⟩ := Option.bind_eq_some_iff.mp hF
          refine c_X7_80 rfl sh_2 (by exact ltG hG (by decide)) (Nat.le_of_ble_eq_true rfl) dX7_readText_39 (s_X7_kind _ q21_e hG) (fun r1 h1 hq => ?_)
          obtain ⟨rfl, hq, hG⟩ := hq
          replace hq := hq.symm
          subst hq
          show V _ _ _ _ (_ :: _) _ _
          obtain ⟨q23, q23_e, hF⟩ := Option.bind_eq_some_iff.mp hF
          refine c_X7_84 rfl sh_2 (by exact ltG hG (by decide)) (Nat.le_of_ble_eq_true rfl) dX7_readText_42 (s_X7_readTell _ q23_e hG) (fun r1 h1 hq => ?_)
          obtain ⟨rfl, hq, hG⟩ := hq
          replace hq := hq.symm
          subst hq
          simp only [Option.toList, List.nil_append]
          refine v_iinc (i := 2) (v := (l2 + 1)) dX7_readText_45 rfl rfl (by decide) (nlT rfl) ?_
          simp only [List.set_cons_zero, List.set_cons_succ]
          refine v_goto 14 dX7_readText_48 (by decide) ?_
          refine V.weak (la2 := [some (.ref 2), some (.int l1), some (.int (l2 + 1))]) (by simp [wk]) ?_
          exact (s_X7_readText_IH_14) _ _ _ _ _ hF hG
def F_X7_readText (n : Nat) (h : Hp) (x1 : Int32) : Option (Int32 × Hp) := ((F_X7_clear n h).bind (fun q25 => ((F_X9_scan n q25 x1).bind (fun q27 => W_X7_readText n 14 q27  x1 0))))
set_option maxRecDepth 100000 in
set_option maxHeartbeats 4000000 in
theorem s_X7_readText (d : Nat) {n : Nat} {h : Hp} {x1 : Int32} {q0 : (Int32 × Hp)} (hF : F_X7_readText n h x1 = some q0) (hG : G h)  : Kc mX7_readText (d + 39) [.ref 2, .int x1] h (fun r1 h1 => r1 = some (.int q0.1) ∧ h1 = q0.2 ∧ G q0.2) := by
  obtain ⟨r, h'⟩ := q0
  have s_X7_readText_IH_14 := sw_X7_readText d   n
  unfold F_X7_readText at hF
  refine Kc.of [some (.ref 2), some (.int x1), none] ok_X7_readText rfl (Nat.le_of_ble_eq_true rfl) ?_
  refine v_aload_n (i := 0) dX7_readText_0 rfl rfl ?_
  obtain ⟨q25, q25_e, hF⟩ := Option.bind_eq_some_iff.mp hF
  refine c_X7_73 rfl sh_2 (by exact ltG hG (by decide)) (Nat.le_of_ble_eq_true rfl) dX7_readText_1 (s_X7_clear _ q25_e hG) (fun r1 h1 hq => ?_)
  obtain ⟨rfl, hq, hG⟩ := hq
  replace hq := hq.symm
  subst hq
  simp only [Option.toList, List.nil_append]
  refine v_aload_n (i := 0) dX7_readText_4 rfl rfl ?_
  refine g_X7_69 (q := 18) rfl sh_2 (by exact ltG hG (by decide)) (by exact rG hG r0_2_3) dX7_readText_5 ?_
  refine v_iload_n (i := 1) dX7_readText_8 rfl rfl ?_
  obtain ⟨q27, q27_e, hF⟩ := Option.bind_eq_some_iff.mp hF
  refine c_X7_76 rfl sh_18 (by exact ltG hG (by decide)) (Nat.le_of_ble_eq_true rfl) dX7_readText_9 (s_X9_scan _ q27_e hG) (fun r1 h1 hq => ?_)
  obtain ⟨rfl, hq, hG⟩ := hq
  replace hq := hq.symm
  subst hq
  simp only [Option.toList, List.nil_append]
  refine v_iconst (v := 0) dX7_readText_12 (by decide) ?_
  refine v_istore_n (i := 2) dX7_readText_13 rfl (by decide) (nlT rfl) ?_
  simp only [List.set_cons_zero, List.set_cons_succ]
  refine V.weak (la2 := [some (.ref 2), some (.int x1), some (.int 0)]) (by simp [wk]) ?_
  exact (s_X7_readText_IH_14) _ _ _ _ _ hF hG
def F_X11_pairs (n : Nat) (h : Hp) (x1 : Int32) : Option (Int32 × Hp) := (if (x1 : Int32) = ((-1) : Int32) then ((F_X5_match n h 30 (hi h 23 2)).bind (fun q2 => (if (x1 : Int32) = ((-1) : Int32) then some ((hi q2 211 3), q2) else (if ixOK x1 5 = true then some ((hi q2 213 (Int32.toNatClampNeg x1)), q2) else none)))) else ((F_X0_hasGoer n h 23 x1).bind (fun q6 => (if (q6.1 : Int32) = 0 then some ((-1), q6.2) else ((F_X5_match n q6.2 30 (hi q6.2 23 2)).bind (fun q9 => (if (x1 : Int32) = ((-1) : Int32) then some ((hi q9 211 3), q9) else (if ixOK x1 5 = true then some ((hi q9 213 (Int32.toNatClampNeg x1)), q9) else none))))))))
set_option maxRecDepth 100000 in
set_option maxHeartbeats 4000000 in
theorem s_X11_pairs (d : Nat) {n : Nat} {h : Hp} {x1 : Int32} {q0 : (Int32 × Hp)} (hF : F_X11_pairs n h x1 = some q0) (hG : G h)  : Kc mX11_pairs (d + 26) [.ref 0, .int x1] h (fun r1 h1 => r1 = some (.int q0.1) ∧ h1 = q0.2 ∧ G q0.2) := by
  obtain ⟨r, h'⟩ := q0
  unfold F_X11_pairs at hF
  refine Kc.of [some (.ref 0), some (.int x1)] ok_X11_pairs rfl (Nat.le_of_ble_eq_true rfl) ?_
  refine v_iload_n (i := 1) dX11_pairs_0 rfl rfl ?_
  refine v_iconst (v := (-1)) dX11_pairs_1 (by decide) ?_
  refine v_icmp_eq 18 dX11_pairs_2 (by decide) (fun c1 => ?_) (fun c1 => ?_)
  · rw [if_pos c1] at hF
    refine v_aload_n (i := 0) dX11_pairs_18 rfl rfl ?_
    refine g_X11_91 (q := 211) rfl sh_0 (by exact ltG hG (by decide)) (by exact rG hG r0_0_14) dX11_pairs_19 ?_
    refine v_aload_n (i := 0) dX11_pairs_22 rfl rfl ?_
    refine g_X11_44 (q := 30) rfl sh_0 (by exact ltG hG (by decide)) (by exact rG hG r0_0_6) dX11_pairs_23 ?_
    refine v_aload_n (i := 0) dX11_pairs_26 rfl rfl ?_
    refine g_X11_32 (q := 23) rfl sh_0 (by exact ltG hG (by decide)) (by exact rG hG r0_0_4) dX11_pairs_27 ?_
    refine g_X11_149 rfl sh_23 (by exact ltG hG (by decide)) dX11_pairs_30 ?_
    obtain ⟨q2, q2_e, hF⟩ := Option.bind_eq_some_iff.mp hF
    refine c_X11_295 rfl sh_211 (by exact ltG hG (by decide)) (Nat.le_of_ble_eq_true rfl) dX11_pairs_33 (s_X5_match _ q2_e hG (by first | assumption | exact sc_30 | exact sc_34 | exact sc_10 | exact fd_24 | exact fd_4 | exact lw_25 | exact lw_5 | exact bd_23 | exact bd_3 | exact ⟨by first | assumption | rfl, by first | decide | omega⟩)) (fun r1 h1 hq => ?_)
    obtain ⟨rfl, hq, hG⟩ := hq
    replace hq := hq.symm
    subst hq
    simp only [Option.toList, List.nil_append]
    refine v_iload_n (i := 1) dX11_pairs_36 rfl rfl ?_
    refine v_iconst (v := (-1)) dX11_pairs_37 (by decide) ?_
    refine v_icmp_ne 51 dX11_pairs_38 (by decide) (fun c4 => ?_) (fun c4 => ?_)
    · rw [if_neg c4] at hF
      refine v_aload_n (i := 0) dX11_pairs_51 rfl rfl ?_
      refine g_X11_91 (q := 211) rfl sh_0 (by exact ltG hG (by decide)) (by exact rG hG r0_0_14) dX11_pairs_52 ?_
      refine g_X11_301 (q := 213) rfl sh_211 (by exact ltG hG (by decide)) (by exact rG hG r0_211_2) dX11_pairs_55 ?_
      refine v_iload_n (i := 1) dX11_pairs_58 rfl rfl ?_
      obtain ⟨k5, hF⟩ := ck_some hF
      refine v_iaload sh_213 (by exact ltG hG (by decide)) (ixO k5) dX11_pairs_59 ?_
      refine v_ireturn rfl dX11_pairs_60 ?_
      obtain ⟨rfl, rfl⟩ := Prod.mk.inj (Option.some.inj hF)
      exact ⟨rfl, rfl, hG⟩
    · rw [if_pos c4] at hF
      refine v_aload_n (i := 0) dX11_pairs_41 rfl rfl ?_
      refine g_X11_91 (q := 211) rfl sh_0 (by exact ltG hG (by decide)) (by exact rG hG r0_0_14) dX11_pairs_42 ?_
      refine g_X11_298 rfl sh_211 (by exact ltG hG (by decide)) dX11_pairs_45 ?_
      refine v_goto 60 dX11_pairs_48 (by decide) ?_
      refine v_ireturn rfl dX11_pairs_60 ?_
      obtain ⟨rfl, rfl⟩ := Prod.mk.inj (Option.some.inj hF)
      exact ⟨rfl, rfl, hG⟩
  · rw [if_neg c1] at hF
    refine v_aload_n (i := 0) dX11_pairs_5 rfl rfl ?_
    refine g_X11_32 (q := 23) rfl sh_0 (by exact ltG hG (by decide)) (by exact rG hG r0_0_4) dX11_pairs_6 ?_
    refine v_iload_n (i := 1) dX11_pairs_9 rfl rfl ?_
    obtain ⟨q6, q6_e, hF⟩ := Option.bind_eq_some_iff.mp hF
    refine c_X11_160 rfl sh_23 (by exact ltG hG (by decide)) (Nat.le_of_ble_eq_true rfl) dX11_pairs_10 (s_X0_hasGoer _ q6_e hG (by first | assumption | exact sc_30 | exact sc_34 | exact sc_10 | exact fd_24 | exact fd_4 | exact lw_25 | exact lw_5 | exact bd_23 | exact bd_3 | exact ⟨by first | assumption | rfl, by first | decide | omega⟩)) (fun r1 h1 hq => ?_)
    obtain ⟨rfl, hq, hG⟩ := hq
    replace hq := hq.symm
    subst hq
    show V _ _ _ _ (_ :: _) _ _
    refine v_if_ne 18 dX11_pairs_13 (by decide) (fun c8 => ?_) (fun c8 => ?_)
    · rw [if_neg c8] at hF
      refine v_aload_n (i := 0) dX11_pairs_18 rfl rfl ?_
      refine g_X11_91 (q := 211) rfl sh_0 (by exact ltG hG (by decide)) (by exact rG hG r0_0_14) dX11_pairs_19 ?_
      refine v_aload_n (i := 0) dX11_pairs_22 rfl rfl ?_
      refine g_X11_44 (q := 30) rfl sh_0 (by exact ltG hG (by decide)) (by exact rG hG r0_0_6) dX11_pairs_23 ?_
      refine v_aload_n (i := 0) dX11_pairs_26 rfl rfl ?_
      refine g_X11_32 (q := 23) rfl sh_0 (by exact ltG hG (by decide)) (by exact rG hG r0_0_4) dX11_pairs_27 ?_
      refine g_X11_149 rfl sh_23 (by exact ltG hG (by decide)) dX11_pairs_30 ?_
      obtain ⟨q9, q9_e, hF⟩ := Option.bind_eq_some_iff.mp hF
      refine c_X11_295 rfl sh_211 (by exact ltG hG (by decide)) (Nat.le_of_ble_eq_true rfl) dX11_pairs_33 (s_X5_match _ q9_e hG (by first | assumption | exact sc_30 | exact sc_34 | exact sc_10 | exact fd_24 | exact fd_4 | exact lw_25 | exact lw_5 | exact bd_23 | exact bd_3 | exact ⟨by first | assumption | rfl, by first | decide | omega⟩)) (fun r1 h1 hq => ?_)
      obtain ⟨rfl, hq, hG⟩ := hq
      replace hq := hq.symm
      subst hq
      simp only [Option.toList, List.nil_append]
      refine v_iload_n (i := 1) dX11_pairs_36 rfl rfl ?_
      refine v_iconst (v := (-1)) dX11_pairs_37 (by decide) ?_
      refine v_icmp_ne 51 dX11_pairs_38 (by decide) (fun c11 => ?_) (fun c11 => ?_)
      · rw [if_neg c11] at hF
        refine v_aload_n (i := 0) dX11_pairs_51 rfl rfl ?_
        refine g_X11_91 (q := 211) rfl sh_0 (by exact ltG hG (by decide)) (by exact rG hG r0_0_14) dX11_pairs_52 ?_
        refine g_X11_301 (q := 213) rfl sh_211 (by exact ltG hG (by decide)) (by exact rG hG r0_211_2) dX11_pairs_55 ?_
        refine v_iload_n (i := 1) dX11_pairs_58 rfl rfl ?_
        obtain ⟨k12, hF⟩ := ck_some hF
        refine v_iaload sh_213 (by exact ltG hG (by decide)) (ixO k12) dX11_pairs_59 ?_
        refine v_ireturn rfl dX11_pairs_60 ?_
        obtain ⟨rfl, rfl⟩ := Prod.mk.inj (Option.some.inj hF)
        exact ⟨rfl, rfl, hG⟩
      · rw [if_pos c11] at hF
        refine v_aload_n (i := 0) dX11_pairs_41 rfl rfl ?_
        refine g_X11_91 (q := 211) rfl sh_0 (by exact ltG hG (by decide)) (by exact rG hG r0_0_14) dX11_pairs_42 ?_
        refine g_X11_298 rfl sh_211 (by exact ltG hG (by decide)) dX11_pairs_45 ?_
        refine v_goto 60 dX11_pairs_48 (by decide) ?_
        refine v_ireturn rfl dX11_pairs_60 ?_
        obtain ⟨rfl, rfl⟩ := Prod.mk.inj (Option.some.inj hF)
        exact ⟨rfl, rfl, hG⟩
    · rw [if_pos c8] at hF
      refine v_iconst (v := (-1)) dX11_pairs_16 (by decide) ?_
      refine v_ireturn rfl dX11_pairs_17 ?_
      obtain ⟨rfl, rfl⟩ := Prod.mk.inj (Option.some.inj hF)
      exact ⟨rfl, rfl, hG⟩
