section
/-- while the lawn is made: its cells are there, the model's are not -/
def G2 (h : Hp) : Prop := hn h = 226 ∧ ∀ q ∈ rfL, q.1 < 226 → hr h q.1 q.2.1 = some q.2.2
theorem ltG2 {h : Hp} {a : Nat} (hG : G2 h) (h1 : a < 226) : a < hn h := by rw [hG.1]; exact h1
theorem rG2 {h : Hp} {a k q : Nat} (hG : G2 h) (e : R0 a k = some q) (ha : a < 226) : hr h a k = some q := by
  unfold R0 at e
  obtain ⟨z, hz, rfl⟩ := Option.map_eq_some_iff.mp e
  have h1 := List.find?_some hz
  have h2 := List.mem_of_find?_eq_some hz
  simp only [Bool.and_eq_true, beq_iff_eq] at h1
  rw [← h1.1, ← h1.2]
  exact hG.2 z h2 (by rw [h1.1]; exact ha)
def W2_X3_lay : Nat → Nat → Hp → Int32 → Int32 → Int32 → Option Hp
  | 0 => fun _ _ _ _ _ => none
  | n + 1 => fun hd h l1 l2 l3 => (if hd = 17 then (if ((hi h 24 1) : Int32) ≤ (l3 : Int32) then some (wrI h 24 2 (((1 : Int32) <<< ((((hi h 24 0) * (hi h 24 1)) : Int32) &&& 31)) - 1)) else W2_X3_lay n 17 (wrI h 24 3 (((hi h 24 3) : Int32) ||| (((1 : Int32) <<< ((((hi h 24 0) * l3) : Int32) &&& 31)) : Int32)))  l1 l2 (l3 + 1)) else none)
set_option maxRecDepth 100000 in
set_option maxHeartbeats 4000000 in
theorem sw2_X3_lay (d : Nat)  (n : Nat) : (∀ (l1 : Int32) (l2 : Int32) (l3 : Int32) (h : Hp), ∀ (h' : Hp), W2_X3_lay n 17 h  l1 l2 l3 = some h' → G2 h → V mX3_lay (d) 17 [some (.ref 24), some (.int l1), some (.int l2), some (.int l3)] [] h (fun r1 h1 => r1 = none ∧ h1 = h' ∧ G2 h')) := by
  induction n with
  | zero => exact by intros; contradiction
  | succ n ih =>
    have s2_X3_lay_IH_17 := ih
    intro l1 l2 l3 h h' hF hG
    unfold W2_X3_lay at hF
    rw [if_pos rfl] at hF
    refine v_iload_n (i := 3) dX3_lay_17 rfl rfl ?_
    refine v_aload_n (i := 0) dX3_lay_18 rfl rfl ?_
    refine g_X3_15 rfl sh_24 (by exact ltG2 hG (by decide)) dX3_lay_19 ?_
    refine v_icmp_ge 48 dX3_lay_22 (by decide) (fun c1 => ?_) (fun c1 => ?_)
    · rw [if_pos c1] at hF
      refine v_aload_n (i := 0) dX3_lay_48 rfl rfl ?_
      refine v_iconst (v := 1) dX3_lay_49 (by decide) ?_
      refine v_aload_n (i := 0) dX3_lay_50 rfl rfl ?_
      refine g_X3_9 rfl sh_24 (by exact ltG2 hG (by decide)) dX3_lay_51 ?_
      refine v_aload_n (i := 0) dX3_lay_54 rfl rfl ?_
      refine g_X3_15 rfl sh_24 (by exact ltG2 hG (by decide)) dX3_lay_55 ?_
      refine v_imul dX3_lay_58 ?_
      refine v_ishl dX3_lay_59 ?_
      refine v_iconst (v := 1) dX3_lay_60 (by decide) ?_
      refine v_isub dX3_lay_61 ?_
      refine p_X3_18 rfl sh_24 (by exact ltG2 hG (by decide)) dX3_lay_62 ?_
      refine v_return rfl dX3_lay_65 ?_
      obtain rfl := Option.some.inj hF
      exact ⟨rfl, rfl, hG⟩
    · rw [if_neg c1] at hF
      refine v_aload_n (i := 0) dX3_lay_25 rfl rfl ?_
      refine v_dup dX3_lay_26 rfl ?_
      refine g_X3_21 rfl sh_24 (by exact ltG2 hG (by decide)) dX3_lay_27 ?_
      refine v_iconst (v := 1) dX3_lay_30 (by decide) ?_
      refine v_aload_n (i := 0) dX3_lay_31 rfl rfl ?_
      refine g_X3_9 rfl sh_24 (by exact ltG2 hG (by decide)) dX3_lay_32 ?_
      refine v_iload_n (i := 3) dX3_lay_35 rfl rfl ?_
      refine v_imul dX3_lay_36 ?_
      refine v_ishl dX3_lay_37 ?_
      refine v_ior dX3_lay_38 ?_
      refine p_X3_21 rfl sh_24 (by exact ltG2 hG (by decide)) dX3_lay_39 ?_
      refine v_iinc (i := 3) (v := (l3 + 1)) dX3_lay_42 rfl rfl (by decide) (nlT rfl) ?_
      simp only [List.set_cons_zero, List.set_cons_succ]
      refine v_goto 17 dX3_lay_45 (by decide) ?_
      refine V.weak (la2 := [some (.ref 24), some (.int l1), some (.int l2), some (.int (l3 + 1))]) (by simp [wk]) ?_
      exact (s2_X3_lay_IH_17) _ _ _ _ _ hF hG
def F2_X3_lay (n : Nat) (h : Hp) (x1 : Int32) (x2 : Int32) : Option Hp := W2_X3_lay n 17 (wrI (wrI (wrI h 24 0 x1) 24 1 x2) 24 3 0)  x1 x2 0
set_option maxRecDepth 100000 in
set_option maxHeartbeats 4000000 in
theorem s2_X3_lay (d : Nat) {n : Nat} {h : Hp} {x1 : Int32} {x2 : Int32} {q0 : Hp} (hF : F2_X3_lay n h x1 x2 = some q0) (hG : G2 h)  : Kc mX3_lay (d) [.ref 24, .int x1, .int x2] h (fun r1 h1 => r1 = none ∧ h1 = q0 ∧ G2 q0) := by
  obtain ⟨h', rfl⟩ : ∃ z, z = q0 := ⟨_, rfl⟩
  have s2_X3_lay_IH_17 := sw2_X3_lay d   n
  unfold F2_X3_lay at hF
  refine Kc.of [some (.ref 24), some (.int x1), some (.int x2), none] ok_X3_lay rfl (Nat.le_of_ble_eq_true rfl) ?_
  refine v_aload_n (i := 0) dX3_lay_0 rfl rfl ?_
  refine v_iload_n (i := 1) dX3_lay_1 rfl rfl ?_
  refine p_X3_9 rfl sh_24 (by exact ltG2 hG (by decide)) dX3_lay_2 ?_
  refine v_aload_n (i := 0) dX3_lay_5 rfl rfl ?_
  refine v_iload_n (i := 2) dX3_lay_6 rfl rfl ?_
  refine p_X3_15 rfl sh_24 (by exact ltG2 hG (by decide)) dX3_lay_7 ?_
  refine v_aload_n (i := 0) dX3_lay_10 rfl rfl ?_
  refine v_iconst (v := 0) dX3_lay_11 (by decide) ?_
  refine p_X3_21 rfl sh_24 (by exact ltG2 hG (by decide)) dX3_lay_12 ?_
  refine v_iconst (v := 0) dX3_lay_15 (by decide) ?_
  refine v_istore_n (i := 3) dX3_lay_16 rfl (by decide) (nlT rfl) ?_
  simp only [List.set_cons_zero, List.set_cons_succ]
  refine V.weak (la2 := [some (.ref 24), some (.int x1), some (.int x2), some (.int 0)]) (by simp [wk]) ?_
  exact (s2_X3_lay_IH_17) _ _ _ _ _ hF hG
def F2_X4_begin (n : Nat) (h : Hp) (x1 : Int32) : Option Hp := (if (x1 : Int32) < 0 then some h else (if (4 : Int32) ≤ (x1 : Int32) then some h else (if ixOK x1 4 = true then some (wrI h 27 (Int32.toNatClampNeg x1) (hi h 25 3)) else none)))
set_option maxRecDepth 100000 in
set_option maxHeartbeats 4000000 in
theorem s2_X4_begin (d : Nat) {n : Nat} {h : Hp} {x1 : Int32} {q0 : Hp} (hF : F2_X4_begin n h x1 = some q0) (hG : G2 h)  : Kc mX4_begin (d) [.ref 25, .int x1] h (fun r1 h1 => r1 = none ∧ h1 = q0 ∧ G2 q0) := by
  obtain ⟨h', rfl⟩ : ∃ z, z = q0 := ⟨_, rfl⟩
  unfold F2_X4_begin at hF
  refine Kc.of [some (.ref 25), some (.int x1)] ok_X4_begin rfl (Nat.le_of_ble_eq_true rfl) ?_
  refine v_iload_n (i := 1) dX4_begin_0 rfl rfl ?_
  refine v_if_lt 19 dX4_begin_1 (by decide) (fun c1 => ?_) (fun c1 => ?_)
  · rw [if_pos c1] at hF
    refine v_return rfl dX4_begin_19 ?_
    obtain rfl := Option.some.inj hF
    exact ⟨rfl, rfl, hG⟩
  · rw [if_neg c1] at hF
    refine v_iload_n (i := 1) dX4_begin_4 rfl rfl ?_
    refine v_iconst (v := 4) dX4_begin_5 (by decide) ?_
    refine v_icmp_ge 19 dX4_begin_6 (by decide) (fun c2 => ?_) (fun c2 => ?_)
    · rw [if_pos c2] at hF
      refine v_return rfl dX4_begin_19 ?_
      obtain rfl := Option.some.inj hF
      exact ⟨rfl, rfl, hG⟩
    · rw [if_neg c2] at hF
      refine v_aload_n (i := 0) dX4_begin_9 rfl rfl ?_
      refine g_X4_15 (q := 27) rfl sh_25 (by exact ltG2 hG (by decide)) (by exact rG2 hG r0_25_1 (by decide)) dX4_begin_10 ?_
      refine v_iload_n (i := 1) dX4_begin_13 rfl rfl ?_
      refine v_aload_n (i := 0) dX4_begin_14 rfl rfl ?_
      refine g_X4_21 rfl sh_25 (by exact ltG2 hG (by decide)) dX4_begin_15 ?_
      obtain ⟨k3, hF⟩ := ck_some hF
      refine v_iastore sh_27 (by exact ltG2 hG (by decide)) (ixO k3) dX4_begin_18 ?_
      refine v_return rfl dX4_begin_19 ?_
      obtain rfl := Option.some.inj hF
      exact ⟨rfl, rfl, hG⟩
def F2_X4_add (n : Nat) (h : Hp) (x1 : Int32) : Option Hp := (if (404 : Int32) ≤ ((hi h 25 3) : Int32) then some h else (if ixOK (hi h 25 3) 404 = true then some (wrI (wrI h 26 (Int32.toNatClampNeg (hi h 25 3)) x1) 25 3 ((hi (wrI h 26 (Int32.toNatClampNeg (hi h 25 3)) x1) 25 3) + 1)) else none))
set_option maxRecDepth 100000 in
set_option maxHeartbeats 4000000 in
theorem s2_X4_add (d : Nat) {n : Nat} {h : Hp} {x1 : Int32} {q0 : Hp} (hF : F2_X4_add n h x1 = some q0) (hG : G2 h)  : Kc mX4_add (d) [.ref 25, .int x1] h (fun r1 h1 => r1 = none ∧ h1 = q0 ∧ G2 q0) := by
  obtain ⟨h', rfl⟩ : ∃ z, z = q0 := ⟨_, rfl⟩
  unfold F2_X4_add at hF
  refine Kc.of [some (.ref 25), some (.int x1)] ok_X4_add rfl (Nat.le_of_ble_eq_true rfl) ?_
  refine v_aload_n (i := 0) dX4_add_0 rfl rfl ?_
  refine g_X4_21 rfl sh_25 (by exact ltG2 hG (by decide)) dX4_add_1 ?_
  refine v_sipush (v := 404) dX4_add_4 (by decide) ?_
  refine v_icmp_ge 30 dX4_add_7 (by decide) (fun c1 => ?_) (fun c1 => ?_)
  · rw [if_pos c1] at hF
    refine v_return rfl dX4_add_30 ?_
    obtain rfl := Option.some.inj hF
    exact ⟨rfl, rfl, hG⟩
  · rw [if_neg c1] at hF
    refine v_aload_n (i := 0) dX4_add_10 rfl rfl ?_
    refine g_X4_11 (q := 26) rfl sh_25 (by exact ltG2 hG (by decide)) (by exact rG2 hG r0_25_0 (by decide)) dX4_add_11 ?_
    refine v_aload_n (i := 0) dX4_add_14 rfl rfl ?_
    refine g_X4_21 rfl sh_25 (by exact ltG2 hG (by decide)) dX4_add_15 ?_
    refine v_iload_n (i := 1) dX4_add_18 rfl rfl ?_
    obtain ⟨k2, hF⟩ := ck_some hF
    refine v_iastore sh_26 (by exact ltG2 hG (by decide)) (ixO k2) dX4_add_19 ?_
    refine v_aload_n (i := 0) dX4_add_20 rfl rfl ?_
    refine v_dup dX4_add_21 rfl ?_
    refine g_X4_21 rfl sh_25 (by exact ltG2 hG (by decide)) dX4_add_22 ?_
    refine v_iconst (v := 1) dX4_add_25 (by decide) ?_
    refine v_iadd dX4_add_26 ?_
    refine p_X4_21 rfl sh_25 (by exact ltG2 hG (by decide)) dX4_add_27 ?_
    refine v_return rfl dX4_add_30 ?_
    obtain rfl := Option.some.inj hF
    exact ⟨rfl, rfl, hG⟩
def F2_X4_clear (n : Nat) (h : Hp) : Option Hp := ((F2_X4_begin n (wrI h 25 3 0) 0).bind (fun q1 => ((F2_X4_begin n q1 2).bind (fun q3 => ((F2_X4_add n q3 0).bind (fun q5 => ((F2_X4_add n q5 (-15)).bind (fun q7 => ((F2_X4_begin n q7 1).bind (fun q9 => ((F2_X4_begin n q9 3).bind (fun q11 => ((F2_X4_add n q11 1).bind (fun q13 => ((F2_X4_add n q13 (-15)).bind (fun q15 => some q15))))))))))))))))
set_option maxRecDepth 100000 in
set_option maxHeartbeats 4000000 in
theorem s2_X4_clear (d : Nat) {n : Nat} {h : Hp}  {q0 : Hp} (hF : F2_X4_clear n h  = some q0) (hG : G2 h)  : Kc mX4_clear (d + 1) [.ref 25] h (fun r1 h1 => r1 = none ∧ h1 = q0 ∧ G2 q0) := by
  obtain ⟨h', rfl⟩ : ∃ z, z = q0 := ⟨_, rfl⟩
  unfold F2_X4_clear at hF
  refine Kc.of [some (.ref 25)] ok_X4_clear rfl (Nat.le_of_ble_eq_true rfl) ?_
  refine v_aload_n (i := 0) dX4_clear_0 rfl rfl ?_
  refine v_iconst (v := 0) dX4_clear_1 (by decide) ?_
  refine p_X4_21 rfl sh_25 (by exact ltG2 hG (by decide)) dX4_clear_2 ?_
  refine v_aload_n (i := 0) dX4_clear_5 rfl rfl ?_
  refine v_iconst (v := 0) dX4_clear_6 (by decide) ?_
  obtain ⟨q1, q1_e, hF⟩ := Option.bind_eq_some_iff.mp hF
  refine c_X4_25 rfl sh_25 (by exact ltG2 hG (by decide)) (Nat.le_of_ble_eq_true rfl) dX4_clear_7 (s2_X4_begin _ q1_e hG) (fun r1 h1 hq => ?_)
  obtain ⟨rfl, hq, hG⟩ := hq
  replace hq := hq.symm
  subst hq
  simp only [Option.toList, List.nil_append]
  refine v_aload_n (i := 0) dX4_clear_10 rfl rfl ?_
  refine v_iconst (v := 2) dX4_clear_11 (by decide) ?_
  obtain ⟨q3, q3_e, hF⟩ := Option.bind_eq_some_iff.mp hF
  refine c_X4_25 rfl sh_25 (by exact ltG2 hG (by decide)) (Nat.le_of_ble_eq_true rfl) dX4_clear_12 (s2_X4_begin _ q3_e hG) (fun r1 h1 hq => ?_)
  obtain ⟨rfl, hq, hG⟩ := hq
  replace hq := hq.symm
  subst hq
  simp only [Option.toList, List.nil_append]
  refine v_aload_n (i := 0) dX4_clear_15 rfl rfl ?_
  refine v_iconst (v := 0) dX4_clear_16 (by decide) ?_
  obtain ⟨q5, q5_e, hF⟩ := Option.bind_eq_some_iff.mp hF
  refine c_X4_29 rfl sh_25 (by exact ltG2 hG (by decide)) (Nat.le_of_ble_eq_true rfl) dX4_clear_17 (s2_X4_add _ q5_e hG) (fun r1 h1 hq => ?_)
  obtain ⟨rfl, hq, hG⟩ := hq
  replace hq := hq.symm
  subst hq
  simp only [Option.toList, List.nil_append]
  refine v_aload_n (i := 0) dX4_clear_20 rfl rfl ?_
  refine v_bipush (v := (-15)) dX4_clear_21 (by decide) ?_
  obtain ⟨q7, q7_e, hF⟩ := Option.bind_eq_some_iff.mp hF
  refine c_X4_29 rfl sh_25 (by exact ltG2 hG (by decide)) (Nat.le_of_ble_eq_true rfl) dX4_clear_23 (s2_X4_add _ q7_e hG) (fun r1 h1 hq => ?_)
  obtain ⟨rfl, hq, hG⟩ := hq
  replace hq := hq.symm
  subst hq
  simp only [Option.toList, List.nil_append]
  refine v_aload_n (i := 0) dX4_clear_26 rfl rfl ?_
  refine v_iconst (v := 1) dX4_clear_27 (by decide) ?_
  obtain ⟨q9, q9_e, hF⟩ := Option.bind_eq_some_iff.mp hF
  refine c_X4_25 rfl sh_25 (by exact ltG2 hG (by decide)) (Nat.le_of_ble_eq_true rfl) dX4_clear_28 (s2_X4_begin _ q9_e hG) (fun r1 h1 hq => ?_)
  obtain ⟨rfl, hq, hG⟩ := hq
  replace hq := hq.symm
  subst hq
  simp only [Option.toList, List.nil_append]
  refine v_aload_n (i := 0) dX4_clear_31 rfl rfl ?_
  refine v_iconst (v := 3) dX4_clear_32 (by decide) ?_
  obtain ⟨q11, q11_e, hF⟩ := Option.bind_eq_some_iff.mp hF
  refine c_X4_25 rfl sh_25 (by exact ltG2 hG (by decide)) (Nat.le_of_ble_eq_true rfl) dX4_clear_33 (s2_X4_begin _ q11_e hG) (fun r1 h1 hq => ?_)
  obtain ⟨rfl, hq, hG⟩ := hq
  replace hq := hq.symm
  subst hq
  simp only [Option.toList, List.nil_append]
  refine v_aload_n (i := 0) dX4_clear_36 rfl rfl ?_
  refine v_iconst (v := 1) dX4_clear_37 (by decide) ?_
  obtain ⟨q13, q13_e, hF⟩ := Option.bind_eq_some_iff.mp hF
  refine c_X4_29 rfl sh_25 (by exact ltG2 hG (by decide)) (Nat.le_of_ble_eq_true rfl) dX4_clear_38 (s2_X4_add _ q13_e hG) (fun r1 h1 hq => ?_)
  obtain ⟨rfl, hq, hG⟩ := hq
  replace hq := hq.symm
  subst hq
  simp only [Option.toList, List.nil_append]
  refine v_aload_n (i := 0) dX4_clear_41 rfl rfl ?_
  refine v_bipush (v := (-15)) dX4_clear_42 (by decide) ?_
  obtain ⟨q15, q15_e, hF⟩ := Option.bind_eq_some_iff.mp hF
  refine c_X4_29 rfl sh_25 (by exact ltG2 hG (by decide)) (Nat.le_of_ble_eq_true rfl) dX4_clear_44 (s2_X4_add _ q15_e hG) (fun r1 h1 hq => ?_)
  obtain ⟨rfl, hq, hG⟩ := hq
  replace hq := hq.symm
  subst hq
  simp only [Option.toList, List.nil_append]
  refine v_return rfl dX4_clear_47 ?_
  obtain rfl := Option.some.inj hF
  exact ⟨rfl, rfl, hG⟩
def F2_X0_clear (n : Nat) (h : Hp) : Option Hp := ((F2_X3_lay n h 4 4).bind (fun q1 => ((F2_X4_clear n q1).bind (fun q3 => some (wrI (wrI (wrI q3 23 2 0) 23 3 0) 23 4 0)))))
set_option maxRecDepth 100000 in
set_option maxHeartbeats 4000000 in
theorem s2_X0_clear (d : Nat) {n : Nat} {h : Hp}  {q0 : Hp} (hF : F2_X0_clear n h  = some q0) (hG : G2 h)  : Kc mX0_clear (d + 2) [.ref 23] h (fun r1 h1 => r1 = none ∧ h1 = q0 ∧ G2 q0) := by
  obtain ⟨h', rfl⟩ : ∃ z, z = q0 := ⟨_, rfl⟩
  unfold F2_X0_clear at hF
  refine Kc.of [some (.ref 23)] ok_X0_clear rfl (Nat.le_of_ble_eq_true rfl) ?_
  refine v_aload_n (i := 0) dX0_clear_0 rfl rfl ?_
  refine g_X0_12 (q := 24) rfl sh_23 (by exact ltG2 hG (by decide)) (by exact rG2 hG r0_23_0 (by decide)) dX0_clear_1 ?_
  refine v_iconst (v := 4) dX0_clear_4 (by decide) ?_
  refine v_iconst (v := 4) dX0_clear_5 (by decide) ?_
  obtain ⟨q1, q1_e, hF⟩ := Option.bind_eq_some_iff.mp hF
  refine c_X0_39 rfl sh_24 (by exact ltG2 hG (by decide)) (Nat.le_of_ble_eq_true rfl) dX0_clear_6 (s2_X3_lay _ q1_e hG) (fun r1 h1 hq => ?_)
  obtain ⟨rfl, hq, hG⟩ := hq
  replace hq := hq.symm
  subst hq
  simp only [Option.toList, List.nil_append]
  refine v_aload_n (i := 0) dX0_clear_9 rfl rfl ?_
  refine g_X0_21 (q := 25) rfl sh_23 (by exact ltG2 hG (by decide)) (by exact rG2 hG r0_23_1 (by decide)) dX0_clear_10 ?_
  obtain ⟨q3, q3_e, hF⟩ := Option.bind_eq_some_iff.mp hF
  refine c_X0_43 rfl sh_25 (by exact ltG2 hG (by decide)) (Nat.le_of_ble_eq_true rfl) dX0_clear_13 (s2_X4_clear _ q3_e hG) (fun r1 h1 hq => ?_)
  obtain ⟨rfl, hq, hG⟩ := hq
  replace hq := hq.symm
  subst hq
  simp only [Option.toList, List.nil_append]
  refine v_aload_n (i := 0) dX0_clear_16 rfl rfl ?_
  refine v_iconst (v := 0) dX0_clear_17 (by decide) ?_
  refine p_X0_25 rfl sh_23 (by exact ltG2 hG (by decide)) dX0_clear_18 ?_
  refine v_aload_n (i := 0) dX0_clear_21 rfl rfl ?_
  refine v_iconst (v := 0) dX0_clear_22 (by decide) ?_
  refine p_X0_29 rfl sh_23 (by exact ltG2 hG (by decide)) dX0_clear_23 ?_
  refine v_aload_n (i := 0) dX0_clear_26 rfl rfl ?_
  refine v_iconst (v := 0) dX0_clear_27 (by decide) ?_
  refine p_X0_32 rfl sh_23 (by exact ltG2 hG (by decide)) dX0_clear_28 ?_
  refine v_return rfl dX0_clear_31 ?_
  obtain rfl := Option.some.inj hF
  exact ⟨rfl, rfl, hG⟩
def hk_C : Hp := (F2_X0_clear 100 hk_29).getD hE
theorem some0 : (F2_X0_clear 100 hk_29).isSome = true := by decide +kernel
theorem g0 : G2 hk_29 := ⟨by decide +kernel, by decide +kernel⟩
theorem k_X0_clear_23 (d : Nat) : Kc mX0_clear (d + 2) [.ref 23] hk_29 (fun r h' => r = none ∧ h' = hk_C) := Kc.mono (s2_X0_clear d (ogetD hE some0) g0) (fun r h' q => ⟨q.1, q.2.1⟩)
end
section
def hk_30 : Hp := hk_C
theorem k_X11_init_0 (d : Nat) : Kc mX11_init (d + 10) [.ref 0] hk_0 (fun r h' => r = none ∧ h' = hk_30) := by
  refine Kc.of [some (.ref 0), none] ok_X11_init rfl (Nat.le_of_ble_eq_true rfl) ?_
  refine v_aload_n (i := 0) dX11_init_0 rfl rfl ?_
  refine v_objInit ml_X11_1 oi_im oi_code (Nat.le_of_ble_eq_true rfl) dX11_init_1 ?_
  refine v_aload_n (i := 0) dX11_init_4 rfl rfl ?_
  refine v_sipush (v := 2000) dX11_init_5 (by decide) ?_
  refine v_newarr (q := 1) (ty := .byte) (N := 2000) (by decide +kernel) rfl 1 (fun _ => rfl) sh_1 ac_byte ⟨nofun, nofun⟩ (fun _ => nofun) (fun _ => nofun) (by decide) (by decide) (by decide) dX11_init_8 ?_
  refine p_X11_9 rfl sh_0 (by decide +kernel) rfl dX11_init_10 ?_
  refine v_aload_n (i := 0) dX11_init_13 rfl rfl ?_
  refine v_iconst (v := 0) dX11_init_14 (by decide) ?_
  refine p_X11_13 rfl sh_0 (by decide +kernel) dX11_init_15 ?_
  refine v_aload_n (i := 0) dX11_init_18 rfl rfl ?_
  refine v_iconst (v := (-1)) dX11_init_19 (by decide) ?_
  refine p_X11_17 rfl sh_0 (by decide +kernel) dX11_init_20 ?_
  refine v_aload_n (i := 0) dX11_init_23 rfl rfl ?_
  refine n_X11_20 rfl (by decide +kernel) dX11_init_24 ?_
  refine v_atn (q := 2) (by decide +kernel) ?_
  refine v_dup dX11_init_27 rfl ?_
  refine v_aload_n (i := 0) dX11_init_28 rfl rfl ?_
  refine g_X11_9 (q := 1) rfl sh_0 (by decide +kernel) (by decide +kernel) dX11_init_29 ?_
  refine c_X11_22 rfl (Nat.le_of_ble_eq_true rfl) dX11_init_32 (k_X7_init_2 _) (fun r1 h1 hq => ?_)
  obtain ⟨rfl, rfl⟩ := hq
  simp only [Option.toList, List.nil_append]
  refine p_X11_25 rfl sh_0 (by decide +kernel) rfl dX11_init_35 ?_
  refine v_aload_n (i := 0) dX11_init_38 rfl rfl ?_
  refine n_X11_29 rfl (by decide +kernel) dX11_init_39 ?_
  refine v_atn (q := 23) (by decide +kernel) ?_
  refine v_dup dX11_init_42 rfl ?_
  refine c_X11_31 rfl (Nat.le_of_ble_eq_true rfl) dX11_init_43 (k_X0_init_23 _) (fun r1 h1 hq => ?_)
  obtain ⟨rfl, rfl⟩ := hq
  simp only [Option.toList, List.nil_append]
  refine p_X11_32 rfl sh_0 (by decide +kernel) rfl dX11_init_46 ?_
  refine v_aload_n (i := 0) dX11_init_49 rfl rfl ?_
  refine v_aload_n (i := 0) dX11_init_50 rfl rfl ?_
  refine g_X11_32 (q := 23) rfl sh_0 (by decide +kernel) (by decide +kernel) dX11_init_51 ?_
  refine g_X11_36 (q := 24) rfl sh_23 (by decide +kernel) (by decide +kernel) dX11_init_54 ?_
  refine p_X11_40 rfl sh_0 (by decide +kernel) rfl dX11_init_57 ?_
  refine v_aload_n (i := 0) dX11_init_60 rfl rfl ?_
  refine n_X11_41 rfl (by decide +kernel) dX11_init_61 ?_
  refine v_atn (q := 30) (by decide +kernel) ?_
  refine v_dup dX11_init_64 rfl ?_
  refine c_X11_43 rfl (Nat.le_of_ble_eq_true rfl) dX11_init_65 (k_X8_init _ (a := 30) (by decide +kernel) sc_30) (fun r1 h1 hq => ?_)
  obtain ⟨rfl, rfl⟩ := hq
  simp only [Option.toList, List.nil_append]
  refine p_X11_44 rfl sh_0 (by decide +kernel) rfl dX11_init_68 ?_
  refine v_aload_n (i := 0) dX11_init_71 rfl rfl ?_
  refine n_X11_41 rfl (by decide +kernel) dX11_init_72 ?_
  refine v_atn (q := 34) (by decide +kernel) ?_
  refine v_dup dX11_init_75 rfl ?_
  refine c_X11_43 rfl (Nat.le_of_ble_eq_true rfl) dX11_init_76 (k_X8_init _ (a := 34) (by decide +kernel) sc_34) (fun r1 h1 hq => ?_)
  obtain ⟨rfl, rfl⟩ := hq
  simp only [Option.toList, List.nil_append]
  refine p_X11_48 rfl sh_0 (by decide +kernel) rfl dX11_init_79 ?_
  refine v_aload_n (i := 0) dX11_init_82 rfl rfl ?_
  refine n_X11_51 rfl (by decide +kernel) dX11_init_83 ?_
  refine v_atn (q := 38) (by decide +kernel) ?_
  refine v_dup dX11_init_86 rfl ?_
  refine c_X11_53 rfl (Nat.le_of_ble_eq_true rfl) dX11_init_87 (k_X6_init_38 _) (fun r1 h1 hq => ?_)
  obtain ⟨rfl, rfl⟩ := hq
  simp only [Option.toList, List.nil_append]
  refine p_X11_54 rfl sh_0 (by decide +kernel) rfl dX11_init_90 ?_
  refine v_aload_n (i := 0) dX11_init_93 rfl rfl ?_
  refine v_iconst (v := 3) dX11_init_94 (by decide) ?_
  refine v_anewarr (q := 200) (N := 3) (by decide +kernel) sh_200 cl_X11_41 (by decide) (by decide) (by decide) dX11_init_95 ?_
  refine p_X11_58 rfl sh_0 (by decide +kernel) rfl dX11_init_98 ?_
  refine v_aload_n (i := 0) dX11_init_101 rfl rfl ?_
  refine v_iconst (v := 0) dX11_init_102 (by decide) ?_
  refine p_X11_62 rfl sh_0 (by decide +kernel) dX11_init_103 ?_
  refine v_aload_n (i := 0) dX11_init_106 rfl rfl ?_
  refine n_X11_65 rfl (by decide +kernel) dX11_init_107 ?_
  refine v_atn (q := 201) (by decide +kernel) ?_
  refine v_dup dX11_init_110 rfl ?_
  refine c_X11_67 rfl (Nat.le_of_ble_eq_true rfl) dX11_init_111 (k_X2_init_201 _) (fun r1 h1 hq => ?_)
  obtain ⟨rfl, rfl⟩ := hq
  simp only [Option.toList, List.nil_append]
  refine p_X11_68 rfl sh_0 (by decide +kernel) rfl dX11_init_114 ?_
  refine v_aload_n (i := 0) dX11_init_117 rfl rfl ?_
  refine n_X11_72 rfl (by decide +kernel) dX11_init_118 ?_
  refine v_atn (q := 204) (by decide +kernel) ?_
  refine v_dup dX11_init_121 rfl ?_
  refine v_aload_n (i := 0) dX11_init_122 rfl rfl ?_
  refine g_X11_40 (q := 24) rfl sh_0 (by decide +kernel) (by decide +kernel) dX11_init_123 ?_
  refine c_X11_74 rfl (Nat.le_of_ble_eq_true rfl) dX11_init_126 (k_X10_init_204 _) (fun r1 h1 hq => ?_)
  obtain ⟨rfl, rfl⟩ := hq
  simp only [Option.toList, List.nil_append]
  refine p_X11_77 rfl sh_0 (by decide +kernel) rfl dX11_init_129 ?_
  refine v_aload_n (i := 0) dX11_init_132 rfl rfl ?_
  refine n_X11_81 rfl (by decide +kernel) dX11_init_133 ?_
  refine v_atn (q := 207) (by decide +kernel) ?_
  refine v_dup dX11_init_136 rfl ?_
  refine v_aload_n (i := 0) dX11_init_137 rfl rfl ?_
  refine g_X11_40 (q := 24) rfl sh_0 (by decide +kernel) (by decide +kernel) dX11_init_138 ?_
  refine c_X11_83 rfl (Nat.le_of_ble_eq_true rfl) dX11_init_141 (k_X1_init_207 _) (fun r1 h1 hq => ?_)
  obtain ⟨rfl, rfl⟩ := hq
  simp only [Option.toList, List.nil_append]
  refine p_X11_84 rfl sh_0 (by decide +kernel) rfl dX11_init_144 ?_
  refine v_aload_n (i := 0) dX11_init_147 rfl rfl ?_
  refine n_X11_88 rfl (by decide +kernel) dX11_init_148 ?_
  refine v_atn (q := 211) (by decide +kernel) ?_
  refine v_dup dX11_init_151 rfl ?_
  refine v_aload_n (i := 0) dX11_init_152 rfl rfl ?_
  refine g_X11_40 (q := 24) rfl sh_0 (by decide +kernel) (by decide +kernel) dX11_init_153 ?_
  refine c_X11_90 rfl (Nat.le_of_ble_eq_true rfl) dX11_init_156 (k_X5_init_211 _) (fun r1 h1 hq => ?_)
  obtain ⟨rfl, rfl⟩ := hq
  simp only [Option.toList, List.nil_append]
  refine p_X11_91 rfl sh_0 (by decide +kernel) rfl dX11_init_159 ?_
  refine v_iconst (v := 0) dX11_init_162 (by decide) ?_
  refine v_istore_n (i := 1) dX11_init_163 rfl (by decide) (nlT rfl) ?_
  simp only [List.set_cons_zero, List.set_cons_succ]
  refine v_iload_n (i := 1) dX11_init_164 rfl rfl ?_
  refine v_iconst (v := 3) dX11_init_165 (by decide) ?_
  refine v_icmp_ge 188 dX11_init_166 (by decide) (fun c => absurd c (by decide)) (fun _ => ?_)
  refine v_aload_n (i := 0) dX11_init_169 rfl rfl ?_
  refine g_X11_58 (q := 200) rfl sh_0 (by decide +kernel) (by decide +kernel) dX11_init_170 ?_
  refine v_iload_n (i := 1) dX11_init_173 rfl rfl ?_
  refine n_X11_41 rfl (by decide +kernel) dX11_init_174 ?_
  refine v_atn (q := 214) (by decide +kernel) ?_
  refine v_dup dX11_init_177 rfl ?_
  refine c_X11_43 rfl (Nat.le_of_ble_eq_true rfl) dX11_init_178 (k_X8_init _ (a := 214) (by decide +kernel) (scSlot (j := 0) (by decide))) (fun r1 h1 hq => ?_)
  obtain ⟨rfl, rfl⟩ := hq
  simp only [Option.toList, List.nil_append]
  refine v_aastore sh_200 (by decide +kernel) sh_214 (by decide +kernel) (ixK 0 (by decide)) dX11_init_181 ?_
  refine v_iinc (i := 1) (v := 1) dX11_init_182 rfl (by decide) (by decide) (nlT rfl) ?_
  simp only [List.set_cons_zero, List.set_cons_succ]
  refine v_goto 164 dX11_init_185 (by decide) ?_
  refine v_iload_n (i := 1) dX11_init_164 rfl rfl ?_
  refine v_iconst (v := 3) dX11_init_165 (by decide) ?_
  refine v_icmp_ge 188 dX11_init_166 (by decide) (fun c => absurd c (by decide)) (fun _ => ?_)
  refine v_aload_n (i := 0) dX11_init_169 rfl rfl ?_
  refine g_X11_58 (q := 200) rfl sh_0 (by decide +kernel) (by decide +kernel) dX11_init_170 ?_
  refine v_iload_n (i := 1) dX11_init_173 rfl rfl ?_
  refine n_X11_41 rfl (by decide +kernel) dX11_init_174 ?_
  refine v_atn (q := 218) (by decide +kernel) ?_
  refine v_dup dX11_init_177 rfl ?_
  refine c_X11_43 rfl (Nat.le_of_ble_eq_true rfl) dX11_init_178 (k_X8_init _ (a := 218) (by decide +kernel) (scSlot (j := 1) (by decide))) (fun r1 h1 hq => ?_)
  obtain ⟨rfl, rfl⟩ := hq
  simp only [Option.toList, List.nil_append]
  refine v_aastore sh_200 (by decide +kernel) sh_218 (by decide +kernel) (ixK 1 (by decide)) dX11_init_181 ?_
  refine v_iinc (i := 1) (v := 2) dX11_init_182 rfl (by decide) (by decide) (nlT rfl) ?_
  simp only [List.set_cons_zero, List.set_cons_succ]
  refine v_goto 164 dX11_init_185 (by decide) ?_
  refine v_iload_n (i := 1) dX11_init_164 rfl rfl ?_
  refine v_iconst (v := 3) dX11_init_165 (by decide) ?_
  refine v_icmp_ge 188 dX11_init_166 (by decide) (fun c => absurd c (by decide)) (fun _ => ?_)
  refine v_aload_n (i := 0) dX11_init_169 rfl rfl ?_
  refine g_X11_58 (q := 200) rfl sh_0 (by decide +kernel) (by decide +kernel) dX11_init_170 ?_
  refine v_iload_n (i := 1) dX11_init_173 rfl rfl ?_
  refine n_X11_41 rfl (by decide +kernel) dX11_init_174 ?_
  refine v_atn (q := 222) (by decide +kernel) ?_
  refine v_dup dX11_init_177 rfl ?_
  refine c_X11_43 rfl (Nat.le_of_ble_eq_true rfl) dX11_init_178 (k_X8_init _ (a := 222) (by decide +kernel) (scSlot (j := 2) (by decide))) (fun r1 h1 hq => ?_)
  obtain ⟨rfl, rfl⟩ := hq
  simp only [Option.toList, List.nil_append]
  refine v_aastore sh_200 (by decide +kernel) sh_222 (by decide +kernel) (ixK 2 (by decide)) dX11_init_181 ?_
  refine v_iinc (i := 1) (v := 3) dX11_init_182 rfl (by decide) (by decide) (nlT rfl) ?_
  simp only [List.set_cons_zero, List.set_cons_succ]
  refine v_goto 164 dX11_init_185 (by decide) ?_
  refine v_iload_n (i := 1) dX11_init_164 rfl rfl ?_
  refine v_iconst (v := 3) dX11_init_165 (by decide) ?_
  refine v_icmp_ge 188 dX11_init_166 (by decide) (fun _ => ?_) (fun c => absurd (by decide) c)
  refine v_aload_n (i := 0) dX11_init_188 rfl rfl ?_
  refine g_X11_32 (q := 23) rfl sh_0 (by decide +kernel) (by decide +kernel) dX11_init_189 ?_
  refine c_X11_95 rfl sh_23 (by decide +kernel) (Nat.le_of_ble_eq_true rfl) dX11_init_192 (k_X0_clear_23 _) (fun r1 h1 hq => ?_)
  obtain ⟨rfl, rfl⟩ := hq
  simp only [Option.toList, List.nil_append]
  refine v_return rfl dX11_init_195 ⟨rfl, rfl⟩
end
