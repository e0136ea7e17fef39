def W_X9_behindLetters : Nat → Nat → Hp → Int32 → Int32 → Option (Int32 × Hp)
  | 0 => fun _ _ _ _ => none
  | n + 1 => fun hd h l1 l2 => (if hd = 2 then (if ((hi h 18 6) : Int32) ≤ (l2 : Int32) then some (l2, h) else ((F_X9_signAt n h l2).bind (fun q2 => ((F_X9_isLetter n q2.2 q2.1).bind (fun q4 => (if (q4.1 : Int32) = 0 then some (l2, q4.2) else W_X9_behindLetters n 2 q4.2  l1 (l2 + 1))))))) else none)
set_option maxRecDepth 100000 in
set_option maxHeartbeats 4000000 in
theorem sw_X9_behindLetters (d : Nat)  (n : Nat) : (∀ (l1 : Int32) (l2 : Int32) (h : Hp), ∀ (r : Int32) (h' : Hp), W_X9_behindLetters n 2 h  l1 l2 = some (r, h') → G h → V mX9_behindLetters (d + 1) 2 [some (.ref 18), some (.int l1), some (.int l2)] [] h (fun r1 h1 => r1 = some (.int r) ∧ h1 = h' ∧ G h')) := by
  induction n with
  | zero => exact by intros; contradiction
  | succ n ih =>
    have s_X9_behindLetters_IH_2 := ih
    intro l1 l2 h r h' hF hG
    unfold W_X9_behindLetters at hF
    rw [if_pos rfl] at hF
    refine v_iload_n (i := 2) dX9_behindLetters_2 rfl rfl ?_
    refine v_aload_n (i := 0) dX9_behindLetters_3 rfl rfl ?_
    refine g_X9_30 rfl sh_18 (by exact ltG hG (by decide)) dX9_behindLetters_4 ?_
    refine v_icmp_ge 27 dX9_behindLetters_7 (by decide) (fun c1 => ?_) (fun c1 => ?_)
    · rw [if_pos c1] at hF
      refine v_iload_n (i := 2) dX9_behindLetters_27 rfl rfl ?_
      refine v_ireturn rfl dX9_behindLetters_28 ?_
      obtain ⟨rfl, rfl⟩ := Prod.mk.inj (Option.some.inj hF)
      exact ⟨rfl, rfl, hG⟩
    · rw [if_neg c1] at hF
      refine v_aload_n (i := 0) dX9_behindLetters_10 rfl rfl ?_
      refine v_iload_n (i := 2) dX9_behindLetters_11 rfl rfl ?_
      obtain ⟨q2, q2_e, hF⟩ := Option.bind_eq_some_iff.mp hF
      refine c_X9_69 rfl sh_18 (by exact ltG hG (by decide)) (Nat.le_of_ble_eq_true rfl) dX9_behindLetters_12 (s_X9_signAt _ q2_e hG) (fun r1 h1 hq => ?_)
      obtain ⟨rfl, hq, hG⟩ := hq
      replace hq := hq.symm
      subst hq
      show V _ _ _ _ (_ :: _) _ _
      obtain ⟨q4, q4_e, hF⟩ := Option.bind_eq_some_iff.mp hF
      refine c_X9_72 rfl (Nat.le_of_ble_eq_true rfl) dX9_behindLetters_15 (s_X9_isLetter _ q4_e hG) (fun r1 h1 hq => ?_)
      obtain ⟨rfl, hq, hG⟩ := hq
      replace hq := hq.symm
      subst hq
      show V _ _ _ _ (_ :: _) _ _
      refine v_if_eq 27 dX9_behindLetters_18 (by decide) (fun c6 => ?_) (fun c6 => ?_)
      · rw [if_pos c6] at hF
        refine v_iload_n (i := 2) dX9_behindLetters_27 rfl rfl ?_
        refine v_ireturn rfl dX9_behindLetters_28 ?_
        obtain ⟨rfl, rfl⟩ := Prod.mk.inj (Option.some.inj hF)
        exact ⟨rfl, rfl, hG⟩
      · rw [if_neg c6] at hF
        refine v_iinc (i := 2) (v := (l2 + 1)) dX9_behindLetters_21 rfl rfl (by decide) (nlT rfl) ?_
        simp only [List.set_cons_zero, List.set_cons_succ]
        refine v_goto 2 dX9_behindLetters_24 (by decide) ?_
        refine V.weak (la2 := [some (.ref 18), some (.int l1), some (.int (l2 + 1))]) (by simp [wk]) ?_
        exact (s_X9_behindLetters_IH_2) _ _ _ _ _ hF hG
def F_X9_behindLetters (n : Nat) (h : Hp) (x1 : Int32) : Option (Int32 × Hp) := W_X9_behindLetters n 2 h  x1 x1
set_option maxRecDepth 100000 in
set_option maxHeartbeats 4000000 in
theorem s_X9_behindLetters (d : Nat) {n : Nat} {h : Hp} {x1 : Int32} {q0 : (Int32 × Hp)} (hF : F_X9_behindLetters n h x1 = some q0) (hG : G h)  : Kc mX9_behindLetters (d + 1) [.ref 18, .int x1] h (fun r1 h1 => r1 = some (.int q0.1) ∧ h1 = q0.2 ∧ G q0.2) := by
  obtain ⟨r, h'⟩ := q0
  have s_X9_behindLetters_IH_2 := sw_X9_behindLetters d   n
  unfold F_X9_behindLetters at hF
  refine Kc.of [some (.ref 18), some (.int x1), none] ok_X9_behindLetters rfl (Nat.le_of_ble_eq_true rfl) ?_
  refine v_iload_n (i := 1) dX9_behindLetters_0 rfl rfl ?_
  refine v_istore_n (i := 2) dX9_behindLetters_1 rfl (by decide) (nlT rfl) ?_
  simp only [List.set_cons_zero, List.set_cons_succ]
  refine V.weak (la2 := [some (.ref 18), some (.int x1), some (.int x1)]) (by simp [wk]) ?_
  exact (s_X9_behindLetters_IH_2) _ _ _ _ _ hF hG
def W_X9_lettersOf : Nat → Nat → Hp → Int32 → Int32 → Int64 → Int32 → Option (Int64 × Hp)
  | 0 => fun _ _ _ _ _ _ => none
  | n + 1 => fun hd h l1 l2 l3 l5 => (if hd = 5 then (if (l2 : Int32) ≤ (l5 : Int32) then some (l3, h) else ((F_X9_signAt n h l5).bind (fun q2 => ((F_X9_withLetter n q2.2 l3 q2.1).bind (fun q4 => W_X9_lettersOf n 5 q4.2  l1 l2 q4.1 (l5 + 1)))))) else none)
set_option maxRecDepth 100000 in
set_option maxHeartbeats 4000000 in
theorem sw_X9_lettersOf (d : Nat)  (n : Nat) : (∀ (l1 : Int32) (l2 : Int32) (l3 : Int64) (l5 : Int32) (h : Hp), ∀ (r : Int64) (h' : Hp), W_X9_lettersOf n 5 h  l1 l2 l3 l5 = some (r, h') → G h → V mX9_lettersOf (d + 1) 5 [some (.ref 18), some (.int l1), some (.int l2), some (.long l3), none, some (.int l5)] [] h (fun r1 h1 => r1 = some (.long r) ∧ h1 = h' ∧ G h')) := by
  induction n with
  | zero => exact by intros; contradiction
  | succ n ih =>
    have s_X9_lettersOf_IH_5 := ih
    intro l1 l2 l3 l5 h r h' hF hG
    unfold W_X9_lettersOf at hF
    rw [if_pos rfl] at hF
    refine v_iload (i := 5) dX9_lettersOf_5 rfl ?_
    refine v_iload_n (i := 2) dX9_lettersOf_7 rfl rfl ?_
    refine v_icmp_ge 28 dX9_lettersOf_8 (by decide) (fun c1 => ?_) (fun c1 => ?_)
    · rw [if_pos c1] at hF
      refine v_lload_n (i := 3) dX9_lettersOf_28 rfl rfl ?_
      refine v_lreturn rfl dX9_lettersOf_29 ?_
      obtain ⟨rfl, rfl⟩ := Prod.mk.inj (Option.some.inj hF)
      exact ⟨rfl, rfl, hG⟩
    · rw [if_neg c1] at hF
      refine v_lload_n (i := 3) dX9_lettersOf_11 rfl rfl ?_
      refine v_aload_n (i := 0) dX9_lettersOf_12 rfl rfl ?_
      refine v_iload (i := 5) dX9_lettersOf_13 rfl ?_
      obtain ⟨q2, q2_e, hF⟩ := Option.bind_eq_some_iff.mp hF
      refine c_X9_69 rfl sh_18 (by exact ltG hG (by decide)) (Nat.le_of_ble_eq_true rfl) dX9_lettersOf_15 (s_X9_signAt _ q2_e hG) (fun r1 h1 hq => ?_)
      obtain ⟨rfl, hq, hG⟩ := hq
      replace hq := hq.symm
      subst hq
      show V _ _ _ _ (_ :: _) _ _
      obtain ⟨q4, q4_e, hF⟩ := Option.bind_eq_some_iff.mp hF
      refine c_X9_47 rfl (Nat.le_of_ble_eq_true rfl) dX9_lettersOf_18 (s_X9_withLetter _ q4_e hG) (fun r1 h1 hq => ?_)
      obtain ⟨rfl, hq, hG⟩ := hq
      replace hq := hq.symm
      subst hq
      show V _ _ _ _ (_ :: _) _ _
      refine v_lstore_n (i := 3) dX9_lettersOf_21 rfl (by decide) (nlT rfl) ?_
      simp only [List.set_cons_zero, List.set_cons_succ]
      refine v_iinc (i := 5) (v := (l5 + 1)) dX9_lettersOf_22 rfl rfl (by decide) (nlT rfl) ?_
      simp only [List.set_cons_zero, List.set_cons_succ]
      refine v_goto 5 dX9_lettersOf_25 (by decide) ?_
      refine V.weak (la2 := [some (.ref 18), some (.int l1), some (.int l2), some (.long q4.1), none, some (.int (l5 + 1))]) (by simp [wk]) ?_
      exact (s_X9_lettersOf_IH_5) _ _ _ _ _ _ _ hF hG
def F_X9_lettersOf (n : Nat) (h : Hp) (x1 : Int32) (x2 : Int32) : Option (Int64 × Hp) := W_X9_lettersOf n 5 h  x1 x2 0 x1
set_option maxRecDepth 100000 in
set_option maxHeartbeats 4000000 in
theorem s_X9_lettersOf (d : Nat) {n : Nat} {h : Hp} {x1 : Int32} {x2 : Int32} {q0 : (Int64 × Hp)} (hF : F_X9_lettersOf n h x1 x2 = some q0) (hG : G h)  : Kc mX9_lettersOf (d + 1) [.ref 18, .int x1, .int x2] h (fun r1 h1 => r1 = some (.long q0.1) ∧ h1 = q0.2 ∧ G q0.2) := by
  obtain ⟨r, h'⟩ := q0
  have s_X9_lettersOf_IH_5 := sw_X9_lettersOf d   n
  unfold F_X9_lettersOf at hF
  refine Kc.of [some (.ref 18), some (.int x1), some (.int x2), none, none, none] ok_X9_lettersOf rfl (Nat.le_of_ble_eq_true rfl) ?_
  refine v_lconst (v := 0) dX9_lettersOf_0 (by decide) ?_
  refine v_lstore_n (i := 3) dX9_lettersOf_1 rfl (by decide) (nlT rfl) ?_
  simp only [List.set_cons_zero, List.set_cons_succ]
  refine v_iload_n (i := 1) dX9_lettersOf_2 rfl rfl ?_
  refine v_istore (i := 5) dX9_lettersOf_3 (by decide) (nlT rfl) ?_
  simp only [List.set_cons_zero, List.set_cons_succ]
  refine V.weak (la2 := [some (.ref 18), some (.int x1), some (.int x2), some (.long 0), none, some (.int x1)]) (by simp [wk]) ?_
  exact (s_X9_lettersOf_IH_5) _ _ _ _ _ _ _ hF hG
def W_X9_numberOf : Nat → Nat → Hp → Int32 → Int32 → Int32 → Int32 → Option (Int32 × Hp)
  | 0 => fun _ _ _ _ _ _ => none
  | n + 1 => fun hd h l1 l2 l3 l4 => (if hd = 5 then (if (l2 : Int32) ≤ (l4 : Int32) then some (l3, h) else ((F_X9_signAt n h l4).bind (fun q2 => W_X9_numberOf n 5 q2.2  l1 l2 ((10 * l3) + (q2.1 - 48)) (l4 + 1)))) else none)
set_option maxRecDepth 100000 in
set_option maxHeartbeats 4000000 in
theorem sw_X9_numberOf (d : Nat)  (n : Nat) : (∀ (l1 : Int32) (l2 : Int32) (l3 : Int32) (l4 : Int32) (h : Hp), ∀ (r : Int32) (h' : Hp), W_X9_numberOf n 5 h  l1 l2 l3 l4 = some (r, h') → G h → V mX9_numberOf (d + 1) 5 [some (.ref 18), some (.int l1), some (.int l2), some (.int l3), some (.int l4)] [] h (fun r1 h1 => r1 = some (.int r) ∧ h1 = h' ∧ G h')) := by
  induction n with
  | zero => exact by intros; contradiction
  | succ n ih =>
    have s_X9_numberOf_IH_5 := ih
    intro l1 l2 l3 l4 h r h' hF hG
    unfold W_X9_numberOf at hF
    rw [if_pos rfl] at hF
    refine v_iload (i := 4) dX9_numberOf_5 rfl ?_
    refine v_iload_n (i := 2) dX9_numberOf_7 rfl rfl ?_
    refine v_icmp_ge 32 dX9_numberOf_8 (by decide) (fun c1 => ?_) (fun c1 => ?_)
    · rw [if_pos c1] at hF
      refine v_iload_n (i := 3) dX9_numberOf_32 rfl rfl ?_
      refine v_ireturn rfl dX9_numberOf_33 ?_
      obtain ⟨rfl, rfl⟩ := Prod.mk.inj (Option.some.inj hF)
      exact ⟨rfl, rfl, hG⟩
    · rw [if_neg c1] at hF
      refine v_bipush (v := 10) dX9_numberOf_11 (by decide) ?_
      refine v_iload_n (i := 3) dX9_numberOf_13 rfl rfl ?_
      refine v_imul dX9_numberOf_14 ?_
      refine v_aload_n (i := 0) dX9_numberOf_15 rfl rfl ?_
      refine v_iload (i := 4) dX9_numberOf_16 rfl ?_
      obtain ⟨q2, q2_e, hF⟩ := Option.bind_eq_some_iff.mp hF
      refine c_X9_69 rfl sh_18 (by exact ltG hG (by decide)) (Nat.le_of_ble_eq_true rfl) dX9_numberOf_18 (s_X9_signAt _ q2_e hG) (fun r1 h1 hq => ?_)
      obtain ⟨rfl, hq, hG⟩ := hq
      replace hq := hq.symm
      subst hq
      show V _ _ _ _ (_ :: _) _ _
      refine v_bipush (v := 48) dX9_numberOf_21 (by decide) ?_
      refine v_isub dX9_numberOf_23 ?_
      refine v_iadd dX9_numberOf_24 ?_
      refine v_istore_n (i := 3) dX9_numberOf_25 rfl (by decide) (nlT rfl) ?_
      simp only [List.set_cons_zero, List.set_cons_succ]
      refine v_iinc (i := 4) (v := (l4 + 1)) dX9_numberOf_26 rfl rfl (by decide) (nlT rfl) ?_
      simp only [List.set_cons_zero, List.set_cons_succ]
      refine v_goto 5 dX9_numberOf_29 (by decide) ?_
      refine V.weak (la2 := [some (.ref 18), some (.int l1), some (.int l2), some (.int ((10 * l3) + (q2.1 - 48))), some (.int (l4 + 1))]) (by simp [wk]) ?_
      exact (s_X9_numberOf_IH_5) _ _ _ _ _ _ _ hF hG
def F_X9_numberOf (n : Nat) (h : Hp) (x1 : Int32) (x2 : Int32) : Option (Int32 × Hp) := W_X9_numberOf n 5 h  x1 x2 0 x1
set_option maxRecDepth 100000 in
set_option maxHeartbeats 4000000 in
theorem s_X9_numberOf (d : Nat) {n : Nat} {h : Hp} {x1 : Int32} {x2 : Int32} {q0 : (Int32 × Hp)} (hF : F_X9_numberOf n h x1 x2 = some q0) (hG : G h)  : Kc mX9_numberOf (d + 1) [.ref 18, .int x1, .int x2] h (fun r1 h1 => r1 = some (.int q0.1) ∧ h1 = q0.2 ∧ G q0.2) := by
  obtain ⟨r, h'⟩ := q0
  have s_X9_numberOf_IH_5 := sw_X9_numberOf d   n
  unfold F_X9_numberOf at hF
  refine Kc.of [some (.ref 18), some (.int x1), some (.int x2), none, none] ok_X9_numberOf rfl (Nat.le_of_ble_eq_true rfl) ?_
  refine v_iconst (v := 0) dX9_numberOf_0 (by decide) ?_
  refine v_istore_n (i := 3) dX9_numberOf_1 rfl (by decide) (nlT rfl) ?_
  simp only [List.set_cons_zero, List.set_cons_succ]
  refine v_iload_n (i := 1) dX9_numberOf_2 rfl rfl ?_
  refine v_istore (i := 4) dX9_numberOf_3 (by decide) (nlT rfl) ?_
  simp only [List.set_cons_zero, List.set_cons_succ]
  refine V.weak (la2 := [some (.ref 18), some (.int x1), some (.int x2), some (.int 0), some (.int x1)]) (by simp [wk]) ?_
  exact (s_X9_numberOf_IH_5) _ _ _ _ _ _ _ hF hG
def F_X0_ask (n : Nat) (h : Hp) (a : Nat) (b1 : Nat) (x2 : Int32) (x3 : Int32) (x4 : Int32) (x5 : Int32) : Option (Int32 × Hp) := ((F_X3_leftOf n h (a + 1) x3).bind (fun q1 => ((F_X3_topOf n (wrI q1.2 (a + 6) 0 q1.1) (a + 1) x3).bind (fun q3 => ((F_X8_beatOf n (wrI (wrI q3.2 (a + 6) 1 q3.1) (a + 6) 2 (hi (wrI q3.2 (a + 6) 1 q3.1) b1 0)) b1 x3).bind (fun q5 => ((F_J6_bitCount_0f7a4 n (wrI (wrI (wrI (wrI (wrI q5.2 (a + 6) 3 q5.1) (a + 6) 4 x4) (a + 6) 5 x5) (a + 6) 6 (hi (wrI (wrI (wrI q5.2 (a + 6) 3 q5.1) (a + 6) 4 x4) (a + 6) 5 x5) (a + 1) 0)) (a + 6) 7 (hi (wrI (wrI (wrI (wrI q5.2 (a + 6) 3 q5.1) (a + 6) 4 x4) (a + 6) 5 x5) (a + 6) 6 (hi (wrI (wrI (wrI q5.2 (a + 6) 3 q5.1) (a + 6) 4 x4) (a + 6) 5 x5) (a + 1) 0)) (a + 1) 1)) (hi (wrI (wrI (wrI (wrI (wrI q5.2 (a + 6) 3 q5.1) (a + 6) 4 x4) (a + 6) 5 x5) (a + 6) 6 (hi (wrI (wrI (wrI q5.2 (a + 6) 3 q5.1) (a + 6) 4 x4) (a + 6) 5 x5) (a + 1) 0)) (a + 6) 7 (hi (wrI (wrI (wrI (wrI q5.2 (a + 6) 3 q5.1) (a + 6) 4 x4) (a + 6) 5 x5) (a + 6) 6 (hi (wrI (wrI (wrI q5.2 (a + 6) 3 q5.1) (a + 6) 4 x4) (a + 6) 5 x5) (a + 1) 0)) (a + 1) 1)) b1 3)).bind (fun q7 => ((F_X4_value n (wrI q7.2 (a + 6) 8 q7.1) (a + 2) x2 (a + 6)).bind (fun q9 => some (q9.1, q9.2)))))))))))
set_option maxRecDepth 100000 in
set_option maxHeartbeats 4000000 in
theorem s_X0_ask (d : Nat) {n : Nat} {h : Hp} {a : Nat} {b1 : Nat} {x2 : Int32} {x3 : Int32} {x4 : Int32} {x5 : Int32} {q0 : (Int32 × Hp)} (hF : F_X0_ask n h a b1 x2 x3 x4 x5 = some q0) (hG : G h) (hs : IsBd a) (ht1 : Sc b1) : Kc mX0_ask (d + 2) [.ref a, .ref b1, .int x2, .int x3, .int x4, .int x5] h (fun r1 h1 => r1 = some (.int q0.1) ∧ h1 = q0.2 ∧ G q0.2) := by
  obtain ⟨s0, sF, sL, s3, s4, s5, s6, s7⟩ := id hs
  obtain ⟨sf0, sf4⟩ := id sF
  obtain ⟨sl0, sl1, sl2, sl3, sl4, sl5, sl6, sl7⟩ := id sL
  obtain ⟨t10, t11, t12, t13, t14, t15, t16, t17⟩ := id ht1
  obtain ⟨r, h'⟩ := q0
  unfold F_X0_ask at hF
  refine Kc.of [some (.ref a), some (.ref b1), some (.int x2), some (.int x3), some (.int x4), some (.int x5)] ok_X0_ask rfl (Nat.le_of_ble_eq_true rfl) ?_
  refine v_aload_n (i := 0) dX0_ask_0 rfl rfl ?_
  refine g_X0_35 (q := (a + 6)) rfl s0 (by exact ltG hG (by omega)) (by exact rG hG s7) dX0_ask_1 ?_
  refine v_iconst (v := 0) dX0_ask_4 (by decide) ?_
  refine v_aload_n (i := 0) dX0_ask_5 rfl rfl ?_
  refine g_X0_12 (q := (a + 1)) rfl s0 (by exact ltG hG (by omega)) (by exact rG hG s5) dX0_ask_6 ?_
  refine v_iload_n (i := 3) dX0_ask_9 rfl rfl ?_
  obtain ⟨q1, q1_e, hF⟩ := Option.bind_eq_some_iff.mp hF
  refine c_X0_53 rfl sf0 (by exact ltG hG (by omega)) (Nat.le_of_ble_eq_true rfl) dX0_ask_10 (s_X3_leftOf _ q1_e hG (by first | assumption | exact sc_30 | exact sc_34 | exact sc_10 | exact fd_24 | exact fd_4 | exact lw_25 | exact lw_5 | exact bd_23 | exact bd_3 | exact ⟨by first | assumption | rfl, by first | decide | omega⟩)) (fun r1 h1 hq => ?_)
  obtain ⟨rfl, hq, hG⟩ := hq
  replace hq := hq.symm
  subst hq
  show V _ _ _ _ (_ :: _) _ _
  refine v_iastore s3 (by exact ltG hG (by omega)) (ixK 0 (by decide)) dX0_ask_13 ?_
  refine v_aload_n (i := 0) dX0_ask_14 rfl rfl ?_
  refine g_X0_35 (q := (a + 6)) rfl s0 (by exact ltG hG (by omega)) (by exact rG hG s7) dX0_ask_15 ?_
  refine v_iconst (v := 1) dX0_ask_18 (by decide) ?_
  refine v_aload_n (i := 0) dX0_ask_19 rfl rfl ?_
  refine g_X0_12 (q := (a + 1)) rfl s0 (by exact ltG hG (by omega)) (by exact rG hG s5) dX0_ask_20 ?_
  refine v_iload_n (i := 3) dX0_ask_23 rfl rfl ?_
  obtain ⟨q3, q3_e, hF⟩ := Option.bind_eq_some_iff.mp hF
  refine c_X0_57 rfl sf0 (by exact ltG hG (by omega)) (Nat.le_of_ble_eq_true rfl) dX0_ask_24 (s_X3_topOf _ q3_e hG (by first | assumption | exact sc_30 | exact sc_34 | exact sc_10 | exact fd_24 | exact fd_4 | exact lw_25 | exact lw_5 | exact bd_23 | exact bd_3 | exact ⟨by first | assumption | rfl, by first | decide | omega⟩)) (fun r1 h1 hq => ?_)
  obtain ⟨rfl, hq, hG⟩ := hq
  replace hq := hq.symm
  subst hq
  show V _ _ _ _ (_ :: _) _ _
  refine v_iastore s3 (by exact ltG hG (by omega)) (ixK 1 (by decide)) dX0_ask_27 ?_
  refine v_aload_n (i := 0) dX0_ask_28 rfl rfl ?_
  refine g_X0_35 (q := (a + 6)) rfl s0 (by exact ltG hG (by omega)) (by exact rG hG s7) dX0_ask_29 ?_
  refine v_iconst (v := 2) dX0_ask_32 (by decide) ?_
  refine v_aload_n (i := 1) dX0_ask_33 rfl rfl ?_
  refine g_X0_60 rfl t10 (by exact ltG hG (by omega)) dX0_ask_34 ?_
  refine v_iastore s3 (by exact ltG hG (by omega)) (ixK 2 (by decide)) dX0_ask_37 ?_
  refine v_aload_n (i := 0) dX0_ask_38 rfl rfl ?_
  refine g_X0_35 (q := (a + 6)) rfl s0 (by exact ltG hG (by omega)) (by exact rG hG s7) dX0_ask_39 ?_
  refine v_iconst (v := 3) dX0_ask_42 (by decide) ?_
  refine v_aload_n (i := 1) dX0_ask_43 rfl rfl ?_
  refine v_iload_n (i := 3) dX0_ask_44 rfl rfl ?_
  obtain ⟨q5, q5_e, hF⟩ := Option.bind_eq_some_iff.mp hF
  refine c_X0_65 rfl t10 (by exact ltG hG (by omega)) (Nat.le_of_ble_eq_true rfl) dX0_ask_45 (s_X8_beatOf _ q5_e hG (by first | assumption | exact sc_30 | exact sc_34 | exact sc_10 | exact fd_24 | exact fd_4 | exact lw_25 | exact lw_5 | exact bd_23 | exact bd_3 | exact ⟨by first | assumption | rfl, by first | decide | omega⟩)) (fun r1 h1 hq => ?_)
  obtain ⟨rfl, hq, hG⟩ := hq
  replace hq := hq.symm
  subst hq
  show V _ _ _ _ (_ :: _) _ _
  refine v_iastore s3 (by exact ltG hG (by omega)) (ixK 3 (by decide)) dX0_ask_48 ?_
  refine v_aload_n (i := 0) dX0_ask_49 rfl rfl ?_
  refine g_X0_35 (q := (a + 6)) rfl s0 (by exact ltG hG (by omega)) (by exact rG hG s7) dX0_ask_50 ?_
  refine v_iconst (v := 4) dX0_ask_53 (by decide) ?_
  refine v_iload (i := 4) dX0_ask_54 rfl ?_
  refine v_iastore s3 (by exact ltG hG (by omega)) (ixK 4 (by decide)) dX0_ask_56 ?_
  refine v_aload_n (i := 0) dX0_ask_57 rfl rfl ?_
  refine g_X0_35 (q := (a + 6)) rfl s0 (by exact ltG hG (by omega)) (by exact rG hG s7) dX0_ask_58 ?_
  refine v_iconst (v := 5) dX0_ask_61 (by decide) ?_
  refine v_iload (i := 5) dX0_ask_62 rfl ?_
  refine v_iastore s3 (by exact ltG hG (by omega)) (ixK 5 (by decide)) dX0_ask_64 ?_
  refine v_aload_n (i := 0) dX0_ask_65 rfl rfl ?_
  refine g_X0_35 (q := (a + 6)) rfl s0 (by exact ltG hG (by omega)) (by exact rG hG s7) dX0_ask_66 ?_
  refine v_bipush (v := 6) dX0_ask_69 (by decide) ?_
  refine v_aload_n (i := 0) dX0_ask_71 rfl rfl ?_
  refine g_X0_12 (q := (a + 1)) rfl s0 (by exact ltG hG (by omega)) (by exact rG hG s5) dX0_ask_72 ?_
  refine g_X0_68 rfl sf0 (by exact ltG hG (by omega)) dX0_ask_75 ?_
  refine v_iastore s3 (by exact ltG hG (by omega)) (ixK 6 (by decide)) dX0_ask_78 ?_
  refine v_aload_n (i := 0) dX0_ask_79 rfl rfl ?_
  refine g_X0_35 (q := (a + 6)) rfl s0 (by exact ltG hG (by omega)) (by exact rG hG s7) dX0_ask_80 ?_
  refine v_bipush (v := 7) dX0_ask_83 (by decide) ?_
  refine v_aload_n (i := 0) dX0_ask_85 rfl rfl ?_
  refine g_X0_12 (q := (a + 1)) rfl s0 (by exact ltG hG (by omega)) (by exact rG hG s5) dX0_ask_86 ?_
  refine g_X0_71 rfl sf0 (by exact ltG hG (by omega)) dX0_ask_89 ?_
  refine v_iastore s3 (by exact ltG hG (by omega)) (ixK 7 (by decide)) dX0_ask_92 ?_
  refine v_aload_n (i := 0) dX0_ask_93 rfl rfl ?_
  refine g_X0_35 (q := (a + 6)) rfl s0 (by exact ltG hG (by omega)) (by exact rG hG s7) dX0_ask_94 ?_
  refine v_bipush (v := 8) dX0_ask_97 (by decide) ?_
  refine v_aload_n (i := 1) dX0_ask_99 rfl rfl ?_
  refine g_X0_74 rfl t10 (by exact ltG hG (by omega)) dX0_ask_100 ?_
  obtain ⟨q7, q7_e, hF⟩ := Option.bind_eq_some_iff.mp hF
  refine c_X0_77 rfl (Nat.le_of_ble_eq_true rfl) dX0_ask_103 (s_J6_bitCount_0f7a4 _ q7_e hG) (fun r1 h1 hq => ?_)
  obtain ⟨rfl, hq, hG⟩ := hq
  replace hq := hq.symm
  subst hq
  show V _ _ _ _ (_ :: _) _ _
  refine v_iastore s3 (by exact ltG hG (by omega)) (ixK 8 (by decide)) dX0_ask_106 ?_
  refine v_aload_n (i := 0) dX0_ask_107 rfl rfl ?_
  refine g_X0_21 (q := (a + 2)) rfl s0 (by exact ltG hG (by omega)) (by exact rG hG s6) dX0_ask_108 ?_
  refine v_iload_n (i := 2) dX0_ask_111 rfl rfl ?_
  refine v_aload_n (i := 0) dX0_ask_112 rfl rfl ?_
  refine g_X0_35 (q := (a + 6)) rfl s0 (by exact ltG hG (by omega)) (by exact rG hG s7) dX0_ask_113 ?_
  obtain ⟨q9, q9_e, hF⟩ := Option.bind_eq_some_iff.mp hF
  refine c_X0_82 rfl sl0 (by exact ltG hG (by omega)) (Nat.le_of_ble_eq_true rfl) dX0_ask_116 (s_X4_value _ q9_e hG (by first | assumption | exact sc_30 | exact sc_34 | exact sc_10 | exact fd_24 | exact fd_4 | exact lw_25 | exact lw_5 | exact bd_23 | exact bd_3 | exact ⟨by first | assumption | rfl, by first | decide | omega⟩) (by first | assumption | exact sc_30 | exact sc_34 | exact sc_10 | exact fd_24 | exact fd_4 | exact lw_25 | exact lw_5 | exact bd_23 | exact bd_3 | exact ⟨by first | assumption | rfl, by first | decide | omega⟩)) (fun r1 h1 hq => ?_)
  obtain ⟨rfl, hq, hG⟩ := hq
  replace hq := hq.symm
  subst hq
  show V _ _ _ _ (_ :: _) _ _
  refine v_ireturn rfl dX0_ask_119 ?_
  obtain ⟨rfl, rfl⟩ := Prod.mk.inj (Option.some.inj hF)
  exact ⟨rfl, rfl, hG⟩
def F_X0_costOf (n : Nat) (h : Hp) (a : Nat) (b1 : Nat) (x2 : Int32) : Option (Int32 × Hp) := ((F_X0_ask n h a b1 3 x2 0 0).bind (fun q1 => some ((if 0 < (if q1.1 < 99 then q1.1 else 99) then (if q1.1 < 99 then q1.1 else 99) else 0), q1.2)))
set_option maxRecDepth 100000 in
set_option maxHeartbeats 4000000 in
theorem s_X0_costOf (d : Nat) {n : Nat} {h : Hp} {a : Nat} {b1 : Nat} {x2 : Int32} {q0 : (Int32 × Hp)} (hF : F_X0_costOf n h a b1 x2 = some q0) (hG : G h) (hs : IsBd a) (ht1 : Sc b1) : Kc mX0_costOf (d + 3) [.ref a, .ref b1, .int x2] h (fun r1 h1 => r1 = some (.int q0.1) ∧ h1 = q0.2 ∧ G q0.2) := by
  obtain ⟨s0, sF, sL, s3, s4, s5, s6, s7⟩ := id hs
  obtain ⟨sf0, sf4⟩ := id sF
  obtain ⟨sl0, sl1, sl2, sl3, sl4, sl5, sl6, sl7⟩ := id sL
  obtain ⟨t10, t11, t12, t13, t14, t15, t16, t17⟩ := id ht1
  obtain ⟨r, h'⟩ := q0
  unfold F_X0_costOf at hF
  refine Kc.of [some (.ref a), some (.ref b1), some (.int x2)] ok_X0_costOf rfl (Nat.le_of_ble_eq_true rfl) ?_
  refine v_iconst (v := 0) dX0_costOf_0 (by decide) ?_
  refine v_bipush (v := 99) dX0_costOf_1 (by decide) ?_
  refine v_aload_n (i := 0) dX0_costOf_3 rfl rfl ?_
  refine v_aload_n (i := 1) dX0_costOf_4 rfl rfl ?_
  refine v_iconst (v := 3) dX0_costOf_5 (by decide) ?_
  refine v_iload_n (i := 2) dX0_costOf_6 rfl rfl ?_
  refine v_iconst (v := 0) dX0_costOf_7 (by decide) ?_
  refine v_iconst (v := 0) dX0_costOf_8 (by decide) ?_
  obtain ⟨q1, q1_e, hF⟩ := Option.bind_eq_some_iff.mp hF
  refine c_X0_86 rfl s0 (by exact ltG hG (by omega)) (Nat.le_of_ble_eq_true rfl) dX0_costOf_9 (s_X0_ask _ q1_e hG (by first | assumption | exact sc_30 | exact sc_34 | exact sc_10 | exact fd_24 | exact fd_4 | exact lw_25 | exact lw_5 | exact bd_23 | exact bd_3 | exact ⟨by first | assumption | rfl, by first | decide | omega⟩) (by first | assumption | exact sc_30 | exact sc_34 | exact sc_10 | exact fd_24 | exact fd_4 | exact lw_25 | exact lw_5 | exact bd_23 | exact bd_3 | exact ⟨by first | assumption | rfl, by first | decide | omega⟩)) (fun r1 h1 hq => ?_)
  obtain ⟨rfl, hq, hG⟩ := hq
  replace hq := hq.symm
  subst hq
  show V _ _ _ _ (_ :: _) _ _
  refine v_min ml_X0_90 sm_J9_min_7cf53 in_J9 cw_J9_min_7cf53 (Nat.le_of_ble_eq_true rfl) dX0_costOf_12 ?_
  refine v_max ml_X0_96 sm_J9_max_7cf53 in_J9 cw_J9_max_7cf53 (Nat.le_of_ble_eq_true rfl) dX0_costOf_15 ?_
  refine v_ireturn rfl dX0_costOf_18 ?_
  obtain ⟨rfl, rfl⟩ := Prod.mk.inj (Option.some.inj hF)
  exact ⟨rfl, rfl, hG⟩
def F_X0_isWet (n : Nat) (h : Hp) (a : Nat) (x1 : Int32) (x2 : Int32) (x3 : Int32) : Option (Int32 × Hp) := ((F_X0_lot n h 100 x3 ((32 * x1) + x2)).bind (fun q1 => (if ((hi q1.2 a 3) : Int32) ≤ (q1.1 : Int32) then some (0, q1.2) else some (1, q1.2))))
set_option maxRecDepth 100000 in
set_option maxHeartbeats 4000000 in
theorem s_X0_isWet (d : Nat) {n : Nat} {h : Hp} {a : Nat} {x1 : Int32} {x2 : Int32} {x3 : Int32} {q0 : (Int32 × Hp)} (hF : F_X0_isWet n h a x1 x2 x3 = some q0) (hG : G h) (hs : IsBd a) : Kc mX0_isWet (d + 2) [.ref a, .int x1, .int x2, .int x3] h (fun r1 h1 => r1 = some (.int q0.1) ∧ h1 = q0.2 ∧ G q0.2) := by
  obtain ⟨s0, sF, sL, s3, s4, s5, s6, s7⟩ := id hs
  obtain ⟨sf0, sf4⟩ := id sF
  obtain ⟨sl0, sl1, sl2, sl3, sl4, sl5, sl6, sl7⟩ := id sL
  obtain ⟨r, h'⟩ := q0
  unfold F_X0_isWet at hF
  refine Kc.of [some (.ref a), some (.int x1), some (.int x2), some (.int x3)] ok_X0_isWet rfl (Nat.le_of_ble_eq_true rfl) ?_
  refine v_bipush (v := 100) dX0_isWet_0 (by decide) ?_
  refine v_iload_n (i := 3) dX0_isWet_2 rfl rfl ?_
  refine v_bipush (v := 32) dX0_isWet_3 (by decide) ?_
  refine v_iload_n (i := 1) dX0_isWet_5 rfl rfl ?_
  refine v_imul dX0_isWet_6 ?_
  refine v_iload_n (i := 2) dX0_isWet_7 rfl rfl ?_
  refine v_iadd dX0_isWet_8 ?_
  obtain ⟨q1, q1_e, hF⟩ := Option.bind_eq_some_iff.mp hF
  refine c_X0_149 rfl (Nat.le_of_ble_eq_true rfl) dX0_isWet_9 (s_X0_lot _ q1_e hG) (fun r1 h1 hq => ?_)
  obtain ⟨rfl, hq, hG⟩ := hq
  replace hq := hq.symm
  subst hq
  show V _ _ _ _ (_ :: _) _ _
  refine v_aload_n (i := 0) dX0_isWet_12 rfl rfl ?_
  refine g_X0_29 rfl s0 (by exact ltG hG (by omega)) dX0_isWet_13 ?_
  refine v_icmp_ge 23 dX0_isWet_16 (by decide) (fun c3 => ?_) (fun c3 => ?_)
  · rw [if_pos c3] at hF
    refine v_iconst (v := 0) dX0_isWet_23 (by decide) ?_
    refine v_zreturn rfl (by decide) dX0_isWet_24 ?_
    obtain ⟨rfl, rfl⟩ := Prod.mk.inj (Option.some.inj hF)
    exact ⟨rfl, rfl, hG⟩
  · rw [if_neg c3] at hF
    refine v_iconst (v := 1) dX0_isWet_19 (by decide) ?_
    refine v_goto 24 dX0_isWet_20 (by decide) ?_
    refine v_zreturn rfl (by decide) dX0_isWet_24 ?_
    obtain ⟨rfl, rfl⟩ := Prod.mk.inj (Option.some.inj hF)
    exact ⟨rfl, rfl, hG⟩
def W_X0_spread : Nat → Nat → Hp → Nat → Nat → Int32 → Int32 → Int32 → Int32 → Int32 → Option Hp
  | 0 => fun _ _ _ _ _ _ _ _ _ => none
  | n + 1 => fun hd h a b1 l2 l3 l4 l5 l6 => (if hd = 30 then (if (25 : Int32) ≤ (l6 : Int32) then W_X0_spread n 112 h a b1 l2 l3 l4 l5 0 else (if (l5 : Int32) = 0 then W_X0_spread n 112 h a b1 l2 l3 l4 l5 0 else (if (l3 : Int32) ≤ 0 then W_X0_spread n 112 h a b1 l2 l3 l4 l5 0 else ((F_X11_lowest n h l5).bind (fun q4 => ((F_X0_isWet n q4.2 a (hi q4.2 b1 0) q4.1 l2).bind (fun q6 => (if (q6.1 : Int32) = 0 then W_X0_spread n 30 q6.2 a b1 l2 l3 l4 ((l5 : Int32) &&& ((l5 - 1) : Int32)) (l6 + 1) else ((F_X0_ask n q6.2 a b1 2 q4.1 0 0).bind (fun q9 => (if (q9.1 : Int32) ≤ 0 then W_X0_spread n 30 q9.2 a b1 l2 l3 l4 ((l5 : Int32) &&& ((l5 - 1) : Int32)) (l6 + 1) else W_X0_spread n 30 q9.2 a b1 l2 (l3 + (-1)) ((l4 : Int32) ||| (((1 : Int32) <<< (((q4.1 + 1) : Int32) &&& 31)) : Int32)) ((l5 : Int32) &&& ((l5 - 1) : Int32)) (l6 + 1)))))))))))) else (if hd = 112 then (if (25 : Int32) ≤ (l6 : Int32) then some h else (if (l4 : Int32) = 0 then some h else ((F_X11_lowest n h l4).bind (fun q14 => ((F_X8_soundFromTheLeft n q14.2 b1 q14.1).bind (fun q16 => W_X0_spread n 112 q16 a b1 l2 l3 ((l4 : Int32) &&& ((l4 - 1) : Int32)) l5 (l6 + 1))))))) else none))
set_option maxRecDepth 100000 in
set_option maxHeartbeats 4000000 in
theorem sw_X0_spread (d : Nat) (a : Nat) (b1 : Nat) (hs : IsBd a) (ht1 : Sc b1) (n : Nat) : (∀ (l2 : Int32) (l3 : Int32) (l4 : Int32) (l5 : Int32) (l6 : Int32) (h : Hp), ∀ (h' : Hp), W_X0_spread n 30 h a b1 l2 l3 l4 l5 l6 = some h' → G h → V mX0_spread (d + 3) 30 [some (.ref a), some (.ref b1), some (.int l2), some (.int l3), some (.int l4), some (.int l5), some (.int l6), none] [] h (fun r1 h1 => r1 = none ∧ h1 = h' ∧ G h')) ∧ (∀ (l2 : Int32) (l3 : Int32) (l4 : Int32) (l5 : Int32) (l6 : Int32) (h : Hp), ∀ (h' : Hp), W_X0_spread n 112 h a b1 l2 l3 l4 l5 l6 = some h' → G h → V mX0_spread (d + 3) 112 [some (.ref a), some (.ref b1), some (.int l2), some (.int l3), some (.int l4), some (.int l5), some (.int l6), none] [] h (fun r1 h1 => r1 = none ∧ h1 = h' ∧ G h')) := by
  obtain ⟨s0, sF, sL, s3, s4, s5, s6, s7⟩ := id hs
  obtain ⟨sf0, sf4⟩ := id sF
  obtain ⟨sl0, sl1, sl2, sl3, sl4, sl5, sl6, sl7⟩ := id sL
  obtain ⟨t10, t11, t12, t13, t14, t15, t16, t17⟩ := id ht1
  induction n with
  | zero => exact ⟨by intros; contradiction, by intros; contradiction⟩
  | succ n ih =>
    obtain ⟨s_X0_spread_IH_30, s_X0_spread_IH_112⟩ := ih
    refine ⟨?_, ?_⟩
    · intro l2 l3 l4 l5 l6 h h' hF hG
      unfold W_X0_spread at hF
      rw [if_pos rfl] at hF
      refine v_iload (i := 6) dX0_spread_30 rfl ?_
      refine v_bipush (v := 25) dX0_spread_32 (by decide) ?_
      refine v_icmp_ge 109 dX0_spread_34 (by decide) (fun c1 => ?_) (fun c1 => ?_)
      · rw [if_pos c1] at hF
        refine v_iconst (v := 0) dX0_spread_109 (by decide) ?_
        refine v_istore (i := 6) dX0_spread_110 (by decide) (nlT rfl) ?_
        simp only [List.set_cons_zero, List.set_cons_succ]
        refine V.weak (la2 := [some (.ref a), some (.ref b1), some (.int l2), some (.int l3), some (.int l4), some (.int l5), some (.int 0), none]) (by simp [wk]) ?_
        exact (s_X0_spread_IH_112) _ _ _ _ _ _ _ hF hG
      · rw [if_neg c1] at hF
        refine v_iload (i := 5) dX0_spread_37 rfl ?_
        refine v_if_eq 109 dX0_spread_39 (by decide) (fun c2 => ?_) (fun c2 => ?_)
        · rw [if_pos c2] at hF
          refine v_iconst (v := 0) dX0_spread_109 (by decide) ?_
          refine v_istore (i := 6) dX0_spread_110 (by decide) (nlT rfl) ?_
          simp only [List.set_cons_zero, List.set_cons_succ]
          refine V.weak (la2 := [some (.ref a), some (.ref b1), some (.int l2), some (.int l3), some (.int l4), some (.int l5), some (.int 0), none]) (by simp [wk]) ?_
          exact (s_X0_spread_IH_112) _ _ _ _ _ _ _ hF hG
        · rw [if_neg c2] at hF
          refine v_iload_n (i := 3) dX0_spread_42 rfl rfl ?_
          refine v_if_le 109 dX0_spread_43 (by decide) (fun c3 => ?_) (fun c3 => ?_)
          · rw [if_pos c3] at hF
            refine v_iconst (v := 0) dX0_spread_109 (by decide) ?_
            refine v_istore (i := 6) dX0_spread_110 (by decide) (nlT rfl) ?_
            simp only [List.set_cons_zero, List.set_cons_succ]
            refine V.weak (la2 := [some (.ref a), some (.ref b1), some (.int l2), some (.int l3), some (.int l4), some (.int l5), some (.int 0), none]) (by simp [wk]) ?_
            exact (s_X0_spread_IH_112) _ _ _ _ _ _ _ hF hG
          · rw [if_neg c3] at hF
            refine v_iload (i := 5) dX0_spread_46 rfl ?_
            obtain ⟨q4, q4_e, hF⟩ := Option.bind_eq_some_iff.mp hF
            refine c_X0_138 rfl (Nat.le_of_ble_eq_true rfl) dX0_spread_48 (s_X11_lowest _ q4_e hG) (fun r1 h1 hq => ?_)
            obtain ⟨rfl, hq, hG⟩ := hq
            replace hq := hq.symm
            subst hq
            show V _ _ _ _ (_ :: _) _ _
            refine v_istore (i := 7) dX0_spread_51 (by decide) (nlT rfl) ?_
            simp only [List.set_cons_zero, List.set_cons_succ]
            refine v_aload_n (i := 0) dX0_spread_53 rfl rfl ?_
            refine v_aload_n (i := 1) dX0_spread_54 rfl rfl ?_
            refine g_X0_60 rfl t10 (by exact ltG hG (by omega)) dX0_spread_55 ?_
            refine v_iload (i := 7) dX0_spread_58 rfl ?_
            refine v_iload_n (i := 2) dX0_spread_60 rfl rfl ?_
            obtain ⟨q6, q6_e, hF⟩ := Option.bind_eq_some_iff.mp hF
            refine c_X0_141 rfl s0 (by exact ltG hG (by omega)) (Nat.le_of_ble_eq_true rfl) dX0_spread_61 (s_X0_isWet _ q6_e hG (by first | assumption | exact sc_30 | exact sc_34 | exact sc_10 | exact fd_24 | exact fd_4 | exact lw_25 | exact lw_5 | exact bd_23 | exact bd_3 | exact ⟨by first | assumption | rfl, by first | decide | omega⟩)) (fun r1 h1 hq => ?_)
            obtain ⟨rfl, hq, hG⟩ := hq
            replace hq := hq.symm
            subst hq
            show V _ _ _ _ (_ :: _) _ _
            refine v_if_eq 94 dX0_spread_64 (by decide) (fun c8 => ?_) (fun c8 => ?_)
            · rw [if_pos c8] at hF
              refine v_iinc (i := 6) (v := (l6 + 1)) dX0_spread_94 rfl rfl (by decide) (nlT rfl) ?_
              simp only [List.set_cons_zero, List.set_cons_succ]
              refine v_iload (i := 5) dX0_spread_97 rfl ?_
              refine v_iload (i := 5) dX0_spread_99 rfl ?_
              refine v_iconst (v := 1) dX0_spread_101 (by decide) ?_
              refine v_isub dX0_spread_102 ?_
              refine v_iand dX0_spread_103 ?_
              refine v_istore (i := 5) dX0_spread_104 (by decide) (nlT rfl) ?_
              simp only [List.set_cons_zero, List.set_cons_succ]
              refine v_goto 30 dX0_spread_106 (by decide) ?_
              refine V.weak (la2 := [some (.ref a), some (.ref b1), some (.int l2), some (.int l3), some (.int l4), some (.int ((l5 : Int32) &&& ((l5 - 1) : Int32))), some (.int (l6 + 1)), none]) (by simp [wk]) ?_
              exact (s_X0_spread_IH_30) _ _ _ _ _ _ _ hF hG
            · rw [if_neg c8] at hF
              refine v_aload_n (i := 0) dX0_spread_67 rfl rfl ?_
              refine v_aload_n (i := 1) dX0_spread_68 rfl rfl ?_
              refine v_iconst (v := 2) dX0_spread_69 (by decide) ?_
              refine v_iload (i := 7) dX0_spread_70 rfl ?_
              refine v_iconst (v := 0) dX0_spread_72 (by decide) ?_
              refine v_iconst (v := 0) dX0_spread_73 (by decide) ?_
              obtain ⟨q9, q9_e, hF⟩ := Option.bind_eq_some_iff.mp hF
              refine c_X0_86 rfl s0 (by exact ltG hG (by omega)) (Nat.le_of_ble_eq_true rfl) dX0_spread_74 (s_X0_ask _ q9_e hG (by first | assumption | exact sc_30 | exact sc_34 | exact sc_10 | exact fd_24 | exact fd_4 | exact lw_25 | exact lw_5 | exact bd_23 | exact bd_3 | exact ⟨by first | assumption | rfl, by first | decide | omega⟩) (by first | assumption | exact sc_30 | exact sc_34 | exact sc_10 | exact fd_24 | exact fd_4 | exact lw_25 | exact lw_5 | exact bd_23 | exact bd_3 | exact ⟨by first | assumption | rfl, by first | decide | omega⟩)) (fun r1 h1 hq => ?_)
              obtain ⟨rfl, hq, hG⟩ := hq
              replace hq := hq.symm
              subst hq
              show V _ _ _ _ (_ :: _) _ _
              refine v_if_le 94 dX0_spread_77 (by decide) (fun c11 => ?_) (fun c11 => ?_)
              · rw [if_pos c11] at hF
                refine v_iinc (i := 6) (v := (l6 + 1)) dX0_spread_94 rfl rfl (by decide) (nlT rfl) ?_
                simp only [List.set_cons_zero, List.set_cons_succ]
                refine v_iload (i := 5) dX0_spread_97 rfl ?_
                refine v_iload (i := 5) dX0_spread_99 rfl ?_
                refine v_iconst (v := 1) dX0_spread_101 (by decide) ?_
                refine v_isub dX0_spread_102 ?_
                refine v_iand dX0_spread_103 ?_
                refine v_istore (i := 5) dX0_spread_104 (by decide) (nlT rfl) ?_
                simp only [List.set_cons_zero, List.set_cons_succ]
                refine v_goto 30 dX0_spread_106 (by decide) ?_
                refine V.weak (la2 := [some (.ref a), some (.ref b1), some (.int l2), some (.int l3), some (.int l4), some (.int ((l5 : Int32) &&& ((l5 - 1) : Int32))), some (.int (l6 + 1)), none]) (by simp [wk]) ?_
                exact (s_X0_spread_IH_30) _ _ _ _ _ _ _ hF hG
              · rw [if_neg c11] at hF
                refine v_iload (i := 4) dX0_spread_80 rfl ?_
                refine v_iconst (v := 1) dX0_spread_82 (by decide) ?_
                refine v_iload (i := 7) dX0_spread_83 rfl ?_
                refine v_iconst (v := 1) dX0_spread_85 (by decide) ?_
                refine v_iadd dX0_spread_86 ?_
                refine v_ishl dX0_spread_87 ?_
                refine v_ior dX0_spread_88 ?_
                refine v_istore (i := 4) dX0_spread_89 (by decide) (nlT rfl) ?_
                simp only [List.set_cons_zero, List.set_cons_succ]
                refine v_iinc (i := 3) (v := (l3 + (-1))) dX0_spread_91 rfl rfl (by decide) (nlT rfl) ?_
                simp only [List.set_cons_zero, List.set_cons_succ]
                refine v_iinc (i := 6) (v := (l6 + 1)) dX0_spread_94 rfl rfl (by decide) (nlT rfl) ?_
                simp only [List.set_cons_zero, List.set_cons_succ]
                refine v_iload (i := 5) dX0_spread_97 rfl ?_
                refine v_iload (i := 5) dX0_spread_99 rfl ?_
                refine v_iconst (v := 1) dX0_spread_101 (by decide) ?_
                refine v_isub dX0_spread_102 ?_
                refine v_iand dX0_spread_103 ?_
                refine v_istore (i := 5) dX0_spread_104 (by decide) (nlT rfl) ?_
                simp only [List.set_cons_zero, List.set_cons_succ]
                refine v_goto 30 dX0_spread_106 (by decide) ?_
                refine V.weak (la2 := [some (.ref a), some (.ref b1), some (.int l2), some (.int (l3 + (-1))), some (.int ((l4 : Int32) ||| (((1 : Int32) <<< (((q4.1 + 1) : Int32) &&& 31)) : Int32))), some (.int ((l5 : Int32) &&& ((l5 - 1) : Int32))), some (.int (l6 + 1)), none]) (by simp [wk]) ?_
                exact (s_X0_spread_IH_30) _ _ _ _ _ _ _ hF hG
    · intro l2 l3 l4 l5 l6 h h' hF hG
      unfold W_X0_spread at hF
      rw [if_neg (by decide)] at hF
      rw [if_pos rfl] at hF
      refine v_iload (i := 6) dX0_spread_112 rfl ?_
      refine v_bipush (v := 25) dX0_spread_114 (by decide) ?_
      refine v_icmp_ge 148 dX0_spread_116 (by decide) (fun c12 => ?_) (fun c12 => ?_)
      · rw [if_pos c12] at hF
        refine v_return rfl dX0_spread_148 ?_
        obtain rfl := Option.some.inj hF
        exact ⟨rfl, rfl, hG⟩
      · rw [if_neg c12] at hF
        refine v_iload (i := 4) dX0_spread_119 rfl ?_
        refine v_if_eq 148 dX0_spread_121 (by decide) (fun c13 => ?_) (fun c13 => ?_)
        · rw [if_pos c13] at hF
          refine v_return rfl dX0_spread_148 ?_
          obtain rfl := Option.some.inj hF
          exact ⟨rfl, rfl, hG⟩
        · rw [if_neg c13] at hF
          refine v_aload_n (i := 1) dX0_spread_124 rfl rfl ?_
          refine v_iload (i := 4) dX0_spread_125 rfl ?_
          obtain ⟨q14, q14_e, hF⟩ := Option.bind_eq_some_iff.mp hF
          refine c_X0_138 rfl (Nat.le_of_ble_eq_true rfl) dX0_spread_127 (s_X11_lowest _ q14_e hG) (fun r1 h1 hq => ?_)
          obtain ⟨rfl, hq, hG⟩ := hq
          replace hq := hq.symm
          subst hq
          show V _ _ _ _ (_ :: _) _ _
          obtain ⟨q16, q16_e, hF⟩ := Option.bind_eq_some_iff.mp hF
          refine c_X0_145 rfl t10 (by exact ltG hG (by omega)) (Nat.le_of_ble_eq_true rfl) dX0_spread_130 (s_X8_soundFromTheLeft _ q16_e hG (by first | assumption | exact sc_30 | exact sc_34 | exact sc_10 | exact fd_24 | exact fd_4 | exact lw_25 | exact lw_5 | exact bd_23 | exact bd_3 | exact ⟨by first | assumption | rfl, by first | decide | omega⟩)) (fun r1 h1 hq => ?_)
          obtain ⟨rfl, hq, hG⟩ := hq
          replace hq := hq.symm
          subst hq
          simp only [Option.toList, List.nil_append]
          refine v_iinc (i := 6) (v := (l6 + 1)) dX0_spread_133 rfl rfl (by decide) (nlT rfl) ?_
          simp only [List.set_cons_zero, List.set_cons_succ]
          refine v_iload (i := 4) dX0_spread_136 rfl ?_
          refine v_iload (i := 4) dX0_spread_138 rfl ?_
          refine v_iconst (v := 1) dX0_spread_140 (by decide) ?_
          refine v_isub dX0_spread_141 ?_
          refine v_iand dX0_spread_142 ?_
          refine v_istore (i := 4) dX0_spread_143 (by decide) (nlT rfl) ?_
          simp only [List.set_cons_zero, List.set_cons_succ]
          refine v_goto 112 dX0_spread_145 (by decide) ?_
          refine V.weak (la2 := [some (.ref a), some (.ref b1), some (.int l2), some (.int l3), some (.int ((l4 : Int32) &&& ((l4 - 1) : Int32))), some (.int l5), some (.int (l6 + 1)), none]) (by simp [wk]) ?_
          exact (s_X0_spread_IH_112) _ _ _ _ _ _ _ hF hG
def F_X0_spread (n : Nat) (h : Hp) (a : Nat) (b1 : Nat) (x2 : Int32) : Option Hp := ((F_J6_bitCount_0f7a4 n h (hi h b1 3)).bind (fun q18 => ((F_X3_quietOnTheRight n q18.2 (a + 1) (hi q18.2 b1 3)).bind (fun q20 => W_X0_spread n 30 q20.2 a b1 x2 (8 - q18.1) 0 q20.1 0))))
set_option maxRecDepth 100000 in
set_option maxHeartbeats 4000000 in
theorem s_X0_spread (d : Nat) {n : Nat} {h : Hp} {a : Nat} {b1 : Nat} {x2 : Int32} {q0 : Hp} (hF : F_X0_spread n h a b1 x2 = some q0) (hG : G h) (hs : IsBd a) (ht1 : Sc b1) : Kc mX0_spread (d + 3) [.ref a, .ref b1, .int x2] h (fun r1 h1 => r1 = none ∧ h1 = q0 ∧ G q0) := by
  obtain ⟨s0, sF, sL, s3, s4, s5, s6, s7⟩ := id hs
  obtain ⟨sf0, sf4⟩ := id sF
  obtain ⟨sl0, sl1, sl2, sl3, sl4, sl5, sl6, sl7⟩ := id sL
  obtain ⟨t10, t11, t12, t13, t14, t15, t16, t17⟩ := id ht1
  obtain ⟨h', rfl⟩ : ∃ z, z = q0 := ⟨_, rfl⟩
  obtain ⟨s_X0_spread_IH_30, s_X0_spread_IH_112⟩ := sw_X0_spread d a b1 hs ht1 n
  unfold F_X0_spread at hF
  refine Kc.of [some (.ref a), some (.ref b1), some (.int x2), none, none, none, none, none] ok_X0_spread rfl (Nat.le_of_ble_eq_true rfl) ?_
  refine v_bipush (v := 8) dX0_spread_0 (by decide) ?_
  refine v_aload_n (i := 1) dX0_spread_2 rfl rfl ?_
  refine g_X0_74 rfl t10 (by exact ltG hG (by omega)) dX0_spread_3 ?_
  obtain ⟨q18, q18_e, hF⟩ := Option.bind_eq_some_iff.mp hF
  refine c_X0_77 rfl (Nat.le_of_ble_eq_true rfl) dX0_spread_6 (s_J6_bitCount_0f7a4 _ q18_e hG) (fun r1 h1 hq => ?_)
  obtain ⟨rfl, hq, hG⟩ := hq
  replace hq := hq.symm
  subst hq
  show V _ _ _ _ (_ :: _) _ _
  refine v_isub dX0_spread_9 ?_
  refine v_istore_n (i := 3) dX0_spread_10 rfl (by decide) (nlT rfl) ?_
  simp only [List.set_cons_zero, List.set_cons_succ]
  refine v_iconst (v := 0) dX0_spread_11 (by decide) ?_
  refine v_istore (i := 4) dX0_spread_12 (by decide) (nlT rfl) ?_
  simp only [List.set_cons_zero, List.set_cons_succ]
  refine v_aload_n (i := 0) dX0_spread_14 rfl rfl ?_
  refine g_X0_12 (q := (a + 1)) rfl s0 (by exact ltG hG (by omega)) (by exact rG hG s5) dX0_spread_15 ?_
  refine v_aload_n (i := 1) dX0_spread_18 rfl rfl ?_
  refine g_X0_74 rfl t10 (by exact ltG hG (by omega)) dX0_spread_19 ?_
  obtain ⟨q20, q20_e, hF⟩ := Option.bind_eq_some_iff.mp hF
  refine c_X0_135 rfl sf0 (by exact ltG hG (by omega)) (Nat.le_of_ble_eq_true rfl) dX0_spread_22 (s_X3_quietOnTheRight _ q20_e hG (by first | assumption | exact sc_30 | exact sc_34 | exact sc_10 | exact fd_24 | exact fd_4 | exact lw_25 | exact lw_5 | exact bd_23 | exact bd_3 | exact ⟨by first | assumption | rfl, by first | decide | omega⟩)) (fun r1 h1 hq => ?_)
  obtain ⟨rfl, hq, hG⟩ := hq
  replace hq := hq.symm
  subst hq
  show V _ _ _ _ (_ :: _) _ _
  refine v_istore (i := 5) dX0_spread_25 (by decide) (nlT rfl) ?_
  simp only [List.set_cons_zero, List.set_cons_succ]
  refine v_iconst (v := 0) dX0_spread_27 (by decide) ?_
  refine v_istore (i := 6) dX0_spread_28 (by decide) (nlT rfl) ?_
  simp only [List.set_cons_zero, List.set_cons_succ]
  refine V.weak (la2 := [some (.ref a), some (.ref b1), some (.int x2), some (.int (8 - q18.1)), some (.int 0), some (.int q20.1), some (.int 0), none]) (by simp [wk]) ?_
  exact (s_X0_spread_IH_30) _ _ _ _ _ _ _ hF hG
def F_X0_whereTo (n : Nat) (h : Hp) (a : Nat) (b1 : Nat) (x2 : Int32) (x3 : Int32) : Option (Int32 × Hp) := ((F_X0_hasGoer n h a x3).bind (fun q1 => (if (q1.1 : Int32) = 0 then some ((-1), q1.2) else (if ixOK x3 5 = true then (if ixOK x3 5 = true then ((F_X0_ask n q1.2 a b1 x2 (hi q1.2 (b1 + 2) (Int32.toNatClampNeg x3)) (hi q1.2 (b1 + 3) (Int32.toNatClampNeg x3)) x3).bind (fun q6 => ((F_X3_beside n q6.2 (a + 1) (hi q1.2 (b1 + 2) (Int32.toNatClampNeg x3)) ((if 0 < q6.1 then q6.1 else 0) - (if 0 < q6.1 then q6.1 else 0) / 5 * 5)).bind (fun q8 => ((F_X8_isRoped n q8.2 b1 q8.1).bind (fun q10 => (if (q10.1 : Int32) = 0 then some (q8.1, q10.2) else some ((hi q1.2 (b1 + 2) (Int32.toNatClampNeg x3)), q10.2)))))))) else none) else none))))
set_option maxRecDepth 100000 in
set_option maxHeartbeats 4000000 in
theorem s_X0_whereTo (d : Nat) {n : Nat} {h : Hp} {a : Nat} {b1 : Nat} {x2 : Int32} {x3 : Int32} {q0 : (Int32 × Hp)} (hF : F_X0_whereTo n h a b1 x2 x3 = some q0) (hG : G h) (hs : IsBd a) (ht1 : Sc b1) : Kc mX0_whereTo (d + 3) [.ref a, .ref b1, .int x2, .int x3] h (fun r1 h1 => r1 = some (.int q0.1) ∧ h1 = q0.2 ∧ G q0.2) := by
  obtain ⟨s0, sF, sL, s3, s4, s5, s6, s7⟩ := id hs
  obtain ⟨sf0, sf4⟩ := id sF
  obtain ⟨sl0, sl1, sl2, sl3, sl4, sl5, sl6, sl7⟩ := id sL
  obtain ⟨t10, t11, t12, t13, t14, t15, t16, t17⟩ := id ht1
  obtain ⟨r, h'⟩ := q0
  unfold F_X0_whereTo at hF
  refine Kc.of [some (.ref a), some (.ref b1), some (.int x2), some (.int x3), none, none, none] ok_X0_whereTo rfl (Nat.le_of_ble_eq_true rfl) ?_
  refine v_aload_n (i := 0) dX0_whereTo_0 rfl rfl ?_
  refine v_iload_n (i := 3) dX0_whereTo_1 rfl rfl ?_
  obtain ⟨q1, q1_e, hF⟩ := Option.bind_eq_some_iff.mp hF
  refine c_X0_99 rfl s0 (by exact ltG hG (by omega)) (Nat.le_of_ble_eq_true rfl) dX0_whereTo_2 (s_X0_hasGoer _ q1_e hG (by first | assumption | exact sc_30 | exact sc_34 | exact sc_10 | exact fd_24 | exact fd_4 | exact lw_25 | exact lw_5 | exact bd_23 | exact bd_3 | exact ⟨by first | assumption | rfl, by first | decide | omega⟩)) (fun r1 h1 hq => ?_)
  obtain ⟨rfl, hq, hG⟩ := hq
  replace hq := hq.symm
  subst hq
  show V _ _ _ _ (_ :: _) _ _
  refine v_if_ne 10 dX0_whereTo_5 (by decide) (fun c3 => ?_) (fun c3 => ?_)
  · rw [if_neg c3] at hF
    refine v_aload_n (i := 1) dX0_whereTo_10 rfl rfl ?_
    refine g_X0_103 (q := (b1 + 2)) rfl t10 (by exact ltG hG (by omega)) (by exact rG hG t16) dX0_whereTo_11 ?_
    refine v_iload_n (i := 3) dX0_whereTo_14 rfl rfl ?_
    obtain ⟨k4, hF⟩ := ck_some hF
    refine v_iaload t12 (by exact ltG hG (by omega)) (ixO k4) dX0_whereTo_15 ?_
    refine v_istore (i := 4) dX0_whereTo_16 (by decide) (nlT rfl) ?_
    simp only [List.set_cons_zero, List.set_cons_succ]
    refine v_iconst (v := 0) dX0_whereTo_18 (by decide) ?_
    refine v_aload_n (i := 0) dX0_whereTo_19 rfl rfl ?_
    refine v_aload_n (i := 1) dX0_whereTo_20 rfl rfl ?_
    refine v_iload_n (i := 2) dX0_whereTo_21 rfl rfl ?_
    refine v_iload (i := 4) dX0_whereTo_22 rfl ?_
    refine v_aload_n (i := 1) dX0_whereTo_24 rfl rfl ?_
    refine g_X0_106 (q := (b1 + 3)) rfl t10 (by exact ltG hG (by omega)) (by exact rG hG t17) dX0_whereTo_25 ?_
    refine v_iload_n (i := 3) dX0_whereTo_28 rfl rfl ?_
    obtain ⟨k5, hF⟩ := ck_some hF
    refine v_iaload t13 (by exact ltG hG (by omega)) (ixO k5) dX0_whereTo_29 ?_
    refine v_iload_n (i := 3) dX0_whereTo_30 rfl rfl ?_
    obtain ⟨q6, q6_e, hF⟩ := Option.bind_eq_some_iff.mp hF
    refine c_X0_86 rfl s0 (by exact ltG hG (by omega)) (Nat.le_of_ble_eq_true rfl) dX0_whereTo_31 (s_X0_ask _ q6_e hG (by first | assumption | exact sc_30 | exact sc_34 | exact sc_10 | exact fd_24 | exact fd_4 | exact lw_25 | exact lw_5 | exact bd_23 | exact bd_3 | exact ⟨by first | assumption | rfl, by first | decide | omega⟩) (by first | assumption | exact sc_30 | exact sc_34 | exact sc_10 | exact fd_24 | exact fd_4 | exact lw_25 | exact lw_5 | exact bd_23 | exact bd_3 | exact ⟨by first | assumption | rfl, by first | decide | omega⟩)) (fun r1 h1 hq => ?_)
    obtain ⟨rfl, hq, hG⟩ := hq
    replace hq := hq.symm
    subst hq
    show V _ _ _ _ (_ :: _) _ _
    refine v_max ml_X0_96 sm_J9_max_7cf53 in_J9 cw_J9_max_7cf53 (Nat.le_of_ble_eq_true rfl) dX0_whereTo_34 ?_
    refine v_istore (i := 5) dX0_whereTo_37 (by decide) (nlT rfl) ?_
    simp only [List.set_cons_zero, List.set_cons_succ]
    refine v_aload_n (i := 0) dX0_whereTo_39 rfl rfl ?_
    refine g_X0_12 (q := (a + 1)) rfl s0 (by exact ltG hG (by omega)) (by exact rG hG s5) dX0_whereTo_40 ?_
    refine v_iload (i := 4) dX0_whereTo_43 rfl ?_
    refine v_iload (i := 5) dX0_whereTo_45 rfl ?_
    refine v_iconst (v := 5) dX0_whereTo_47 (by decide) ?_
    refine v_irem dX0_whereTo_48 (by decide) ?_
    obtain ⟨q8, q8_e, hF⟩ := Option.bind_eq_some_iff.mp hF
    refine c_X0_109 rfl sf0 (by exact ltG hG (by omega)) (Nat.le_of_ble_eq_true rfl) dX0_whereTo_49 (s_X3_beside _ q8_e hG (by first | assumption | exact sc_30 | exact sc_34 | exact sc_10 | exact fd_24 | exact fd_4 | exact lw_25 | exact lw_5 | exact bd_23 | exact bd_3 | exact ⟨by first | assumption | rfl, by first | decide | omega⟩)) (fun r1 h1 hq => ?_)
    obtain ⟨rfl, hq, hG⟩ := hq
    replace hq := hq.symm
    subst hq
    show V _ _ _ _ (_ :: _) _ _
    refine v_istore (i := 6) dX0_whereTo_52 (by decide) (nlT rfl) ?_
    simp only [List.set_cons_zero, List.set_cons_succ]
    refine v_aload_n (i := 1) dX0_whereTo_54 rfl rfl ?_
    refine v_iload (i := 6) dX0_whereTo_55 rfl ?_
    obtain ⟨q10, q10_e, hF⟩ := Option.bind_eq_some_iff.mp hF
    refine c_X0_112 rfl t10 (by exact ltG hG (by omega)) (Nat.le_of_ble_eq_true rfl) dX0_whereTo_57 (s_X8_isRoped _ q10_e hG (by first | assumption | exact sc_30 | exact sc_34 | exact sc_10 | exact fd_24 | exact fd_4 | exact lw_25 | exact lw_5 | exact bd_23 | exact bd_3 | exact ⟨by first | assumption | rfl, by first | decide | omega⟩)) (fun r1 h1 hq => ?_)
    obtain ⟨rfl, hq, hG⟩ := hq
    replace hq := hq.symm
    subst hq
    show V _ _ _ _ (_ :: _) _ _
    refine v_if_eq 68 dX0_whereTo_60 (by decide) (fun c12 => ?_) (fun c12 => ?_)
    · rw [if_pos c12] at hF
      refine v_iload (i := 6) dX0_whereTo_68 rfl ?_
      refine v_ireturn rfl dX0_whereTo_70 ?_
      obtain ⟨rfl, rfl⟩ := Prod.mk.inj (Option.some.inj hF)
      exact ⟨rfl, rfl, hG⟩
    · rw [if_neg c12] at hF
      refine v_iload (i := 4) dX0_whereTo_63 rfl ?_
      refine v_goto 70 dX0_whereTo_65 (by decide) ?_
      refine v_ireturn rfl dX0_whereTo_70 ?_
      obtain ⟨rfl, rfl⟩ := Prod.mk.inj (Option.some.inj hF)
      exact ⟨rfl, rfl, hG⟩
  · rw [if_pos c3] at hF
    refine v_iconst (v := (-1)) dX0_whereTo_8 (by decide) ?_
    refine v_ireturn rfl dX0_whereTo_9 ?_
    obtain ⟨rfl, rfl⟩ := Prod.mk.inj (Option.some.inj hF)
    exact ⟨rfl, rfl, hG⟩
def W_X10_look : Nat → Nat → Hp → Nat → Int32 → Int32 → Int32 → Int32 → Int32 → Option Hp
  | 0 => fun _ _ _ _ _ _ _ _ => none
  | n + 1 => fun hd h b1 l2 l3 l4 l5 l6 => (if hd = 41 then (if (25 : Int32) ≤ (l2 : Int32) then some h else (if (l3 : Int32) = 0 then some h else ((F_X11_lowest n h l3).bind (fun q3 => ((F_X8_beatOf n q3.2 b1 q3.1).bind (fun q5 => ((F_X8_offsetOf n q5.2 b1 q3.1).bind (fun q7 => W_X10_look n 73 q7.2 b1 l2 l3 q3.1 q5.1 q7.1)))))))) else (if hd = 73 then (if (60 : Int32) ≤ (l6 : Int32) then W_X10_look n 41 h b1 (l2 + 1) ((l3 : Int32) &&& ((l3 - 1) : Int32)) 0 0 0 else (if (l5 : Int32) ≤ 0 then W_X10_look n 41 h b1 (l2 + 1) ((l3 : Int32) &&& ((l3 - 1) : Int32)) 0 0 0 else (if ixOK l6 60 = true then (if ixOK l6 60 = true then W_X10_look n 73 (wrI h 205 (Int32.toNatClampNeg l6) (((hi h 205 (Int32.toNatClampNeg l6)) : Int32) ||| (((1 : Int32) <<< ((l4 : Int32) &&& 31)) : Int32))) b1 l2 l3 l4 l5 (l6 + l5) else none) else none))) else none))
set_option maxRecDepth 100000 in
set_option maxHeartbeats 4000000 in
theorem sw_X10_look (d : Nat) (b1 : Nat) (ht1 : Sc b1) (n : Nat) : (∀ (l2 : Int32) (l3 : Int32) (h : Hp), ∀ (h' : Hp), W_X10_look n 41 h b1 l2 l3 0 0 0 = some h' → G h → V mX10_look (d + 2) 41 [some (.ref 204), some (.ref b1), some (.int l2), some (.int l3), none, none, none] [] h (fun r1 h1 => r1 = none ∧ h1 = h' ∧ G h')) ∧ (∀ (l2 : Int32) (l3 : Int32) (l4 : Int32) (l5 : Int32) (l6 : Int32) (h : Hp), ∀ (h' : Hp), W_X10_look n 73 h b1 l2 l3 l4 l5 l6 = some h' → G h → V mX10_look (d + 2) 73 [some (.ref 204), some (.ref b1), some (.int l2), some (.int l3), some (.int l4), some (.int l5), some (.int l6)] [] h (fun r1 h1 => r1 = none ∧ h1 = h' ∧ G h')) := by
  obtain ⟨t10, t11, t12, t13, t14, t15, t16, t17⟩ := id ht1
  induction n with
  | zero => exact ⟨by intros; contradiction, by intros; contradiction⟩
  | succ n ih =>
    obtain ⟨s_X10_look_IH_41, s_X10_look_IH_73⟩ := ih
    refine ⟨?_, ?_⟩
    · intro l2 l3 h h' hF hG
      unfold W_X10_look at hF
      rw [if_pos rfl] at hF
      refine v_iload_n (i := 2) dX10_look_41 rfl rfl ?_
      refine v_bipush (v := 25) dX10_look_42 (by decide) ?_
      refine v_icmp_ge 121 dX10_look_44 (by decide) (fun c1 => ?_) (fun c1 => ?_)
      · rw [if_pos c1] at hF
        refine v_return rfl dX10_look_121 ?_
        obtain rfl := Option.some.inj hF
        exact ⟨rfl, rfl, hG⟩
      · rw [if_neg c1] at hF
        refine v_iload_n (i := 3) dX10_look_47 rfl rfl ?_
        refine v_if_eq 121 dX10_look_48 (by decide) (fun c2 => ?_) (fun c2 => ?_)
        · rw [if_pos c2] at hF
          refine v_return rfl dX10_look_121 ?_
          obtain rfl := Option.some.inj hF
          exact ⟨rfl, rfl, hG⟩
        · rw [if_neg c2] at hF
          refine v_iload_n (i := 3) dX10_look_51 rfl rfl ?_
          obtain ⟨q3, q3_e, hF⟩ := Option.bind_eq_some_iff.mp hF
          refine c_X10_57 rfl (Nat.le_of_ble_eq_true rfl) dX10_look_52 (s_X11_lowest _ q3_e hG) (fun r1 h1 hq => ?_)
          obtain ⟨rfl, hq, hG⟩ := hq
          replace hq := hq.symm
          subst hq
          show V _ _ _ _ (_ :: _) _ _
          refine v_istore (i := 4) dX10_look_55 (by decide) (nlT rfl) ?_
          simp only [List.set_cons_zero, List.set_cons_succ]
          refine v_aload_n (i := 1) dX10_look_57 rfl rfl ?_
          refine v_iload (i := 4) dX10_look_58 rfl ?_
          obtain ⟨q5, q5_e, hF⟩ := Option.bind_eq_some_iff.mp hF
          refine c_X10_61 rfl t10 (by exact ltG hG (by omega)) (Nat.le_of_ble_eq_true rfl) dX10_look_60 (s_X8_beatOf _ q5_e hG (by first | assumption | exact sc_30 | exact sc_34 | exact sc_10 | exact fd_24 | exact fd_4 | exact lw_25 | exact lw_5 | exact bd_23 | exact bd_3 | exact ⟨by first | assumption | rfl, by first | decide | omega⟩)) (fun r1 h1 hq => ?_)
          obtain ⟨rfl, hq, hG⟩ := hq
          replace hq := hq.symm
          subst hq
          show V _ _ _ _ (_ :: _) _ _
          refine v_istore (i := 5) dX10_look_63 (by decide) (nlT rfl) ?_
          simp only [List.set_cons_zero, List.set_cons_succ]
          refine v_aload_n (i := 1) dX10_look_65 rfl rfl ?_
          refine v_iload (i := 4) dX10_look_66 rfl ?_
          obtain ⟨q7, q7_e, hF⟩ := Option.bind_eq_some_iff.mp hF
          refine c_X10_64 rfl t10 (by exact ltG hG (by omega)) (Nat.le_of_ble_eq_true rfl) dX10_look_68 (s_X8_offsetOf _ q7_e hG (by first | assumption | exact sc_30 | exact sc_34 | exact sc_10 | exact fd_24 | exact fd_4 | exact lw_25 | exact lw_5 | exact bd_23 | exact bd_3 | exact ⟨by first | assumption | rfl, by first | decide | omega⟩)) (fun r1 h1 hq => ?_)
          obtain ⟨rfl, hq, hG⟩ := hq
          replace hq := hq.symm
          subst hq
          show V _ _ _ _ (_ :: _) _ _
          refine v_istore (i := 6) dX10_look_71 (by decide) (nlT rfl) ?_
          simp only [List.set_cons_zero, List.set_cons_succ]
          refine V.weak (la2 := [some (.ref 204), some (.ref b1), some (.int l2), some (.int l3), some (.int q3.1), some (.int q5.1), some (.int q7.1)]) (by simp [wk]) ?_
          exact (s_X10_look_IH_73) _ _ _ _ _ _ _ hF hG
    · intro l2 l3 l4 l5 l6 h h' hF hG
      unfold W_X10_look at hF
      rw [if_neg (by decide)] at hF
      rw [if_pos rfl] at hF
      refine v_iload (i := 6) dX10_look_73 rfl ?_
      refine v_bipush (v := 60) dX10_look_75 (by decide) ?_
      refine v_icmp_ge 109 dX10_look_77 (by decide) (fun c9 => ?_) (fun c9 => ?_)
      · rw [if_pos c9] at hF
        refine v_iinc (i := 2) (v := (l2 + 1)) dX10_look_109 rfl rfl (by decide) (nlT rfl) ?_
        simp only [List.set_cons_zero, List.set_cons_succ]
        refine v_iload_n (i := 3) dX10_look_112 rfl rfl ?_
        refine v_iload_n (i := 3) dX10_look_113 rfl rfl ?_
        refine v_iconst (v := 1) dX10_look_114 (by decide) ?_
        refine v_isub dX10_look_115 ?_
        refine v_iand dX10_look_116 ?_
        refine v_istore_n (i := 3) dX10_look_117 rfl (by decide) (nlT rfl) ?_
        simp only [List.set_cons_zero, List.set_cons_succ]
        refine v_goto 41 dX10_look_118 (by decide) ?_
        refine V.weak (la2 := [some (.ref 204), some (.ref b1), some (.int (l2 + 1)), some (.int ((l3 : Int32) &&& ((l3 - 1) : Int32))), none, none, none]) (by simp [wk]) ?_
        exact (s_X10_look_IH_41) _ _ _ _ hF hG
      · rw [if_neg c9] at hF
        refine v_iload (i := 5) dX10_look_80 rfl ?_
        refine v_if_le 109 dX10_look_82 (by decide) (fun c10 => ?_) (fun c10 => ?_)
        · rw [if_pos c10] at hF
          refine v_iinc (i := 2) (v := (l2 + 1)) dX10_look_109 rfl rfl (by decide) (nlT rfl) ?_
          simp only [List.set_cons_zero, List.set_cons_succ]
          refine v_iload_n (i := 3) dX10_look_112 rfl rfl ?_
          refine v_iload_n (i := 3) dX10_look_113 rfl rfl ?_
          refine v_iconst (v := 1) dX10_look_114 (by decide) ?_
          refine v_isub dX10_look_115 ?_
          refine v_iand dX10_look_116 ?_
          refine v_istore_n (i := 3) dX10_look_117 rfl (by decide) (nlT rfl) ?_
          simp only [List.set_cons_zero, List.set_cons_succ]
          refine v_goto 41 dX10_look_118 (by decide) ?_
          refine V.weak (la2 := [some (.ref 204), some (.ref b1), some (.int (l2 + 1)), some (.int ((l3 : Int32) &&& ((l3 - 1) : Int32))), none, none, none]) (by simp [wk]) ?_
          exact (s_X10_look_IH_41) _ _ _ _ hF hG
        · rw [if_neg c10] at hF
          refine v_aload_n (i := 0) dX10_look_85 rfl rfl ?_
          refine g_X10_9 (q := 205) rfl sh_204 (by exact ltG hG (by decide)) (by exact rG hG r0_204_1) dX10_look_86 ?_
          refine v_iload (i := 6) dX10_look_89 rfl ?_
          refine v_dup2 dX10_look_91 rfl rfl ?_
          obtain ⟨k11, hF⟩ := ck_some hF
          refine v_iaload sh_205 (by exact ltG hG (by decide)) (ixO k11) dX10_look_92 ?_
          refine v_iconst (v := 1) dX10_look_93 (by decide) ?_
          refine v_iload (i := 4) dX10_look_94 rfl ?_
          refine v_ishl dX10_look_96 ?_
          refine v_ior dX10_look_97 ?_
          obtain ⟨k12, hF⟩ := ck_some hF
          refine v_iastore sh_205 (by exact ltG hG (by decide)) (ixO k12) dX10_look_98 ?_
          refine v_iload (i := 6) dX10_look_99 rfl ?_
          refine v_iload (i := 5) dX10_look_101 rfl ?_
          refine v_iadd dX10_look_103 ?_
          refine v_istore (i := 6) dX10_look_104 (by decide) (nlT rfl) ?_
          simp only [List.set_cons_zero, List.set_cons_succ]
          refine v_goto 73 dX10_look_106 (by decide) ?_
          refine V.weak (la2 := [some (.ref 204), some (.ref b1), some (.int l2), some (.int l3), some (.int l4), some (.int l5), some (.int (l6 + l5))]) (by simp [wk]) ?_
          exact (s_X10_look_IH_73) _ _ _ _ _ _ _ hF hG
def F_X10_look (n : Nat) (h : Hp) (b1 : Nat) : Option Hp := ((F_J7_fill_60 n (wrI (wrI h 204 3 (((hi h 24 2) : Int32) &&& ((((hi h b1 2) : Int32) ^^^ ((-1) : Int32)) : Int32))) 204 4 (hi (wrI h 204 3 (((hi h 24 2) : Int32) &&& ((((hi h b1 2) : Int32) ^^^ ((-1) : Int32)) : Int32))) b1 0)) 205 0).bind (fun q13 => W_X10_look n 41 q13 b1 0 (hi q13 b1 3) 0 0 0))
set_option maxRecDepth 100000 in
set_option maxHeartbeats 4000000 in
theorem s_X10_look (d : Nat) {n : Nat} {h : Hp} {b1 : Nat} {q0 : Hp} (hF : F_X10_look n h b1 = some q0) (hG : G h) (ht1 : Sc b1) : Kc mX10_look (d + 2) [.ref 204, .ref b1] h (fun r1 h1 => r1 = none ∧ h1 = q0 ∧ G q0) := by
  obtain ⟨t10, t11, t12, t13, t14, t15, t16, t17⟩ := id ht1
  obtain ⟨h', rfl⟩ : ∃ z, z = q0 := ⟨_, rfl⟩
  obtain ⟨s_X10_look_IH_41, s_X10_look_IH_73⟩ := sw_X10_look d b1 ht1 n
  unfold F_X10_look at hF
  refine Kc.of [some (.ref 204), some (.ref b1), none, none, none, none, none] ok_X10_look rfl (Nat.le_of_ble_eq_true rfl) ?_
  refine v_aload_n (i := 0) dX10_look_0 rfl rfl ?_
  refine v_aload_n (i := 0) dX10_look_1 rfl rfl ?_
  refine g_X10_31 (q := 24) rfl sh_204 (by exact ltG hG (by decide)) (by exact rG hG r0_204_0) dX10_look_2 ?_
  refine g_X10_35 rfl sh_24 (by exact ltG hG (by decide)) dX10_look_5 ?_
  refine v_aload_n (i := 1) dX10_look_8 rfl rfl ?_
  refine g_X10_40 rfl t10 (by exact ltG hG (by omega)) dX10_look_9 ?_
  refine v_iconst (v := (-1)) dX10_look_12 (by decide) ?_
  refine v_ixor dX10_look_13 ?_
  refine v_iand dX10_look_14 ?_
  refine p_X10_18 rfl sh_204 (by exact ltG hG (by decide)) dX10_look_15 ?_
  refine v_aload_n (i := 0) dX10_look_18 rfl rfl ?_
  refine v_aload_n (i := 1) dX10_look_19 rfl rfl ?_
  refine g_X10_45 rfl t10 (by exact ltG hG (by omega)) dX10_look_20 ?_
  refine p_X10_22 rfl sh_204 (by exact ltG hG (by decide)) dX10_look_23 ?_
  refine v_aload_n (i := 0) dX10_look_26 rfl rfl ?_
  refine g_X10_9 (q := 205) rfl sh_204 (by exact ltG hG (by decide)) (by exact rG hG r0_204_1) dX10_look_27 ?_
  refine v_iconst (v := 0) dX10_look_30 (by decide) ?_
  obtain ⟨q13, q13_e, hF⟩ := Option.bind_eq_some_iff.mp hF
  refine c_X10_48 rfl (Nat.le_of_ble_eq_true rfl) dX10_look_31 (s_J7_fill_60 _ q13_e hG (by first | assumption | exact sc_30 | exact sc_34 | exact sc_10 | exact fd_24 | exact fd_4 | exact lw_25 | exact lw_5 | exact bd_23 | exact bd_3 | exact ⟨by first | assumption | rfl, by first | decide | omega⟩)) (fun r1 h1 hq => ?_)
  obtain ⟨rfl, hq, hG⟩ := hq
  replace hq := hq.symm
  subst hq
  simp only [Option.toList, List.nil_append]
  refine v_iconst (v := 0) dX10_look_34 (by decide) ?_
  refine v_istore_n (i := 2) dX10_look_35 rfl (by decide) (nlT rfl) ?_
  simp only [List.set_cons_zero, List.set_cons_succ]
  refine v_aload_n (i := 1) dX10_look_36 rfl rfl ?_
  refine g_X10_54 rfl t10 (by exact ltG hG (by omega)) dX10_look_37 ?_
  refine v_istore_n (i := 3) dX10_look_40 rfl (by decide) (nlT rfl) ?_
  simp only [List.set_cons_zero, List.set_cons_succ]
  refine V.weak (la2 := [some (.ref 204), some (.ref b1), some (.int 0), some (.int (hi q13 b1 3)), none, none, none]) (by simp [wk]) ?_
  exact (s_X10_look_IH_41) _ _ _ _ hF hG
def F_X11_carry (n : Nat) (h : Hp) (x1 : Int32) (x2 : Int32) : Option (Int32 × Hp) := ((F_X0_hasGoer n h 23 x1).bind (fun q1 => (if (q1.1 : Int32) = 0 then some (0, q1.2) else ((F_X3_has n q1.2 24 x2).bind (fun q4 => (if (q4.1 : Int32) = 0 then some (0, q4.2) else (if ixOK x1 5 = true then (if ((hi q4.2 32 (Int32.toNatClampNeg x1)) : Int32) = (x2 : Int32) then some (0, q4.2) else ((F_X8_isRoped n q4.2 30 x2).bind (fun q9 => (if (q9.1 : Int32) = 0 then ((F_X6_keep n q9.2 30).bind (fun q12 => (if ixOK x1 5 = true then some (1, (wrI q12 32 (Int32.toNatClampNeg x1) x2)) else none))) else some (0, q9.2))))) else none)))))))
set_option maxRecDepth 100000 in
set_option maxHeartbeats 4000000 in
theorem s_X11_carry (d : Nat) {n : Nat} {h : Hp} {x1 : Int32} {x2 : Int32} {q0 : (Int32 × Hp)} (hF : F_X11_carry n h x1 x2 = some q0) (hG : G h)  : Kc mX11_carry (d + 3) [.ref 0, .int x1, .int x2] h (fun r1 h1 => r1 = some (.int q0.1) ∧ h1 = q0.2 ∧ G q0.2) := by
  obtain ⟨r, h'⟩ := q0
  unfold F_X11_carry at hF
  refine Kc.of [some (.ref 0), some (.int x1), some (.int x2)] ok_X11_carry rfl (Nat.le_of_ble_eq_true rfl) ?_
  refine v_aload_n (i := 0) dX11_carry_0 rfl rfl ?_
  refine g_X11_32 (q := 23) rfl sh_0 (by exact ltG hG (by decide)) (by exact rG hG r0_0_4) dX11_carry_1 ?_
  refine v_iload_n (i := 1) dX11_carry_4 rfl rfl ?_
  obtain ⟨q1, q1_e, hF⟩ := Option.bind_eq_some_iff.mp hF
  refine c_X11_160 rfl sh_23 (by exact ltG hG (by decide)) (Nat.le_of_ble_eq_true rfl) dX11_carry_5 (s_X0_hasGoer _ q1_e hG (by first | assumption | exact sc_30 | exact sc_34 | exact sc_10 | exact fd_24 | exact fd_4 | exact lw_25 | exact lw_5 | exact bd_23 | exact bd_3 | exact ⟨by first | assumption | rfl, by first | decide | omega⟩)) (fun r1 h1 hq => ?_)
  obtain ⟨rfl, hq, hG⟩ := hq
  replace hq := hq.symm
  subst hq
  show V _ _ _ _ (_ :: _) _ _
  refine v_if_eq 22 dX11_carry_8 (by decide) (fun c3 => ?_) (fun c3 => ?_)
  · rw [if_pos c3] at hF
    refine v_iconst (v := 0) dX11_carry_22 (by decide) ?_
    refine v_zreturn rfl (by decide) dX11_carry_23 ?_
    obtain ⟨rfl, rfl⟩ := Prod.mk.inj (Option.some.inj hF)
    exact ⟨rfl, rfl, hG⟩
  · rw [if_neg c3] at hF
    refine v_aload_n (i := 0) dX11_carry_11 rfl rfl ?_
    refine g_X11_40 (q := 24) rfl sh_0 (by exact ltG hG (by decide)) (by exact rG hG r0_0_5) dX11_carry_12 ?_
    refine v_iload_n (i := 2) dX11_carry_15 rfl rfl ?_
    obtain ⟨q4, q4_e, hF⟩ := Option.bind_eq_some_iff.mp hF
    refine c_X11_124 rfl sh_24 (by exact ltG hG (by decide)) (Nat.le_of_ble_eq_true rfl) dX11_carry_16 (s_X3_has _ q4_e hG (by first | assumption | exact sc_30 | exact sc_34 | exact sc_10 | exact fd_24 | exact fd_4 | exact lw_25 | exact lw_5 | exact bd_23 | exact bd_3 | exact ⟨by first | assumption | rfl, by first | decide | omega⟩)) (fun r1 h1 hq => ?_)
    obtain ⟨rfl, hq, hG⟩ := hq
    replace hq := hq.symm
    subst hq
    show V _ _ _ _ (_ :: _) _ _
    refine v_if_ne 24 dX11_carry_19 (by decide) (fun c6 => ?_) (fun c6 => ?_)
    · rw [if_neg c6] at hF
      refine v_aload_n (i := 0) dX11_carry_24 rfl rfl ?_
      refine g_X11_44 (q := 30) rfl sh_0 (by exact ltG hG (by decide)) (by exact rG hG r0_0_6) dX11_carry_25 ?_
      refine g_X11_163 (q := 32) rfl sh_30 (by exact ltG hG (by decide)) (by exact rG hG r0_30_5) dX11_carry_28 ?_
      refine v_iload_n (i := 1) dX11_carry_31 rfl rfl ?_
      obtain ⟨k7, hF⟩ := ck_some hF
      refine v_iaload sh_32 (by exact ltG hG (by decide)) (ixO k7) dX11_carry_32 ?_
      refine v_iload_n (i := 2) dX11_carry_33 rfl rfl ?_
      refine v_icmp_eq 48 dX11_carry_34 (by decide) (fun c8 => ?_) (fun c8 => ?_)
      · rw [if_pos c8] at hF
        refine v_iconst (v := 0) dX11_carry_48 (by decide) ?_
        refine v_zreturn rfl (by decide) dX11_carry_49 ?_
        obtain ⟨rfl, rfl⟩ := Prod.mk.inj (Option.some.inj hF)
        exact ⟨rfl, rfl, hG⟩
      · rw [if_neg c8] at hF
        refine v_aload_n (i := 0) dX11_carry_37 rfl rfl ?_
        refine g_X11_44 (q := 30) rfl sh_0 (by exact ltG hG (by decide)) (by exact rG hG r0_0_6) dX11_carry_38 ?_
        refine v_iload_n (i := 2) dX11_carry_41 rfl rfl ?_
        obtain ⟨q9, q9_e, hF⟩ := Option.bind_eq_some_iff.mp hF
        refine c_X11_146 rfl sh_30 (by exact ltG hG (by decide)) (Nat.le_of_ble_eq_true rfl) dX11_carry_42 (s_X8_isRoped _ q9_e hG (by first | assumption | exact sc_30 | exact sc_34 | exact sc_10 | exact fd_24 | exact fd_4 | exact lw_25 | exact lw_5 | exact bd_23 | exact bd_3 | exact ⟨by first | assumption | rfl, by first | decide | omega⟩)) (fun r1 h1 hq => ?_)
        obtain ⟨rfl, hq, hG⟩ := hq
        replace hq := hq.symm
        subst hq
        show V _ _ _ _ (_ :: _) _ _
        refine v_if_eq 50 dX11_carry_45 (by decide) (fun c11 => ?_) (fun c11 => ?_)
        · rw [if_pos c11] at hF
          refine v_aload_n (i := 0) dX11_carry_50 rfl rfl ?_
          refine g_X11_54 (q := 38) rfl sh_0 (by exact ltG hG (by decide)) (by exact rG hG r0_0_8) dX11_carry_51 ?_
          refine v_aload_n (i := 0) dX11_carry_54 rfl rfl ?_
          refine g_X11_44 (q := 30) rfl sh_0 (by exact ltG hG (by decide)) (by exact rG hG r0_0_6) dX11_carry_55 ?_
          obtain ⟨q12, q12_e, hF⟩ := Option.bind_eq_some_iff.mp hF
          refine c_X11_220 rfl sh_38 (by exact ltG hG (by decide)) (Nat.le_of_ble_eq_true rfl) dX11_carry_58 (s_X6_keep _ q12_e hG (by first | assumption | exact sc_30 | exact sc_34 | exact sc_10 | exact fd_24 | exact fd_4 | exact lw_25 | exact lw_5 | exact bd_23 | exact bd_3 | exact ⟨by first | assumption | rfl, by first | decide | omega⟩)) (fun r1 h1 hq => ?_)
          obtain ⟨rfl, hq, hG⟩ := hq
          replace hq := hq.symm
          subst hq
          simp only [Option.toList, List.nil_append]
          refine v_aload_n (i := 0) dX11_carry_61 rfl rfl ?_
          refine g_X11_44 (q := 30) rfl sh_0 (by exact ltG hG (by decide)) (by exact rG hG r0_0_6) dX11_carry_62 ?_
          refine g_X11_163 (q := 32) rfl sh_30 (by exact ltG hG (by decide)) (by exact rG hG r0_30_5) dX11_carry_65 ?_
          refine v_iload_n (i := 1) dX11_carry_68 rfl rfl ?_
          refine v_iload_n (i := 2) dX11_carry_69 rfl rfl ?_
          obtain ⟨k14, hF⟩ := ck_some hF
          refine v_iastore sh_32 (by exact ltG hG (by decide)) (ixO k14) dX11_carry_70 ?_
          refine v_iconst (v := 1) dX11_carry_71 (by decide) ?_
          refine v_zreturn rfl (by decide) dX11_carry_72 ?_
          obtain ⟨rfl, rfl⟩ := Prod.mk.inj (Option.some.inj hF)
          exact ⟨rfl, rfl, hG⟩
        · rw [if_neg c11] at hF
          refine v_iconst (v := 0) dX11_carry_48 (by decide) ?_
          refine v_zreturn rfl (by decide) dX11_carry_49 ?_
          obtain ⟨rfl, rfl⟩ := Prod.mk.inj (Option.some.inj hF)
          exact ⟨rfl, rfl, hG⟩
    · rw [if_pos c6] at hF
      refine v_iconst (v := 0) dX11_carry_22 (by decide) ?_
      refine v_zreturn rfl (by decide) dX11_carry_23 ?_
      obtain ⟨rfl, rfl⟩ := Prod.mk.inj (Option.some.inj hF)
      exact ⟨rfl, rfl, hG⟩
def F_X11_cell (n : Nat) (h : Hp) (x1 : Int32) (x2 : Int32) : Option (Int32 × Hp) := ((F_X3_has n h 24 x1).bind (fun q1 => (if (q1.1 : Int32) = 0 then some ((-1), q1.2) else ((F_X8_isTuned n q1.2 30 x1).bind (fun q4 => (if x2 = 0 then (if (q4.1 : Int32) = 0 then some ((-2), q4.2) else ((F_X8_beatOf n q4.2 30 x1).bind (fun q8 => some (q8.1, q8.2)))) else (if x2 = 1 then (if (q4.1 : Int32) = 0 then some ((-2), q4.2) else ((F_X8_offsetOf n q4.2 30 x1).bind (fun q12 => some (q12.1, q12.2)))) else (if x2 = 2 then ((F_X8_soundsAt n q4.2 30 x1 (hi q4.2 30 0)).bind (fun q15 => (if (q15.1 : Int32) = 0 then some (0, q15.2) else some (1, q15.2)))) else (if x2 = 3 then ((F_X8_isRoped n q4.2 30 x1).bind (fun q19 => (if (q19.1 : Int32) = 0 then some (0, q19.2) else some (1, q19.2)))) else (if x2 = 4 then ((F_X8_goersIn n q4.2 30 x1 (hi q4.2 23 2)).bind (fun q23 => some (q23.1, q23.2))) else (if x2 = 5 then ((F_X0_costOf n q4.2 23 30 x1).bind (fun q26 => some (q26.1, q26.2))) else some ((-1), q4.2))))))))))))
set_option maxRecDepth 100000 in
set_option maxHeartbeats 4000000 in
theorem s_X11_cell (d : Nat) {n : Nat} {h : Hp} {x1 : Int32} {x2 : Int32} {q0 : (Int32 × Hp)} (hF : F_X11_cell n h x1 x2 = some q0) (hG : G h)  : Kc mX11_cell (d + 4) [.ref 0, .int x1, .int x2] h (fun r1 h1 => r1 = some (.int q0.1) ∧ h1 = q0.2 ∧ G q0.2) := by
  obtain ⟨r, h'⟩ := q0
  unfold F_X11_cell at hF
  refine Kc.of [some (.ref 0), some (.int x1), some (.int x2), none] ok_X11_cell rfl (Nat.le_of_ble_eq_true rfl) ?_
  refine v_aload_n (i := 0) dX11_cell_0 rfl rfl ?_
  refine g_X11_40 (q := 24) rfl sh_0 (by exact ltG hG (by decide)) (by exact rG hG r0_0_5) dX11_cell_1 ?_
  refine v_iload_n (i := 1) dX11_cell_4 rfl rfl ?_
  obtain ⟨q1, q1_e, hF⟩ := Option.bind_eq_some_iff.mp hF
  refine c_X11_124 rfl sh_24 (by exact ltG hG (by decide)) (Nat.le_of_ble_eq_true rfl) dX11_cell_5 (s_X3_has _ q1_e hG (by first | assumption | exact sc_30 | exact sc_34 | exact sc_10 | exact fd_24 | exact fd_4 | exact lw_25 | exact lw_5 | exact bd_23 | exact bd_3 | exact ⟨by first | assumption | rfl, by first | decide | omega⟩)) (fun r1 h1 hq => ?_)
  obtain ⟨rfl, hq, hG⟩ := hq
  replace hq := hq.symm
  subst hq
  show V _ _ _ _ (_ :: _) _ _
  refine v_if_ne 13 dX11_cell_8 (by decide) (fun c3 => ?_) (fun c3 => ?_)
  · rw [if_neg c3] at hF
    refine v_aload_n (i := 0) dX11_cell_13 rfl rfl ?_
    refine g_X11_44 (q := 30) rfl sh_0 (by exact ltG hG (by decide)) (by exact rG hG r0_0_6) dX11_cell_14 ?_
    refine v_iload_n (i := 1) dX11_cell_17 rfl rfl ?_
    obtain ⟨q4, q4_e, hF⟩ := Option.bind_eq_some_iff.mp hF
    refine c_X11_130 rfl sh_30 (by exact ltG hG (by decide)) (Nat.le_of_ble_eq_true rfl) dX11_cell_18 (s_X8_isTuned _ q4_e hG (by first | assumption | exact sc_30 | exact sc_34 | exact sc_10 | exact fd_24 | exact fd_4 | exact lw_25 | exact lw_5 | exact bd_23 | exact bd_3 | exact ⟨by first | assumption | rfl, by first | decide | omega⟩)) (fun r1 h1 hq => ?_)
    obtain ⟨rfl, hq, hG⟩ := hq
    replace hq := hq.symm
    subst hq
    show V _ _ _ _ (_ :: _) _ _
    refine v_istore_n (i := 3) dX11_cell_21 rfl (by decide) (nlT rfl) ?_
    simp only [List.set_cons_zero, List.set_cons_succ]
    refine v_iload_n (i := 2) dX11_cell_22 rfl rfl ?_
    by_cases c6 : x2 = 0
    · rw [if_pos c6] at hF
      refine v_tableIn (off := 37) 60 dX11_cell_23 (by rw [c6]; decide) (by rw [c6]; decide) (by rw [c6]; decide +kernel) (by decide) ?_
      refine v_iload_n (i := 3) dX11_cell_60 rfl rfl ?_
      refine v_if_eq 75 dX11_cell_61 (by decide) (fun c7 => ?_) (fun c7 => ?_)
      · rw [if_pos c7] at hF
        refine v_bipush (v := (-2)) dX11_cell_75 (by decide) ?_
        refine v_ireturn rfl dX11_cell_77 ?_
        obtain ⟨rfl, rfl⟩ := Prod.mk.inj (Option.some.inj hF)
        exact ⟨rfl, rfl, hG⟩
      · rw [if_neg c7] at hF
        refine v_aload_n (i := 0) dX11_cell_64 rfl rfl ?_
        refine g_X11_44 (q := 30) rfl sh_0 (by exact ltG hG (by decide)) (by exact rG hG r0_0_6) dX11_cell_65 ?_
        refine v_iload_n (i := 1) dX11_cell_68 rfl rfl ?_
        obtain ⟨q8, q8_e, hF⟩ := Option.bind_eq_some_iff.mp hF
        refine c_X11_133 rfl sh_30 (by exact ltG hG (by decide)) (Nat.le_of_ble_eq_true rfl) dX11_cell_69 (s_X8_beatOf _ q8_e hG (by first | assumption | exact sc_30 | exact sc_34 | exact sc_10 | exact fd_24 | exact fd_4 | exact lw_25 | exact lw_5 | exact bd_23 | exact bd_3 | exact ⟨by first | assumption | rfl, by first | decide | omega⟩)) (fun r1 h1 hq => ?_)
        obtain ⟨rfl, hq, hG⟩ := hq
        replace hq := hq.symm
        subst hq
        show V _ _ _ _ (_ :: _) _ _
        refine v_goto 77 dX11_cell_72 (by decide) ?_
        refine v_ireturn rfl dX11_cell_77 ?_
        obtain ⟨rfl, rfl⟩ := Prod.mk.inj (Option.some.inj hF)
        exact ⟨rfl, rfl, hG⟩
    rw [if_neg c6] at hF
    by_cases c10 : x2 = 1
    · rw [if_pos c10] at hF
      refine v_tableIn (off := 55) 78 dX11_cell_23 (by rw [c10]; decide) (by rw [c10]; decide) (by rw [c10]; decide +kernel) (by decide) ?_
      refine v_iload_n (i := 3) dX11_cell_78 rfl rfl ?_
      refine v_if_eq 93 dX11_cell_79 (by decide) (fun c11 => ?_) (fun c11 => ?_)
      · rw [if_pos c11] at hF
        refine v_bipush (v := (-2)) dX11_cell_93 (by decide) ?_
        refine v_ireturn rfl dX11_cell_95 ?_
        obtain ⟨rfl, rfl⟩ := Prod.mk.inj (Option.some.inj hF)
        exact ⟨rfl, rfl, hG⟩
      · rw [if_neg c11] at hF
        refine v_aload_n (i := 0) dX11_cell_82 rfl rfl ?_
        refine g_X11_44 (q := 30) rfl sh_0 (by exact ltG hG (by decide)) (by exact rG hG r0_0_6) dX11_cell_83 ?_
        refine v_iload_n (i := 1) dX11_cell_86 rfl rfl ?_
        obtain ⟨q12, q12_e, hF⟩ := Option.bind_eq_some_iff.mp hF
        refine c_X11_136 rfl sh_30 (by exact ltG hG (by decide)) (Nat.le_of_ble_eq_true rfl) dX11_cell_87 (s_X8_offsetOf _ q12_e hG (by first | assumption | exact sc_30 | exact sc_34 | exact sc_10 | exact fd_24 | exact fd_4 | exact lw_25 | exact lw_5 | exact bd_23 | exact bd_3 | exact ⟨by first | assumption | rfl, by first | decide | omega⟩)) (fun r1 h1 hq => ?_)
        obtain ⟨rfl, hq, hG⟩ := hq
        replace hq := hq.symm
        subst hq
        show V _ _ _ _ (_ :: _) _ _
        refine v_goto 95 dX11_cell_90 (by decide) ?_
        refine v_ireturn rfl dX11_cell_95 ?_
        obtain ⟨rfl, rfl⟩ := Prod.mk.inj (Option.some.inj hF)
        exact ⟨rfl, rfl, hG⟩
    rw [if_neg c10] at hF
    by_cases c14 : x2 = 2
    · rw [if_pos c14] at hF
      refine v_tableIn (off := 73) 96 dX11_cell_23 (by rw [c14]; decide) (by rw [c14]; decide) (by rw [c14]; decide +kernel) (by decide) ?_
      refine v_aload_n (i := 0) dX11_cell_96 rfl rfl ?_
      refine g_X11_44 (q := 30) rfl sh_0 (by exact ltG hG (by decide)) (by exact rG hG r0_0_6) dX11_cell_97 ?_
      refine v_iload_n (i := 1) dX11_cell_100 rfl rfl ?_
      refine v_aload_n (i := 0) dX11_cell_101 rfl rfl ?_
      refine g_X11_44 (q := 30) rfl sh_0 (by exact ltG hG (by decide)) (by exact rG hG r0_0_6) dX11_cell_102 ?_
      refine g_X11_139 rfl sh_30 (by exact ltG hG (by decide)) dX11_cell_105 ?_
      obtain ⟨q15, q15_e, hF⟩ := Option.bind_eq_some_iff.mp hF
      refine c_X11_142 rfl sh_30 (by exact ltG hG (by decide)) (Nat.le_of_ble_eq_true rfl) dX11_cell_108 (s_X8_soundsAt _ q15_e hG (by first | assumption | exact sc_30 | exact sc_34 | exact sc_10 | exact fd_24 | exact fd_4 | exact lw_25 | exact lw_5 | exact bd_23 | exact bd_3 | exact ⟨by first | assumption | rfl, by first | decide | omega⟩)) (fun r1 h1 hq => ?_)
      obtain ⟨rfl, hq, hG⟩ := hq
      replace hq := hq.symm
      subst hq
      show V _ _ _ _ (_ :: _) _ _
      refine v_if_eq 118 dX11_cell_111 (by decide) (fun c17 => ?_) (fun c17 => ?_)
      · rw [if_pos c17] at hF
        refine v_iconst (v := 0) dX11_cell_118 (by decide) ?_
        refine v_ireturn rfl dX11_cell_119 ?_
        obtain ⟨rfl, rfl⟩ := Prod.mk.inj (Option.some.inj hF)
        exact ⟨rfl, rfl, hG⟩
      · rw [if_neg c17] at hF
        refine v_iconst (v := 1) dX11_cell_114 (by decide) ?_
        refine v_goto 119 dX11_cell_115 (by decide) ?_
        refine v_ireturn rfl dX11_cell_119 ?_
        obtain ⟨rfl, rfl⟩ := Prod.mk.inj (Option.some.inj hF)
        exact ⟨rfl, rfl, hG⟩
    rw [if_neg c14] at hF
    by_cases c18 : x2 = 3
    · rw [if_pos c18] at hF
      refine v_tableIn (off := 97) 120 dX11_cell_23 (by rw [c18]; decide) (by rw [c18]; decide) (by rw [c18]; decide +kernel) (by decide) ?_
      refine v_aload_n (i := 0) dX11_cell_120 rfl rfl ?_
      refine g_X11_44 (q := 30) rfl sh_0 (by exact ltG hG (by decide)) (by exact rG hG r0_0_6) dX11_cell_121 ?_
      refine v_iload_n (i := 1) dX11_cell_124 rfl rfl ?_
      obtain ⟨q19, q19_e, hF⟩ := Option.bind_eq_some_iff.mp hF
      refine c_X11_146 rfl sh_30 (by exact ltG hG (by decide)) (Nat.le_of_ble_eq_true rfl) dX11_cell_125 (s_X8_isRoped _ q19_e hG (by first | assumption | exact sc_30 | exact sc_34 | exact sc_10 | exact fd_24 | exact fd_4 | exact lw_25 | exact lw_5 | exact bd_23 | exact bd_3 | exact ⟨by first | assumption | rfl, by first | decide | omega⟩)) (fun r1 h1 hq => ?_)
      obtain ⟨rfl, hq, hG⟩ := hq
      replace hq := hq.symm
      subst hq
      show V _ _ _ _ (_ :: _) _ _
      refine v_if_eq 135 dX11_cell_128 (by decide) (fun c21 => ?_) (fun c21 => ?_)
      · rw [if_pos c21] at hF
        refine v_iconst (v := 0) dX11_cell_135 (by decide) ?_
        refine v_ireturn rfl dX11_cell_136 ?_
        obtain ⟨rfl, rfl⟩ := Prod.mk.inj (Option.some.inj hF)
        exact ⟨rfl, rfl, hG⟩
      · rw [if_neg c21] at hF
        refine v_iconst (v := 1) dX11_cell_131 (by decide) ?_
        refine v_goto 136 dX11_cell_132 (by decide) ?_
        refine v_ireturn rfl dX11_cell_136 ?_
        obtain ⟨rfl, rfl⟩ := Prod.mk.inj (Option.some.inj hF)
        exact ⟨rfl, rfl, hG⟩
    rw [if_neg c18] at hF
    by_cases c22 : x2 = 4
    · rw [if_pos c22] at hF
      refine v_tableIn (off := 114) 137 dX11_cell_23 (by rw [c22]; decide) (by rw [c22]; decide) (by rw [c22]; decide +kernel) (by decide) ?_
      refine v_aload_n (i := 0) dX11_cell_137 rfl rfl ?_
      refine g_X11_44 (q := 30) rfl sh_0 (by exact ltG hG (by decide)) (by exact rG hG r0_0_6) dX11_cell_138 ?_
      refine v_iload_n (i := 1) dX11_cell_141 rfl rfl ?_
      refine v_aload_n (i := 0) dX11_cell_142 rfl rfl ?_
      refine g_X11_32 (q := 23) rfl sh_0 (by exact ltG hG (by decide)) (by exact rG hG r0_0_4) dX11_cell_143 ?_
      refine g_X11_149 rfl sh_23 (by exact ltG hG (by decide)) dX11_cell_146 ?_
      obtain ⟨q23, q23_e, hF⟩ := Option.bind_eq_some_iff.mp hF
      refine c_X11_152 rfl sh_30 (by exact ltG hG (by decide)) (Nat.le_of_ble_eq_true rfl) dX11_cell_149 (s_X8_goersIn _ q23_e hG (by first | assumption | exact sc_30 | exact sc_34 | exact sc_10 | exact fd_24 | exact fd_4 | exact lw_25 | exact lw_5 | exact bd_23 | exact bd_3 | exact ⟨by first | assumption | rfl, by first | decide | omega⟩)) (fun r1 h1 hq => ?_)
      obtain ⟨rfl, hq, hG⟩ := hq
      replace hq := hq.symm
      subst hq
      show V _ _ _ _ (_ :: _) _ _
      refine v_ireturn rfl dX11_cell_152 ?_
      obtain ⟨rfl, rfl⟩ := Prod.mk.inj (Option.some.inj hF)
      exact ⟨rfl, rfl, hG⟩
    rw [if_neg c22] at hF
    by_cases c25 : x2 = 5
    · rw [if_pos c25] at hF
      refine v_tableIn (off := 130) 153 dX11_cell_23 (by rw [c25]; decide) (by rw [c25]; decide) (by rw [c25]; decide +kernel) (by decide) ?_
      refine v_aload_n (i := 0) dX11_cell_153 rfl rfl ?_
      refine g_X11_32 (q := 23) rfl sh_0 (by exact ltG hG (by decide)) (by exact rG hG r0_0_4) dX11_cell_154 ?_
      refine v_aload_n (i := 0) dX11_cell_157 rfl rfl ?_
      refine g_X11_44 (q := 30) rfl sh_0 (by exact ltG hG (by decide)) (by exact rG hG r0_0_6) dX11_cell_158 ?_
      refine v_iload_n (i := 1) dX11_cell_161 rfl rfl ?_
      obtain ⟨q26, q26_e, hF⟩ := Option.bind_eq_some_iff.mp hF
      refine c_X11_156 rfl sh_23 (by exact ltG hG (by decide)) (Nat.le_of_ble_eq_true rfl) dX11_cell_162 (s_X0_costOf _ q26_e hG (by first | assumption | exact sc_30 | exact sc_34 | exact sc_10 | exact fd_24 | exact fd_4 | exact lw_25 | exact lw_5 | exact bd_23 | exact bd_3 | exact ⟨by first | assumption | rfl, by first | decide | omega⟩) (by first | assumption | exact sc_30 | exact sc_34 | exact sc_10 | exact fd_24 | exact fd_4 | exact lw_25 | exact lw_5 | exact bd_23 | exact bd_3 | exact ⟨by first | assumption | rfl, by first | decide | omega⟩)) (fun r1 h1 hq => ?_)
      obtain ⟨rfl, hq, hG⟩ := hq
      replace hq := hq.symm
      subst hq
      show V _ _ _ _ (_ :: _) _ _
      refine v_ireturn rfl dX11_cell_165 ?_
      obtain ⟨rfl, rfl⟩ := Prod.mk.inj (Option.some.inj hF)
      exact ⟨rfl, rfl, hG⟩
    rw [if_neg c25] at hF
    have e_c6 : ¬ (x2 : Int32).toInt = 0 := fun q => c6 (Int32.toInt_inj.mp (q.trans (by decide)))
    have e_c10 : ¬ (x2 : Int32).toInt = 1 := fun q => c10 (Int32.toInt_inj.mp (q.trans (by decide)))
    have e_c14 : ¬ (x2 : Int32).toInt = 2 := fun q => c14 (Int32.toInt_inj.mp (q.trans (by decide)))
    have e_c18 : ¬ (x2 : Int32).toInt = 3 := fun q => c18 (Int32.toInt_inj.mp (q.trans (by decide)))
    have e_c22 : ¬ (x2 : Int32).toInt = 4 := fun q => c22 (Int32.toInt_inj.mp (q.trans (by decide)))
    have e_c25 : ¬ (x2 : Int32).toInt = 5 := fun q => c25 (Int32.toInt_inj.mp (q.trans (by decide)))
    refine v_tableOut 166 dX11_cell_23 (by omega) (by decide) ?_
    refine v_iconst (v := (-1)) dX11_cell_166 (by decide) ?_
    refine v_ireturn rfl dX11_cell_167 ?_
    obtain ⟨rfl, rfl⟩ := Prod.mk.inj (Option.some.inj hF)
    exact ⟨rfl, rfl, hG⟩
  · rw [if_pos c3] at hF
    refine v_iconst (v := (-1)) dX11_cell_11 (by decide) ?_
    refine v_ireturn rfl dX11_cell_12 ?_
    obtain ⟨rfl, rfl⟩ := Prod.mk.inj (Option.some.inj hF)
    exact ⟨rfl, rfl, hG⟩
def W_X11_centre : Nat → Nat → Hp → Int32 → Int32 → Int32 → Int32 → Int32 → Option (Int32 × Hp)
  | 0 => fun _ _ _ _ _ _ _ => none
  | n + 1 => fun hd h l1 l2 l3 l4 l5 => (if hd = 37 then (if (25 : Int32) ≤ (l5 : Int32) then (if (l1 : Int32) = 0 then some (l3, h) else some (l4, h)) else (if ((((((l2 : Int32).toUInt32 >>> ((l5 : Int32).toUInt32 &&& Int32.toUInt32 31)).toInt32) : Int32) &&& (1 : Int32)) : Int32) = 0 then W_X11_centre n 37 h  l1 l2 l3 l4 (l5 + 1) else ((F_X3_farthest n h 24 l5 l2).bind (fun q4 => (if (l3 : Int32) = ((-2) : Int32) then W_X11_centre n 37 q4.2  l1 l2 l5 q4.1 (l5 + 1) else (if (l4 : Int32) ≤ (q4.1 : Int32) then W_X11_centre n 37 q4.2  l1 l2 l3 l4 (l5 + 1) else W_X11_centre n 37 q4.2  l1 l2 l5 q4.1 (l5 + 1))))))) else none)
set_option maxRecDepth 100000 in
set_option maxHeartbeats 4000000 in
theorem sw_X11_centre (d : Nat)  (n : Nat) : (∀ (l1 : Int32) (l2 : Int32) (l3 : Int32) (l4 : Int32) (l5 : Int32) (h : Hp), ∀ (r : Int32) (h' : Hp), W_X11_centre n 37 h  l1 l2 l3 l4 l5 = some (r, h') → G h → V mX11_centre (d + 2) 37 [some (.ref 0), some (.int l1), some (.int l2), some (.int l3), some (.int l4), some (.int l5), none] [] h (fun r1 h1 => r1 = some (.int r) ∧ h1 = h' ∧ G h')) := by
  induction n with
  | zero => exact by intros; contradiction
  | succ n ih =>
    have s_X11_centre_IH_37 := ih
    intro l1 l2 l3 l4 l5 h r h' hF hG
    unfold W_X11_centre at hF
    rw [if_pos rfl] at hF
    refine v_iload (i := 5) dX11_centre_37 rfl ?_
    refine v_bipush (v := 25) dX11_centre_39 (by decide) ?_
    refine v_icmp_ge 91 dX11_centre_41 (by decide) (fun c1 => ?_) (fun c1 => ?_)
    · rw [if_pos c1] at hF
      refine v_iload_n (i := 1) dX11_centre_91 rfl rfl ?_
      refine v_if_ne 99 dX11_centre_92 (by decide) (fun c2 => ?_) (fun c2 => ?_)
      · rw [if_neg c2] at hF
        refine v_iload (i := 4) dX11_centre_99 rfl ?_
        refine v_ireturn rfl dX11_centre_101 ?_
        obtain ⟨rfl, rfl⟩ := Prod.mk.inj (Option.some.inj hF)
        exact ⟨rfl, rfl, hG⟩
      · rw [if_pos c2] at hF
        refine v_iload_n (i := 3) dX11_centre_95 rfl rfl ?_
        refine v_goto 101 dX11_centre_96 (by decide) ?_
        refine v_ireturn rfl dX11_centre_101 ?_
        obtain ⟨rfl, rfl⟩ := Prod.mk.inj (Option.some.inj hF)
        exact ⟨rfl, rfl, hG⟩
    · rw [if_neg c1] at hF
      refine v_iload_n (i := 2) dX11_centre_44 rfl rfl ?_
      refine v_iload (i := 5) dX11_centre_45 rfl ?_
      refine v_iushr dX11_centre_47 ?_
      refine v_iconst (v := 1) dX11_centre_48 (by decide) ?_
      refine v_iand dX11_centre_49 ?_
      refine v_if_eq 85 dX11_centre_50 (by decide) (fun c3 => ?_) (fun c3 => ?_)
      · rw [if_pos c3] at hF
        refine v_iinc (i := 5) (v := (l5 + 1)) dX11_centre_85 rfl rfl (by decide) (nlT rfl) ?_
        simp only [List.set_cons_zero, List.set_cons_succ]
        refine v_goto 37 dX11_centre_88 (by decide) ?_
        refine V.weak (la2 := [some (.ref 0), some (.int l1), some (.int l2), some (.int l3), some (.int l4), some (.int (l5 + 1)), none]) (by simp [wk]) ?_
        exact (s_X11_centre_IH_37) _ _ _ _ _ _ _ _ hF hG
      · rw [if_neg c3] at hF
        refine v_aload_n (i := 0) dX11_centre_53 rfl rfl ?_
        refine g_X11_40 (q := 24) rfl sh_0 (by exact ltG hG (by decide)) (by exact rG hG r0_0_5) dX11_centre_54 ?_
        refine v_iload (i := 5) dX11_centre_57 rfl ?_
        refine v_iload_n (i := 2) dX11_centre_59 rfl rfl ?_
        obtain ⟨q4, q4_e, hF⟩ := Option.bind_eq_some_iff.mp hF
        refine c_X11_282 rfl sh_24 (by exact ltG hG (by decide)) (Nat.le_of_ble_eq_true rfl) dX11_centre_60 (s_X3_farthest _ q4_e hG (by first | assumption | exact sc_30 | exact sc_34 | exact sc_10 | exact fd_24 | exact fd_4 | exact lw_25 | exact lw_5 | exact bd_23 | exact bd_3 | exact ⟨by first | assumption | rfl, by first | decide | omega⟩)) (fun r1 h1 hq => ?_)
        obtain ⟨rfl, hq, hG⟩ := hq
        replace hq := hq.symm
        subst hq
        show V _ _ _ _ (_ :: _) _ _
        refine v_istore (i := 6) dX11_centre_63 (by decide) (nlT rfl) ?_
        simp only [List.set_cons_zero, List.set_cons_succ]
        refine v_iload_n (i := 3) dX11_centre_65 rfl rfl ?_
        refine v_bipush (v := (-2)) dX11_centre_66 (by decide) ?_
        refine v_icmp_eq 78 dX11_centre_68 (by decide) (fun c6 => ?_) (fun c6 => ?_)
        · rw [if_pos c6] at hF
          refine v_iload (i := 5) dX11_centre_78 rfl ?_
          refine v_istore_n (i := 3) dX11_centre_80 rfl (by decide) (nlT rfl) ?_
          simp only [List.set_cons_zero, List.set_cons_succ]
          refine v_iload (i := 6) dX11_centre_81 rfl ?_
          refine v_istore (i := 4) dX11_centre_83 (by decide) (nlT rfl) ?_
          simp only [List.set_cons_zero, List.set_cons_succ]
          refine v_iinc (i := 5) (v := (l5 + 1)) dX11_centre_85 rfl rfl (by decide) (nlT rfl) ?_
          simp only [List.set_cons_zero, List.set_cons_succ]
          refine v_goto 37 dX11_centre_88 (by decide) ?_
          refine V.weak (la2 := [some (.ref 0), some (.int l1), some (.int l2), some (.int l5), some (.int q4.1), some (.int (l5 + 1)), none]) (by simp [wk]) ?_
          exact (s_X11_centre_IH_37) _ _ _ _ _ _ _ _ hF hG
        · rw [if_neg c6] at hF
          refine v_iload (i := 6) dX11_centre_71 rfl ?_
          refine v_iload (i := 4) dX11_centre_73 rfl ?_
          refine v_icmp_ge 85 dX11_centre_75 (by decide) (fun c7 => ?_) (fun c7 => ?_)
          · rw [if_pos c7] at hF
            refine v_iinc (i := 5) (v := (l5 + 1)) dX11_centre_85 rfl rfl (by decide) (nlT rfl) ?_
            simp only [List.set_cons_zero, List.set_cons_succ]
            refine v_goto 37 dX11_centre_88 (by decide) ?_
            refine V.weak (la2 := [some (.ref 0), some (.int l1), some (.int l2), some (.int l3), some (.int l4), some (.int (l5 + 1)), none]) (by simp [wk]) ?_
            exact (s_X11_centre_IH_37) _ _ _ _ _ _ _ _ hF hG
          · rw [if_neg c7] at hF
            refine v_iload (i := 5) dX11_centre_78 rfl ?_
            refine v_istore_n (i := 3) dX11_centre_80 rfl (by decide) (nlT rfl) ?_
            simp only [List.set_cons_zero, List.set_cons_succ]
            refine v_iload (i := 6) dX11_centre_81 rfl ?_
            refine v_istore (i := 4) dX11_centre_83 (by decide) (nlT rfl) ?_
            simp only [List.set_cons_zero, List.set_cons_succ]
            refine v_iinc (i := 5) (v := (l5 + 1)) dX11_centre_85 rfl rfl (by decide) (nlT rfl) ?_
            simp only [List.set_cons_zero, List.set_cons_succ]
            refine v_goto 37 dX11_centre_88 (by decide) ?_
            refine V.weak (la2 := [some (.ref 0), some (.int l1), some (.int l2), some (.int l5), some (.int q4.1), some (.int (l5 + 1)), none]) (by simp [wk]) ?_
            exact (s_X11_centre_IH_37) _ _ _ _ _ _ _ _ hF hG
def F_X11_centre (n : Nat) (h : Hp) (x1 : Int32) : Option (Int32 × Hp) := ((F_X11_isNoughtOrOne n h x1).bind (fun q8 => (if (q8.1 : Int32) = 0 then some ((-1), q8.2) else W_X11_centre n 37 q8.2  x1 (((hi q8.2 24 2) : Int32) &&& ((((hi q8.2 30 2) : Int32) ^^^ ((-1) : Int32)) : Int32)) (-2) (-2) 0)))
set_option maxRecDepth 100000 in
set_option maxHeartbeats 4000000 in
theorem s_X11_centre (d : Nat) {n : Nat} {h : Hp} {x1 : Int32} {q0 : (Int32 × Hp)} (hF : F_X11_centre n h x1 = some q0) (hG : G h)  : Kc mX11_centre (d + 2) [.ref 0, .int x1] h (fun r1 h1 => r1 = some (.int q0.1) ∧ h1 = q0.2 ∧ G q0.2) := by
  obtain ⟨r, h'⟩ := q0
  have s_X11_centre_IH_37 := sw_X11_centre d   n
  unfold F_X11_centre at hF
  refine Kc.of [some (.ref 0), some (.int x1), none, none, none, none, none] ok_X11_centre rfl (Nat.le_of_ble_eq_true rfl) ?_
  refine v_iload_n (i := 1) dX11_centre_0 rfl rfl ?_
  obtain ⟨q8, q8_e, hF⟩ := Option.bind_eq_some_iff.mp hF
  refine c_X11_237 rfl (Nat.le_of_ble_eq_true rfl) dX11_centre_1 (s_X11_isNoughtOrOne _ q8_e hG) (fun r1 h1 hq => ?_)
  obtain ⟨rfl, hq, hG⟩ := hq
  replace hq := hq.symm
  subst hq
  show V _ _ _ _ (_ :: _) _ _
  refine v_if_ne 9 dX11_centre_4 (by decide) (fun c10 => ?_) (fun c10 => ?_)
  · rw [if_neg c10] at hF
    refine v_aload_n (i := 0) dX11_centre_9 rfl rfl ?_
    refine g_X11_40 (q := 24) rfl sh_0 (by exact ltG hG (by decide)) (by exact rG hG r0_0_5) dX11_centre_10 ?_
    refine g_X11_211 rfl sh_24 (by exact ltG hG (by decide)) dX11_centre_13 ?_
    refine v_aload_n (i := 0) dX11_centre_16 rfl rfl ?_
    refine g_X11_44 (q := 30) rfl sh_0 (by exact ltG hG (by decide)) (by exact rG hG r0_0_6) dX11_centre_17 ?_
    refine g_X11_186 rfl sh_30 (by exact ltG hG (by decide)) dX11_centre_20 ?_
    refine v_iconst (v := (-1)) dX11_centre_23 (by decide) ?_
    refine v_ixor dX11_centre_24 ?_
    refine v_iand dX11_centre_25 ?_
    refine v_istore_n (i := 2) dX11_centre_26 rfl (by decide) (nlT rfl) ?_
    simp only [List.set_cons_zero, List.set_cons_succ]
    refine v_bipush (v := (-2)) dX11_centre_27 (by decide) ?_
    refine v_istore_n (i := 3) dX11_centre_29 rfl (by decide) (nlT rfl) ?_
    simp only [List.set_cons_zero, List.set_cons_succ]
    refine v_bipush (v := (-2)) dX11_centre_30 (by decide) ?_
    refine v_istore (i := 4) dX11_centre_32 (by decide) (nlT rfl) ?_
    simp only [List.set_cons_zero, List.set_cons_succ]
    refine v_iconst (v := 0) dX11_centre_34 (by decide) ?_
    refine v_istore (i := 5) dX11_centre_35 (by decide) (nlT rfl) ?_
    simp only [List.set_cons_zero, List.set_cons_succ]
    refine V.weak (la2 := [some (.ref 0), some (.int x1), some (.int (((hi q8.2 24 2) : Int32) &&& ((((hi q8.2 30 2) : Int32) ^^^ ((-1) : Int32)) : Int32))), some (.int (-2)), some (.int (-2)), some (.int 0), none]) (by simp [wk]) ?_
    exact (s_X11_centre_IH_37) _ _ _ _ _ _ _ _ hF hG
  · rw [if_pos c10] at hF
    refine v_iconst (v := (-1)) dX11_centre_7 (by decide) ?_
    refine v_ireturn rfl dX11_centre_8 ?_
    obtain ⟨rfl, rfl⟩ := Prod.mk.inj (Option.some.inj hF)
    exact ⟨rfl, rfl, hG⟩
def W_X11_costsOfTunes : Nat → Nat → Hp → Int32 → Int32 → Option (Int32 × Hp)
  | 0 => fun _ _ _ _ => none
  | n + 1 => fun hd h l1 l2 => (if hd = 4 then (if (25 : Int32) ≤ (l2 : Int32) then some (l1, h) else ((F_X8_isTuned n h 30 l2).bind (fun q2 => (if (q2.1 : Int32) = 0 then W_X11_costsOfTunes n 4 q2.2  l1 (l2 + 1) else ((F_X0_costOf n q2.2 23 30 l2).bind (fun q5 => W_X11_costsOfTunes n 4 q5.2  (l1 + q5.1) (l2 + 1))))))) else none)
set_option maxRecDepth 100000 in
set_option maxHeartbeats 4000000 in
theorem sw_X11_costsOfTunes (d : Nat)  (n : Nat) : (∀ (l1 : Int32) (l2 : Int32) (h : Hp), ∀ (r : Int32) (h' : Hp), W_X11_costsOfTunes n 4 h  l1 l2 = some (r, h') → G h → V mX11_costsOfTunes (d + 4) 4 [some (.ref 0), some (.int l1), some (.int l2)] [] h (fun r1 h1 => r1 = some (.int r) ∧ h1 = h' ∧ G h')) := by
  induction n with
  | zero => exact by intros; contradiction
  | succ n ih =>
    have s_X11_costsOfTunes_IH_4 := ih
    intro l1 l2 h r h' hF hG
    unfold W_X11_costsOfTunes at hF
    rw [if_pos rfl] at hF
    refine v_iload_n (i := 2) dX11_costsOfTunes_4 rfl rfl ?_
    refine v_bipush (v := 25) dX11_costsOfTunes_5 (by decide) ?_
    refine v_icmp_ge 42 dX11_costsOfTunes_7 (by decide) (fun c1 => ?_) (fun c1 => ?_)
    · rw [if_pos c1] at hF
      refine v_iload_n (i := 1) dX11_costsOfTunes_42 rfl rfl ?_
      refine v_ireturn rfl dX11_costsOfTunes_43 ?_
      obtain ⟨rfl, rfl⟩ := Prod.mk.inj (Option.some.inj hF)
      exact ⟨rfl, rfl, hG⟩
    · rw [if_neg c1] at hF
      refine v_aload_n (i := 0) dX11_costsOfTunes_10 rfl rfl ?_
      refine g_X11_44 (q := 30) rfl sh_0 (by exact ltG hG (by decide)) (by exact rG hG r0_0_6) dX11_costsOfTunes_11 ?_
      refine v_iload_n (i := 2) dX11_costsOfTunes_14 rfl rfl ?_
      obtain ⟨q2, q2_e, hF⟩ := Option.bind_eq_some_iff.mp hF
      refine c_X11_130 rfl sh_30 (by exact ltG hG (by decide)) (Nat.le_of_ble_eq_true rfl) dX11_costsOfTunes_15 (s_X8_isTuned _ q2_e hG (by first | assumption | exact sc_30 | exact sc_34 | exact sc_10 | exact fd_24 | exact fd_4 | exact lw_25 | exact lw_5 | exact bd_23 | exact bd_3 | exact ⟨by first | assumption | rfl, by first | decide | omega⟩)) (fun r1 h1 hq => ?_)
      obtain ⟨rfl, hq, hG⟩ := hq
      replace hq := hq.symm
      subst hq
      show V _ _ _ _ (_ :: _) _ _
      refine v_if_eq 36 dX11_costsOfTunes_18 (by decide) (fun c4 => ?_) (fun c4 => ?_)
      · rw [if_pos c4] at hF
        refine v_iinc (i := 2) (v := (l2 + 1)) dX11_costsOfTunes_36 rfl rfl (by decide) (nlT rfl) ?_
        simp only [List.set_cons_zero, List.set_cons_succ]
        refine v_goto 4 dX11_costsOfTunes_39 (by decide) ?_
        refine V.weak (la2 := [some (.ref 0), some (.int l1), some (.int (l2 + 1))]) (by simp [wk]) ?_
        exact (s_X11_costsOfTunes_IH_4) _ _ _ _ _ hF hG
      · rw [if_neg c4] at hF
        refine v_iload_n (i := 1) dX11_costsOfTunes_21 rfl rfl ?_
        refine v_aload_n (i := 0) dX11_costsOfTunes_22 rfl rfl ?_
        refine g_X11_32 (q := 23) rfl sh_0 (by exact ltG hG (by decide)) (by exact rG hG r0_0_4) dX11_costsOfTunes_23 ?_
        refine v_aload_n (i := 0) dX11_costsOfTunes_26 rfl rfl ?_
        refine g_X11_44 (q := 30) rfl sh_0 (by exact ltG hG (by decide)) (by exact rG hG r0_0_6) dX11_costsOfTunes_27 ?_
        refine v_iload_n (i := 2) dX11_costsOfTunes_30 rfl rfl ?_
        obtain ⟨q5, q5_e, hF⟩ := Option.bind_eq_some_iff.mp hF
        refine c_X11_156 rfl sh_23 (by exact ltG hG (by decide)) (Nat.le_of_ble_eq_true rfl) dX11_costsOfTunes_31 (s_X0_costOf _ q5_e hG (by first | assumption | exact sc_30 | exact sc_34 | exact sc_10 | exact fd_24 | exact fd_4 | exact lw_25 | exact lw_5 | exact bd_23 | exact bd_3 | exact ⟨by first | assumption | rfl, by first | decide | omega⟩) (by first | assumption | exact sc_30 | exact sc_34 | exact sc_10 | exact fd_24 | exact fd_4 | exact lw_25 | exact lw_5 | exact bd_23 | exact bd_3 | exact ⟨by first | assumption | rfl, by first | decide | omega⟩)) (fun r1 h1 hq => ?_)
        obtain ⟨rfl, hq, hG⟩ := hq
        replace hq := hq.symm
        subst hq
        show V _ _ _ _ (_ :: _) _ _
        refine v_iadd dX11_costsOfTunes_34 ?_
        refine v_istore_n (i := 1) dX11_costsOfTunes_35 rfl (by decide) (nlT rfl) ?_
        simp only [List.set_cons_zero, List.set_cons_succ]
        refine v_iinc (i := 2) (v := (l2 + 1)) dX11_costsOfTunes_36 rfl rfl (by decide) (nlT rfl) ?_
        simp only [List.set_cons_zero, List.set_cons_succ]
        refine v_goto 4 dX11_costsOfTunes_39 (by decide) ?_
        refine V.weak (la2 := [some (.ref 0), some (.int (l1 + q5.1)), some (.int (l2 + 1))]) (by simp [wk]) ?_
        exact (s_X11_costsOfTunes_IH_4) _ _ _ _ _ hF hG
def F_X11_costsOfTunes (n : Nat) (h : Hp) : Option (Int32 × Hp) := W_X11_costsOfTunes n 4 h  0 0
set_option maxRecDepth 100000 in
set_option maxHeartbeats 4000000 in
theorem s_X11_costsOfTunes (d : Nat) {n : Nat} {h : Hp}  {q0 : (Int32 × Hp)} (hF : F_X11_costsOfTunes n h  = some q0) (hG : G h)  : Kc mX11_costsOfTunes (d + 4) [.ref 0] h (fun r1 h1 => r1 = some (.int q0.1) ∧ h1 = q0.2 ∧ G q0.2) := by
  obtain ⟨r, h'⟩ := q0
  have s_X11_costsOfTunes_IH_4 := sw_X11_costsOfTunes d   n
  unfold F_X11_costsOfTunes at hF
  refine Kc.of [some (.ref 0), none, none] ok_X11_costsOfTunes rfl (Nat.le_of_ble_eq_true rfl) ?_
  refine v_iconst (v := 0) dX11_costsOfTunes_0 (by decide) ?_
  refine v_istore_n (i := 1) dX11_costsOfTunes_1 rfl (by decide) (nlT rfl) ?_
  simp only [List.set_cons_zero, List.set_cons_succ]
  refine v_iconst (v := 0) dX11_costsOfTunes_2 (by decide) ?_
  refine v_istore_n (i := 2) dX11_costsOfTunes_3 rfl (by decide) (nlT rfl) ?_
  simp only [List.set_cons_zero, List.set_cons_succ]
  refine V.weak (la2 := [some (.ref 0), some (.int 0), some (.int 0)]) (by simp [wk]) ?_
  exact (s_X11_costsOfTunes_IH_4) _ _ _ _ _ hF hG
def F_X11_fits (n : Nat) (h : Hp) (x1 : Int32) (x2 : Int32) : Option (Int32 × Hp) := ((F_X2_knows n h x1).bind (fun q1 => (if (q1.1 : Int32) = 0 then some ((-1), q1.2) else ((F_X11_isNoughtOrOne n q1.2 x2).bind (fun q4 => (if (q4.1 : Int32) = 0 then some ((-1), q4.2) else ((F_X2_fitting n q4.2 x1).bind (fun q7 => (if (x2 : Int32) = 0 then ((F_J6_bitCount_0f7a4 n q7.2 q7.1).bind (fun q12 => some (q12.1, q12.2))) else ((F_X2_firstTune n q7.2 q7.1).bind (fun q10 => some (q10.1, q10.2))))))))))))
set_option maxRecDepth 100000 in
set_option maxHeartbeats 4000000 in
theorem s_X11_fits (d : Nat) {n : Nat} {h : Hp} {x1 : Int32} {x2 : Int32} {q0 : (Int32 × Hp)} (hF : F_X11_fits n h x1 x2 = some q0) (hG : G h)  : Kc mX11_fits (d + 3) [.ref 0, .int x1, .int x2] h (fun r1 h1 => r1 = some (.int q0.1) ∧ h1 = q0.2 ∧ G q0.2) := by
  obtain ⟨r, h'⟩ := q0
  unfold F_X11_fits at hF
  refine Kc.of [some (.ref 0), some (.int x1), some (.int x2), none] ok_X11_fits rfl (Nat.le_of_ble_eq_true rfl) ?_
  refine v_aload_n (i := 0) dX11_fits_0 rfl rfl ?_
  refine g_X11_68 (q := 201) rfl sh_0 (by exact ltG hG (by decide)) (by exact rG hG r0_0_11) dX11_fits_1 ?_
  refine v_iload_n (i := 1) dX11_fits_4 rfl rfl ?_
  obtain ⟨q1, q1_e, hF⟩ := Option.bind_eq_some_iff.mp hF
  refine c_X11_307 rfl sh_201 (by exact ltG hG (by decide)) (Nat.le_of_ble_eq_true rfl) dX11_fits_5 (s_X2_knows _ q1_e hG) (fun r1 h1 hq => ?_)
  obtain ⟨rfl, hq, hG⟩ := hq
  replace hq := hq.symm
  subst hq
  show V _ _ _ _ (_ :: _) _ _
  refine v_if_eq 18 dX11_fits_8 (by decide) (fun c3 => ?_) (fun c3 => ?_)
  · rw [if_pos c3] at hF
    refine v_iconst (v := (-1)) dX11_fits_18 (by decide) ?_
    refine v_ireturn rfl dX11_fits_19 ?_
    obtain ⟨rfl, rfl⟩ := Prod.mk.inj (Option.some.inj hF)
    exact ⟨rfl, rfl, hG⟩
  · rw [if_neg c3] at hF
    refine v_iload_n (i := 2) dX11_fits_11 rfl rfl ?_
    obtain ⟨q4, q4_e, hF⟩ := Option.bind_eq_some_iff.mp hF
    refine c_X11_237 rfl (Nat.le_of_ble_eq_true rfl) dX11_fits_12 (s_X11_isNoughtOrOne _ q4_e hG) (fun r1 h1 hq => ?_)
    obtain ⟨rfl, hq, hG⟩ := hq
    replace hq := hq.symm
    subst hq
    show V _ _ _ _ (_ :: _) _ _
    refine v_if_ne 20 dX11_fits_15 (by decide) (fun c6 => ?_) (fun c6 => ?_)
    · rw [if_neg c6] at hF
      refine v_aload_n (i := 0) dX11_fits_20 rfl rfl ?_
      refine g_X11_68 (q := 201) rfl sh_0 (by exact ltG hG (by decide)) (by exact rG hG r0_0_11) dX11_fits_21 ?_
      refine v_iload_n (i := 1) dX11_fits_24 rfl rfl ?_
      obtain ⟨q7, q7_e, hF⟩ := Option.bind_eq_some_iff.mp hF
      refine c_X11_310 rfl sh_201 (by exact ltG hG (by decide)) (Nat.le_of_ble_eq_true rfl) dX11_fits_25 (s_X2_fitting _ q7_e hG) (fun r1 h1 hq => ?_)
      obtain ⟨rfl, hq, hG⟩ := hq
      replace hq := hq.symm
      subst hq
      show V _ _ _ _ (_ :: _) _ _
      refine v_istore_n (i := 3) dX11_fits_28 rfl (by decide) (nlT rfl) ?_
      simp only [List.set_cons_zero, List.set_cons_succ]
      refine v_iload_n (i := 2) dX11_fits_29 rfl rfl ?_
      refine v_if_ne 40 dX11_fits_30 (by decide) (fun c9 => ?_) (fun c9 => ?_)
      · rw [if_neg c9] at hF
        refine v_iload_n (i := 3) dX11_fits_40 rfl rfl ?_
        obtain ⟨q10, q10_e, hF⟩ := Option.bind_eq_some_iff.mp hF
        refine c_X11_313 rfl (Nat.le_of_ble_eq_true rfl) dX11_fits_41 (s_X2_firstTune _ q10_e hG) (fun r1 h1 hq => ?_)
        obtain ⟨rfl, hq, hG⟩ := hq
        replace hq := hq.symm
        subst hq
        show V _ _ _ _ (_ :: _) _ _
        refine v_ireturn rfl dX11_fits_44 ?_
        obtain ⟨rfl, rfl⟩ := Prod.mk.inj (Option.some.inj hF)
        exact ⟨rfl, rfl, hG⟩
      · rw [if_pos c9] at hF
        refine v_iload_n (i := 3) dX11_fits_33 rfl rfl ?_
        obtain ⟨q12, q12_e, hF⟩ := Option.bind_eq_some_iff.mp hF
        refine c_X11_196 rfl (Nat.le_of_ble_eq_true rfl) dX11_fits_34 (s_J6_bitCount_0f7a4 _ q12_e hG) (fun r1 h1 hq => ?_)
        obtain ⟨rfl, hq, hG⟩ := hq
        replace hq := hq.symm
        subst hq
        show V _ _ _ _ (_ :: _) _ _
        refine v_goto 44 dX11_fits_37 (by decide) ?_
        refine v_ireturn rfl dX11_fits_44 ?_
        obtain ⟨rfl, rfl⟩ := Prod.mk.inj (Option.some.inj hF)
        exact ⟨rfl, rfl, hG⟩
    · rw [if_pos c6] at hF
      refine v_iconst (v := (-1)) dX11_fits_18 (by decide) ?_
      refine v_ireturn rfl dX11_fits_19 ?_
      obtain ⟨rfl, rfl⟩ := Prod.mk.inj (Option.some.inj hF)
      exact ⟨rfl, rfl, hG⟩
def F_X11_goer (n : Nat) (h : Hp) (x1 : Int32) (x2 : Int32) : Option (Int32 × Hp) := ((F_X0_hasGoer n h 23 x1).bind (fun q1 => (if (q1.1 : Int32) = 0 then some ((-1), q1.2) else (if x2 = 0 then (if ixOK x1 5 = true then some ((hi q1.2 32 (Int32.toNatClampNeg x1)), q1.2) else none) else (if x2 = 1 then (if ixOK x1 5 = true then some ((hi q1.2 33 (Int32.toNatClampNeg x1)), q1.2) else none) else (if x2 = 2 then ((F_X0_whereTo n q1.2 23 30 0 x1).bind (fun q9 => some (q9.1, q9.2))) else (if x2 = 3 then ((F_X0_whereTo n q1.2 23 30 1 x1).bind (fun q12 => some (q12.1, q12.2))) else some ((-1), q1.2))))))))
set_option maxRecDepth 100000 in
set_option maxHeartbeats 4000000 in
theorem s_X11_goer (d : Nat) {n : Nat} {h : Hp} {x1 : Int32} {x2 : Int32} {q0 : (Int32 × Hp)} (hF : F_X11_goer n h x1 x2 = some q0) (hG : G h)  : Kc mX11_goer (d + 4) [.ref 0, .int x1, .int x2] h (fun r1 h1 => r1 = some (.int q0.1) ∧ h1 = q0.2 ∧ G q0.2) := by
  obtain ⟨r, h'⟩ := q0
  unfold F_X11_goer at hF
  refine Kc.of [some (.ref 0), some (.int x1), some (.int x2)] ok_X11_goer rfl (Nat.le_of_ble_eq_true rfl) ?_
  refine v_aload_n (i := 0) dX11_goer_0 rfl rfl ?_
  refine g_X11_32 (q := 23) rfl sh_0 (by exact ltG hG (by decide)) (by exact rG hG r0_0_4) dX11_goer_1 ?_
  refine v_iload_n (i := 1) dX11_goer_4 rfl rfl ?_
  obtain ⟨q1, q1_e, hF⟩ := Option.bind_eq_some_iff.mp hF
  refine c_X11_160 rfl sh_23 (by exact ltG hG (by decide)) (Nat.le_of_ble_eq_true rfl) dX11_goer_5 (s_X0_hasGoer _ q1_e hG (by first | assumption | exact sc_30 | exact sc_34 | exact sc_10 | exact fd_24 | exact fd_4 | exact lw_25 | exact lw_5 | exact bd_23 | exact bd_3 | exact ⟨by first | assumption | rfl, by first | decide | omega⟩)) (fun r1 h1 hq => ?_)
  obtain ⟨rfl, hq, hG⟩ := hq
  replace hq := hq.symm
  subst hq
  show V _ _ _ _ (_ :: _) _ _
  refine v_if_ne 13 dX11_goer_8 (by decide) (fun c3 => ?_) (fun c3 => ?_)
  · rw [if_neg c3] at hF
    refine v_iload_n (i := 2) dX11_goer_13 rfl rfl ?_
    by_cases c4 : x2 = 0
    · rw [if_pos c4] at hF
      refine v_tableIn (off := 30) 44 dX11_goer_14 (by rw [c4]; decide) (by rw [c4]; decide) (by rw [c4]; decide +kernel) (by decide) ?_
      refine v_aload_n (i := 0) dX11_goer_44 rfl rfl ?_
      refine g_X11_44 (q := 30) rfl sh_0 (by exact ltG hG (by decide)) (by exact rG hG r0_0_6) dX11_goer_45 ?_
      refine g_X11_163 (q := 32) rfl sh_30 (by exact ltG hG (by decide)) (by exact rG hG r0_30_5) dX11_goer_48 ?_
      refine v_iload_n (i := 1) dX11_goer_51 rfl rfl ?_
      obtain ⟨k5, hF⟩ := ck_some hF
      refine v_iaload sh_32 (by exact ltG hG (by decide)) (ixO k5) dX11_goer_52 ?_
      refine v_ireturn rfl dX11_goer_53 ?_
      obtain ⟨rfl, rfl⟩ := Prod.mk.inj (Option.some.inj hF)
      exact ⟨rfl, rfl, hG⟩
    rw [if_neg c4] at hF
    by_cases c6 : x2 = 1
    · rw [if_pos c6] at hF
      refine v_tableIn (off := 40) 54 dX11_goer_14 (by rw [c6]; decide) (by rw [c6]; decide) (by rw [c6]; decide +kernel) (by decide) ?_
      refine v_aload_n (i := 0) dX11_goer_54 rfl rfl ?_
      refine g_X11_44 (q := 30) rfl sh_0 (by exact ltG hG (by decide)) (by exact rG hG r0_0_6) dX11_goer_55 ?_
      refine g_X11_167 (q := 33) rfl sh_30 (by exact ltG hG (by decide)) (by exact rG hG r0_30_6) dX11_goer_58 ?_
      refine v_iload_n (i := 1) dX11_goer_61 rfl rfl ?_
      obtain ⟨k7, hF⟩ := ck_some hF
      refine v_iaload sh_33 (by exact ltG hG (by decide)) (ixO k7) dX11_goer_62 ?_
      refine v_ireturn rfl dX11_goer_63 ?_
      obtain ⟨rfl, rfl⟩ := Prod.mk.inj (Option.some.inj hF)
      exact ⟨rfl, rfl, hG⟩
    rw [if_neg c6] at hF
    by_cases c8 : x2 = 2
    · rw [if_pos c8] at hF
      refine v_tableIn (off := 50) 64 dX11_goer_14 (by rw [c8]; decide) (by rw [c8]; decide) (by rw [c8]; decide +kernel) (by decide) ?_
      refine v_aload_n (i := 0) dX11_goer_64 rfl rfl ?_
      refine g_X11_32 (q := 23) rfl sh_0 (by exact ltG hG (by decide)) (by exact rG hG r0_0_4) dX11_goer_65 ?_
      refine v_aload_n (i := 0) dX11_goer_68 rfl rfl ?_
      refine g_X11_44 (q := 30) rfl sh_0 (by exact ltG hG (by decide)) (by exact rG hG r0_0_6) dX11_goer_69 ?_
      refine v_iconst (v := 0) dX11_goer_72 (by decide) ?_
      refine v_iload_n (i := 1) dX11_goer_73 rfl rfl ?_
      obtain ⟨q9, q9_e, hF⟩ := Option.bind_eq_some_iff.mp hF
      refine c_X11_170 rfl sh_23 (by exact ltG hG (by decide)) (Nat.le_of_ble_eq_true rfl) dX11_goer_74 (s_X0_whereTo _ q9_e hG (by first | assumption | exact sc_30 | exact sc_34 | exact sc_10 | exact fd_24 | exact fd_4 | exact lw_25 | exact lw_5 | exact bd_23 | exact bd_3 | exact ⟨by first | assumption | rfl, by first | decide | omega⟩) (by first | assumption | exact sc_30 | exact sc_34 | exact sc_10 | exact fd_24 | exact fd_4 | exact lw_25 | exact lw_5 | exact bd_23 | exact bd_3 | exact ⟨by first | assumption | rfl, by first | decide | omega⟩)) (fun r1 h1 hq => ?_)
      obtain ⟨rfl, hq, hG⟩ := hq
      replace hq := hq.symm
      subst hq
      show V _ _ _ _ (_ :: _) _ _
      refine v_ireturn rfl dX11_goer_77 ?_
      obtain ⟨rfl, rfl⟩ := Prod.mk.inj (Option.some.inj hF)
      exact ⟨rfl, rfl, hG⟩
    rw [if_neg c8] at hF
    by_cases c11 : x2 = 3
    · rw [if_pos c11] at hF
      refine v_tableIn (off := 64) 78 dX11_goer_14 (by rw [c11]; decide) (by rw [c11]; decide) (by rw [c11]; decide +kernel) (by decide) ?_
      refine v_aload_n (i := 0) dX11_goer_78 rfl rfl ?_
      refine g_X11_32 (q := 23) rfl sh_0 (by exact ltG hG (by decide)) (by exact rG hG r0_0_4) dX11_goer_79 ?_
      refine v_aload_n (i := 0) dX11_goer_82 rfl rfl ?_
      refine g_X11_44 (q := 30) rfl sh_0 (by exact ltG hG (by decide)) (by exact rG hG r0_0_6) dX11_goer_83 ?_
      refine v_iconst (v := 1) dX11_goer_86 (by decide) ?_
      refine v_iload_n (i := 1) dX11_goer_87 rfl rfl ?_
      obtain ⟨q12, q12_e, hF⟩ := Option.bind_eq_some_iff.mp hF
      refine c_X11_170 rfl sh_23 (by exact ltG hG (by decide)) (Nat.le_of_ble_eq_true rfl) dX11_goer_88 (s_X0_whereTo _ q12_e hG (by first | assumption | exact sc_30 | exact sc_34 | exact sc_10 | exact fd_24 | exact fd_4 | exact lw_25 | exact lw_5 | exact bd_23 | exact bd_3 | exact ⟨by first | assumption | rfl, by first | decide | omega⟩) (by first | assumption | exact sc_30 | exact sc_34 | exact sc_10 | exact fd_24 | exact fd_4 | exact lw_25 | exact lw_5 | exact bd_23 | exact bd_3 | exact ⟨by first | assumption | rfl, by first | decide | omega⟩)) (fun r1 h1 hq => ?_)
      obtain ⟨rfl, hq, hG⟩ := hq
      replace hq := hq.symm
      subst hq
      show V _ _ _ _ (_ :: _) _ _
      refine v_ireturn rfl dX11_goer_91 ?_
      obtain ⟨rfl, rfl⟩ := Prod.mk.inj (Option.some.inj hF)
      exact ⟨rfl, rfl, hG⟩
    rw [if_neg c11] at hF
    have e_c4 : ¬ (x2 : Int32).toInt = 0 := fun q => c4 (Int32.toInt_inj.mp (q.trans (by decide)))
    have e_c6 : ¬ (x2 : Int32).toInt = 1 := fun q => c6 (Int32.toInt_inj.mp (q.trans (by decide)))
    have e_c8 : ¬ (x2 : Int32).toInt = 2 := fun q => c8 (Int32.toInt_inj.mp (q.trans (by decide)))
    have e_c11 : ¬ (x2 : Int32).toInt = 3 := fun q => c11 (Int32.toInt_inj.mp (q.trans (by decide)))
    refine v_tableOut 92 dX11_goer_14 (by omega) (by decide) ?_
    refine v_iconst (v := (-1)) dX11_goer_92 (by decide) ?_
    refine v_ireturn rfl dX11_goer_93 ?_
    obtain ⟨rfl, rfl⟩ := Prod.mk.inj (Option.some.inj hF)
    exact ⟨rfl, rfl, hG⟩
  · rw [if_pos c3] at hF
    refine v_iconst (v := (-1)) dX11_goer_11 (by decide) ?_
    refine v_ireturn rfl dX11_goer_12 ?_
    obtain ⟨rfl, rfl⟩ := Prod.mk.inj (Option.some.inj hF)
    exact ⟨rfl, rfl, hG⟩
def F_X11_listen (n : Nat) (h : Hp) (x1 : Int32) : Option (Int32 × Hp) := ((F_X2_knows n h x1).bind (fun q1 => (if (q1.1 : Int32) = 0 then some ((-1), q1.2) else ((F_X2_fitting n q1.2 x1).bind (fun q4 => ((F_X2_bestTime n q4.2 q4.1).bind (fun q6 => some (q6.1, q6.2))))))))
set_option maxRecDepth 100000 in
set_option maxHeartbeats 4000000 in
theorem s_X11_listen (d : Nat) {n : Nat} {h : Hp} {x1 : Int32} {q0 : (Int32 × Hp)} (hF : F_X11_listen n h x1 = some q0) (hG : G h)  : Kc mX11_listen (d + 2) [.ref 0, .int x1] h (fun r1 h1 => r1 = some (.int q0.1) ∧ h1 = q0.2 ∧ G q0.2) := by
  obtain ⟨r, h'⟩ := q0
  unfold F_X11_listen at hF
  refine Kc.of [some (.ref 0), some (.int x1)] ok_X11_listen rfl (Nat.le_of_ble_eq_true rfl) ?_
  refine v_aload_n (i := 0) dX11_listen_0 rfl rfl ?_
  refine g_X11_68 (q := 201) rfl sh_0 (by exact ltG hG (by decide)) (by exact rG hG r0_0_11) dX11_listen_1 ?_
  refine v_iload_n (i := 1) dX11_listen_4 rfl rfl ?_
  obtain ⟨q1, q1_e, hF⟩ := Option.bind_eq_some_iff.mp hF
  refine c_X11_307 rfl sh_201 (by exact ltG hG (by decide)) (Nat.le_of_ble_eq_true rfl) dX11_listen_5 (s_X2_knows _ q1_e hG) (fun r1 h1 hq => ?_)
  obtain ⟨rfl, hq, hG⟩ := hq
  replace hq := hq.symm
  subst hq
  show V _ _ _ _ (_ :: _) _ _
  refine v_if_eq 25 dX11_listen_8 (by decide) (fun c3 => ?_) (fun c3 => ?_)
  · rw [if_pos c3] at hF
    refine v_iconst (v := (-1)) dX11_listen_25 (by decide) ?_
    refine v_ireturn rfl dX11_listen_26 ?_
    obtain ⟨rfl, rfl⟩ := Prod.mk.inj (Option.some.inj hF)
    exact ⟨rfl, rfl, hG⟩
  · rw [if_neg c3] at hF
    refine v_aload_n (i := 0) dX11_listen_11 rfl rfl ?_
    refine g_X11_68 (q := 201) rfl sh_0 (by exact ltG hG (by decide)) (by exact rG hG r0_0_11) dX11_listen_12 ?_
    refine v_iload_n (i := 1) dX11_listen_15 rfl rfl ?_
    obtain ⟨q4, q4_e, hF⟩ := Option.bind_eq_some_iff.mp hF
    refine c_X11_310 rfl sh_201 (by exact ltG hG (by decide)) (Nat.le_of_ble_eq_true rfl) dX11_listen_16 (s_X2_fitting _ q4_e hG) (fun r1 h1 hq => ?_)
    obtain ⟨rfl, hq, hG⟩ := hq
    replace hq := hq.symm
    subst hq
    show V _ _ _ _ (_ :: _) _ _
    obtain ⟨q6, q6_e, hF⟩ := Option.bind_eq_some_iff.mp hF
    refine c_X11_316 rfl (Nat.le_of_ble_eq_true rfl) dX11_listen_19 (s_X2_bestTime _ q6_e hG) (fun r1 h1 hq => ?_)
    obtain ⟨rfl, hq, hG⟩ := hq
    replace hq := hq.symm
    subst hq
    show V _ _ _ _ (_ :: _) _ _
    refine v_goto 26 dX11_listen_22 (by decide) ?_
    refine v_ireturn rfl dX11_listen_26 ?_
    obtain ⟨rfl, rfl⟩ := Prod.mk.inj (Option.some.inj hF)
    exact ⟨rfl, rfl, hG⟩
def F_X11_mow (n : Nat) (h : Hp) (x1 : Int32) : Option (Int32 × Hp) := ((F_X3_has n h 24 x1).bind (fun q1 => (if (q1.1 : Int32) = 0 then some ((-1), q1.2) else ((F_X8_isTuned n q1.2 30 x1).bind (fun q4 => (if (q4.1 : Int32) = 0 then some ((-1), q4.2) else ((F_X6_keep n q4.2 30).bind (fun q7 => ((F_X0_costOf n q7 23 30 x1).bind (fun q9 => ((F_X8_hush n (wrI q9.2 30 1 ((hi q9.2 30 1) + q9.1)) 30 x1).bind (fun q11 => some (q9.1, q11)))))))))))))
set_option maxRecDepth 100000 in
set_option maxHeartbeats 4000000 in
theorem s_X11_mow (d : Nat) {n : Nat} {h : Hp} {x1 : Int32} {q0 : (Int32 × Hp)} (hF : F_X11_mow n h x1 = some q0) (hG : G h)  : Kc mX11_mow (d + 4) [.ref 0, .int x1] h (fun r1 h1 => r1 = some (.int q0.1) ∧ h1 = q0.2 ∧ G q0.2) := by
  obtain ⟨r, h'⟩ := q0
  unfold F_X11_mow at hF
  refine Kc.of [some (.ref 0), some (.int x1), none] ok_X11_mow rfl (Nat.le_of_ble_eq_true rfl) ?_
  refine v_aload_n (i := 0) dX11_mow_0 rfl rfl ?_
  refine g_X11_40 (q := 24) rfl sh_0 (by exact ltG hG (by decide)) (by exact rG hG r0_0_5) dX11_mow_1 ?_
  refine v_iload_n (i := 1) dX11_mow_4 rfl rfl ?_
  obtain ⟨q1, q1_e, hF⟩ := Option.bind_eq_some_iff.mp hF
  refine c_X11_124 rfl sh_24 (by exact ltG hG (by decide)) (Nat.le_of_ble_eq_true rfl) dX11_mow_5 (s_X3_has _ q1_e hG (by first | assumption | exact sc_30 | exact sc_34 | exact sc_10 | exact fd_24 | exact fd_4 | exact lw_25 | exact lw_5 | exact bd_23 | exact bd_3 | exact ⟨by first | assumption | rfl, by first | decide | omega⟩)) (fun r1 h1 hq => ?_)
  obtain ⟨rfl, hq, hG⟩ := hq
  replace hq := hq.symm
  subst hq
  show V _ _ _ _ (_ :: _) _ _
  refine v_if_eq 22 dX11_mow_8 (by decide) (fun c3 => ?_) (fun c3 => ?_)
  · rw [if_pos c3] at hF
    refine v_iconst (v := (-1)) dX11_mow_22 (by decide) ?_
    refine v_ireturn rfl dX11_mow_23 ?_
    obtain ⟨rfl, rfl⟩ := Prod.mk.inj (Option.some.inj hF)
    exact ⟨rfl, rfl, hG⟩
  · rw [if_neg c3] at hF
    refine v_aload_n (i := 0) dX11_mow_11 rfl rfl ?_
    refine g_X11_44 (q := 30) rfl sh_0 (by exact ltG hG (by decide)) (by exact rG hG r0_0_6) dX11_mow_12 ?_
    refine v_iload_n (i := 1) dX11_mow_15 rfl rfl ?_
    obtain ⟨q4, q4_e, hF⟩ := Option.bind_eq_some_iff.mp hF
    refine c_X11_130 rfl sh_30 (by exact ltG hG (by decide)) (Nat.le_of_ble_eq_true rfl) dX11_mow_16 (s_X8_isTuned _ q4_e hG (by first | assumption | exact sc_30 | exact sc_34 | exact sc_10 | exact fd_24 | exact fd_4 | exact lw_25 | exact lw_5 | exact bd_23 | exact bd_3 | exact ⟨by first | assumption | rfl, by first | decide | omega⟩)) (fun r1 h1 hq => ?_)
    obtain ⟨rfl, hq, hG⟩ := hq
    replace hq := hq.symm
    subst hq
    show V _ _ _ _ (_ :: _) _ _
    refine v_if_ne 24 dX11_mow_19 (by decide) (fun c6 => ?_) (fun c6 => ?_)
    · rw [if_neg c6] at hF
      refine v_aload_n (i := 0) dX11_mow_24 rfl rfl ?_
      refine g_X11_54 (q := 38) rfl sh_0 (by exact ltG hG (by decide)) (by exact rG hG r0_0_8) dX11_mow_25 ?_
      refine v_aload_n (i := 0) dX11_mow_28 rfl rfl ?_
      refine g_X11_44 (q := 30) rfl sh_0 (by exact ltG hG (by decide)) (by exact rG hG r0_0_6) dX11_mow_29 ?_
      obtain ⟨q7, q7_e, hF⟩ := Option.bind_eq_some_iff.mp hF
      refine c_X11_220 rfl sh_38 (by exact ltG hG (by decide)) (Nat.le_of_ble_eq_true rfl) dX11_mow_32 (s_X6_keep _ q7_e hG (by first | assumption | exact sc_30 | exact sc_34 | exact sc_10 | exact fd_24 | exact fd_4 | exact lw_25 | exact lw_5 | exact bd_23 | exact bd_3 | exact ⟨by first | assumption | rfl, by first | decide | omega⟩)) (fun r1 h1 hq => ?_)
      obtain ⟨rfl, hq, hG⟩ := hq
      replace hq := hq.symm
      subst hq
      simp only [Option.toList, List.nil_append]
      refine v_aload_n (i := 0) dX11_mow_35 rfl rfl ?_
      refine g_X11_32 (q := 23) rfl sh_0 (by exact ltG hG (by decide)) (by exact rG hG r0_0_4) dX11_mow_36 ?_
      refine v_aload_n (i := 0) dX11_mow_39 rfl rfl ?_
      refine g_X11_44 (q := 30) rfl sh_0 (by exact ltG hG (by decide)) (by exact rG hG r0_0_6) dX11_mow_40 ?_
      refine v_iload_n (i := 1) dX11_mow_43 rfl rfl ?_
      obtain ⟨q9, q9_e, hF⟩ := Option.bind_eq_some_iff.mp hF
      refine c_X11_156 rfl sh_23 (by exact ltG hG (by decide)) (Nat.le_of_ble_eq_true rfl) dX11_mow_44 (s_X0_costOf _ q9_e hG (by first | assumption | exact sc_30 | exact sc_34 | exact sc_10 | exact fd_24 | exact fd_4 | exact lw_25 | exact lw_5 | exact bd_23 | exact bd_3 | exact ⟨by first | assumption | rfl, by first | decide | omega⟩) (by first | assumption | exact sc_30 | exact sc_34 | exact sc_10 | exact fd_24 | exact fd_4 | exact lw_25 | exact lw_5 | exact bd_23 | exact bd_3 | exact ⟨by first | assumption | rfl, by first | decide | omega⟩)) (fun r1 h1 hq => ?_)
      obtain ⟨rfl, hq, hG⟩ := hq
      replace hq := hq.symm
      subst hq
      show V _ _ _ _ (_ :: _) _ _
      refine v_istore_n (i := 2) dX11_mow_47 rfl (by decide) (nlT rfl) ?_
      simp only [List.set_cons_zero, List.set_cons_succ]
      refine v_aload_n (i := 0) dX11_mow_48 rfl rfl ?_
      refine g_X11_44 (q := 30) rfl sh_0 (by exact ltG hG (by decide)) (by exact rG hG r0_0_6) dX11_mow_49 ?_
      refine v_dup dX11_mow_52 rfl ?_
      refine g_X11_180 rfl sh_30 (by exact ltG hG (by decide)) dX11_mow_53 ?_
      refine v_iload_n (i := 2) dX11_mow_56 rfl rfl ?_
      refine v_iadd dX11_mow_57 ?_
      refine p_X11_180 rfl sh_30 (by exact ltG hG (by decide)) dX11_mow_58 ?_
      refine v_aload_n (i := 0) dX11_mow_61 rfl rfl ?_
      refine g_X11_44 (q := 30) rfl sh_0 (by exact ltG hG (by decide)) (by exact rG hG r0_0_6) dX11_mow_62 ?_
      refine v_iload_n (i := 1) dX11_mow_65 rfl rfl ?_
      obtain ⟨q11, q11_e, hF⟩ := Option.bind_eq_some_iff.mp hF
      refine c_X11_223 rfl sh_30 (by exact ltG hG (by decide)) (Nat.le_of_ble_eq_true rfl) dX11_mow_66 (s_X8_hush _ q11_e hG (by first | assumption | exact sc_30 | exact sc_34 | exact sc_10 | exact fd_24 | exact fd_4 | exact lw_25 | exact lw_5 | exact bd_23 | exact bd_3 | exact ⟨by first | assumption | rfl, by first | decide | omega⟩)) (fun r1 h1 hq => ?_)
      obtain ⟨rfl, hq, hG⟩ := hq
      replace hq := hq.symm
      subst hq
      simp only [Option.toList, List.nil_append]
      refine v_iload_n (i := 2) dX11_mow_69 rfl rfl ?_
      refine v_ireturn rfl dX11_mow_70 ?_
      obtain ⟨rfl, rfl⟩ := Prod.mk.inj (Option.some.inj hF)
      exact ⟨rfl, rfl, hG⟩
    · rw [if_pos c6] at hF
      refine v_iconst (v := (-1)) dX11_mow_22 (by decide) ?_
      refine v_ireturn rfl dX11_mow_23 ?_
      obtain ⟨rfl, rfl⟩ := Prod.mk.inj (Option.some.inj hF)
      exact ⟨rfl, rfl, hG⟩
def W_X11_next : Nat → Nat → Hp → Int32 → Int32 → Option (Int32 × Hp)
  | 0 => fun _ _ _ _ => none
  | n + 1 => fun hd h l1 l2 => (if hd = 15 then (if (6 : Int32) < (l2 : Int32) then some ((-2), h) else ((F_X8_soundsAt n h 30 l1 ((hi h 30 0) + l2)).bind (fun q2 => (if (q2.1 : Int32) = 0 then W_X11_next n 15 q2.2  l1 (l2 + 1) else some (l2, q2.2))))) else none)
set_option maxRecDepth 100000 in
set_option maxHeartbeats 4000000 in
theorem sw_X11_next (d : Nat)  (n : Nat) : (∀ (l1 : Int32) (l2 : Int32) (h : Hp), ∀ (r : Int32) (h' : Hp), W_X11_next n 15 h  l1 l2 = some (r, h') → G h → V mX11_next (d + 3) 15 [some (.ref 0), some (.int l1), some (.int l2)] [] h (fun r1 h1 => r1 = some (.int r) ∧ h1 = h' ∧ G h')) := by
  induction n with
  | zero => exact by intros; contradiction
  | succ n ih =>
    have s_X11_next_IH_15 := ih
    intro l1 l2 h r h' hF hG
    unfold W_X11_next at hF
    rw [if_pos rfl] at hF
    refine v_iload_n (i := 2) dX11_next_15 rfl rfl ?_
    refine v_bipush (v := 6) dX11_next_16 (by decide) ?_
    refine v_icmp_gt 49 dX11_next_18 (by decide) (fun c1 => ?_) (fun c1 => ?_)
    · rw [if_pos c1] at hF
      refine v_bipush (v := (-2)) dX11_next_49 (by decide) ?_
      refine v_ireturn rfl dX11_next_51 ?_
      obtain ⟨rfl, rfl⟩ := Prod.mk.inj (Option.some.inj hF)
      exact ⟨rfl, rfl, hG⟩
    · rw [if_neg c1] at hF
      refine v_aload_n (i := 0) dX11_next_21 rfl rfl ?_
      refine g_X11_44 (q := 30) rfl sh_0 (by exact ltG hG (by decide)) (by exact rG hG r0_0_6) dX11_next_22 ?_
      refine v_iload_n (i := 1) dX11_next_25 rfl rfl ?_
      refine v_aload_n (i := 0) dX11_next_26 rfl rfl ?_
      refine g_X11_44 (q := 30) rfl sh_0 (by exact ltG hG (by decide)) (by exact rG hG r0_0_6) dX11_next_27 ?_
      refine g_X11_139 rfl sh_30 (by exact ltG hG (by decide)) dX11_next_30 ?_
      refine v_iload_n (i := 2) dX11_next_33 rfl rfl ?_
      refine v_iadd dX11_next_34 ?_
      obtain ⟨q2, q2_e, hF⟩ := Option.bind_eq_some_iff.mp hF
      refine c_X11_142 rfl sh_30 (by exact ltG hG (by decide)) (Nat.le_of_ble_eq_true rfl) dX11_next_35 (s_X8_soundsAt _ q2_e hG (by first | assumption | exact sc_30 | exact sc_34 | exact sc_10 | exact fd_24 | exact fd_4 | exact lw_25 | exact lw_5 | exact bd_23 | exact bd_3 | exact ⟨by first | assumption | rfl, by first | decide | omega⟩)) (fun r1 h1 hq => ?_)
      obtain ⟨rfl, hq, hG⟩ := hq
      replace hq := hq.symm
      subst hq
      show V _ _ _ _ (_ :: _) _ _
      refine v_if_eq 43 dX11_next_38 (by decide) (fun c4 => ?_) (fun c4 => ?_)
      · rw [if_pos c4] at hF
        refine v_iinc (i := 2) (v := (l2 + 1)) dX11_next_43 rfl rfl (by decide) (nlT rfl) ?_
        simp only [List.set_cons_zero, List.set_cons_succ]
        refine v_goto 15 dX11_next_46 (by decide) ?_
        refine V.weak (la2 := [some (.ref 0), some (.int l1), some (.int (l2 + 1))]) (by simp [wk]) ?_
        exact (s_X11_next_IH_15) _ _ _ _ _ hF hG
      · rw [if_neg c4] at hF
        refine v_iload_n (i := 2) dX11_next_41 rfl rfl ?_
        refine v_ireturn rfl dX11_next_42 ?_
        obtain ⟨rfl, rfl⟩ := Prod.mk.inj (Option.some.inj hF)
        exact ⟨rfl, rfl, hG⟩
def F_X11_next (n : Nat) (h : Hp) (x1 : Int32) : Option (Int32 × Hp) := ((F_X3_has n h 24 x1).bind (fun q5 => (if (q5.1 : Int32) = 0 then some ((-1), q5.2) else W_X11_next n 15 q5.2  x1 1)))
set_option maxRecDepth 100000 in
set_option maxHeartbeats 4000000 in
theorem s_X11_next (d : Nat) {n : Nat} {h : Hp} {x1 : Int32} {q0 : (Int32 × Hp)} (hF : F_X11_next n h x1 = some q0) (hG : G h)  : Kc mX11_next (d + 3) [.ref 0, .int x1] h (fun r1 h1 => r1 = some (.int q0.1) ∧ h1 = q0.2 ∧ G q0.2) := by
  obtain ⟨r, h'⟩ := q0
  have s_X11_next_IH_15 := sw_X11_next d   n
  unfold F_X11_next at hF
  refine Kc.of [some (.ref 0), some (.int x1), none] ok_X11_next rfl (Nat.le_of_ble_eq_true rfl) ?_
  refine v_aload_n (i := 0) dX11_next_0 rfl rfl ?_
  refine g_X11_40 (q := 24) rfl sh_0 (by exact ltG hG (by decide)) (by exact rG hG r0_0_5) dX11_next_1 ?_
  refine v_iload_n (i := 1) dX11_next_4 rfl rfl ?_
  obtain ⟨q5, q5_e, hF⟩ := Option.bind_eq_some_iff.mp hF
  refine c_X11_124 rfl sh_24 (by exact ltG hG (by decide)) (Nat.le_of_ble_eq_true rfl) dX11_next_5 (s_X3_has _ q5_e hG (by first | assumption | exact sc_30 | exact sc_34 | exact sc_10 | exact fd_24 | exact fd_4 | exact lw_25 | exact lw_5 | exact bd_23 | exact bd_3 | exact ⟨by first | assumption | rfl, by first | decide | omega⟩)) (fun r1 h1 hq => ?_)
  obtain ⟨rfl, hq, hG⟩ := hq
  replace hq := hq.symm
  subst hq
  show V _ _ _ _ (_ :: _) _ _
  refine v_if_ne 13 dX11_next_8 (by decide) (fun c7 => ?_) (fun c7 => ?_)
  · rw [if_neg c7] at hF
    refine v_iconst (v := 1) dX11_next_13 (by decide) ?_
    refine v_istore_n (i := 2) dX11_next_14 rfl (by decide) (nlT rfl) ?_
    simp only [List.set_cons_zero, List.set_cons_succ]
    refine V.weak (la2 := [some (.ref 0), some (.int x1), some (.int 1)]) (by simp [wk]) ?_
    exact (s_X11_next_IH_15) _ _ _ _ _ hF hG
  · rw [if_pos c7] at hF
    refine v_iconst (v := (-1)) dX11_next_11 (by decide) ?_
    refine v_ireturn rfl dX11_next_12 ?_
    obtain ⟨rfl, rfl⟩ := Prod.mk.inj (Option.some.inj hF)
    exact ⟨rfl, rfl, hG⟩
def F_X11_rope (n : Nat) (h : Hp) (x1 : Int32) (x2 : Int32) : Option (Int32 × Hp) := ((F_X3_has n h 24 x1).bind (fun q1 => (if (q1.1 : Int32) = 0 then some (0, q1.2) else ((F_X8_isRoped n q1.2 30 x1).bind (fun q4 => (if (q4.1 : Int32) = (x2 : Int32) then some (0, q4.2) else ((F_X8_goersIn n q4.2 30 x1 (hi q4.2 23 2)).bind (fun q7 => (if (q7.1 : Int32) = 0 then (if (x2 : Int32) = 0 then ((F_X6_keep n q7.2 30).bind (fun q11 => some (1, (wrI q11 30 2 (((hi q11 30 2) : Int32) ^^^ (((1 : Int32) <<< ((x1 : Int32) &&& 31)) : Int32)))))) else ((F_X8_isTuned n q7.2 30 x1).bind (fun q13 => (if (q13.1 : Int32) = 0 then ((F_X6_keep n q13.2 30).bind (fun q16 => some (1, (wrI q16 30 2 (((hi q16 30 2) : Int32) ^^^ (((1 : Int32) <<< ((x1 : Int32) &&& 31)) : Int32)))))) else some (0, q13.2))))) else some (0, q7.2))))))))))
set_option maxRecDepth 100000 in
set_option maxHeartbeats 4000000 in
theorem s_X11_rope (d : Nat) {n : Nat} {h : Hp} {x1 : Int32} {x2 : Int32} {q0 : (Int32 × Hp)} (hF : F_X11_rope n h x1 x2 = some q0) (hG : G h)  : Kc mX11_rope (d + 3) [.ref 0, .int x1, .int x2] h (fun r1 h1 => r1 = some (.int q0.1) ∧ h1 = q0.2 ∧ G q0.2) := by
  obtain ⟨r, h'⟩ := q0
  unfold F_X11_rope at hF
  refine Kc.of [some (.ref 0), some (.int x1), some (.int x2)] ok_X11_rope rfl (Nat.le_of_ble_eq_true rfl) ?_
  refine v_aload_n (i := 0) dX11_rope_0 rfl rfl ?_
  refine g_X11_40 (q := 24) rfl sh_0 (by exact ltG hG (by decide)) (by exact rG hG r0_0_5) dX11_rope_1 ?_
  refine v_iload_n (i := 1) dX11_rope_4 rfl rfl ?_
  obtain ⟨q1, q1_e, hF⟩ := Option.bind_eq_some_iff.mp hF
  refine c_X11_124 rfl sh_24 (by exact ltG hG (by decide)) (Nat.le_of_ble_eq_true rfl) dX11_rope_5 (s_X3_has _ q1_e hG (by first | assumption | exact sc_30 | exact sc_34 | exact sc_10 | exact fd_24 | exact fd_4 | exact lw_25 | exact lw_5 | exact bd_23 | exact bd_3 | exact ⟨by first | assumption | rfl, by first | decide | omega⟩)) (fun r1 h1 hq => ?_)
  obtain ⟨rfl, hq, hG⟩ := hq
  replace hq := hq.symm
  subst hq
  show V _ _ _ _ (_ :: _) _ _
  refine v_if_eq 41 dX11_rope_8 (by decide) (fun c3 => ?_) (fun c3 => ?_)
  · rw [if_pos c3] at hF
    refine v_iconst (v := 0) dX11_rope_41 (by decide) ?_
    refine v_zreturn rfl (by decide) dX11_rope_42 ?_
    obtain ⟨rfl, rfl⟩ := Prod.mk.inj (Option.some.inj hF)
    exact ⟨rfl, rfl, hG⟩
  · rw [if_neg c3] at hF
    refine v_aload_n (i := 0) dX11_rope_11 rfl rfl ?_
    refine g_X11_44 (q := 30) rfl sh_0 (by exact ltG hG (by decide)) (by exact rG hG r0_0_6) dX11_rope_12 ?_
    refine v_iload_n (i := 1) dX11_rope_15 rfl rfl ?_
    obtain ⟨q4, q4_e, hF⟩ := Option.bind_eq_some_iff.mp hF
    refine c_X11_146 rfl sh_30 (by exact ltG hG (by decide)) (Nat.le_of_ble_eq_true rfl) dX11_rope_16 (s_X8_isRoped _ q4_e hG (by first | assumption | exact sc_30 | exact sc_34 | exact sc_10 | exact fd_24 | exact fd_4 | exact lw_25 | exact lw_5 | exact bd_23 | exact bd_3 | exact ⟨by first | assumption | rfl, by first | decide | omega⟩)) (fun r1 h1 hq => ?_)
    obtain ⟨rfl, hq, hG⟩ := hq
    replace hq := hq.symm
    subst hq
    show V _ _ _ _ (_ :: _) _ _
    refine v_iload_n (i := 2) dX11_rope_19 rfl rfl ?_
    refine v_icmp_eq 41 dX11_rope_20 (by decide) (fun c6 => ?_) (fun c6 => ?_)
    · rw [if_pos c6] at hF
      refine v_iconst (v := 0) dX11_rope_41 (by decide) ?_
      refine v_zreturn rfl (by decide) dX11_rope_42 ?_
      obtain ⟨rfl, rfl⟩ := Prod.mk.inj (Option.some.inj hF)
      exact ⟨rfl, rfl, hG⟩
    · rw [if_neg c6] at hF
      refine v_aload_n (i := 0) dX11_rope_23 rfl rfl ?_
      refine g_X11_44 (q := 30) rfl sh_0 (by exact ltG hG (by decide)) (by exact rG hG r0_0_6) dX11_rope_24 ?_
      refine v_iload_n (i := 1) dX11_rope_27 rfl rfl ?_
      refine v_aload_n (i := 0) dX11_rope_28 rfl rfl ?_
      refine g_X11_32 (q := 23) rfl sh_0 (by exact ltG hG (by decide)) (by exact rG hG r0_0_4) dX11_rope_29 ?_
      refine g_X11_149 rfl sh_23 (by exact ltG hG (by decide)) dX11_rope_32 ?_
      obtain ⟨q7, q7_e, hF⟩ := Option.bind_eq_some_iff.mp hF
      refine c_X11_152 rfl sh_30 (by exact ltG hG (by decide)) (Nat.le_of_ble_eq_true rfl) dX11_rope_35 (s_X8_goersIn _ q7_e hG (by first | assumption | exact sc_30 | exact sc_34 | exact sc_10 | exact fd_24 | exact fd_4 | exact lw_25 | exact lw_5 | exact bd_23 | exact bd_3 | exact ⟨by first | assumption | rfl, by first | decide | omega⟩)) (fun r1 h1 hq => ?_)
      obtain ⟨rfl, hq, hG⟩ := hq
      replace hq := hq.symm
      subst hq
      show V _ _ _ _ (_ :: _) _ _
      refine v_if_eq 43 dX11_rope_38 (by decide) (fun c9 => ?_) (fun c9 => ?_)
      · rw [if_pos c9] at hF
        refine v_iload_n (i := 2) dX11_rope_43 rfl rfl ?_
        refine v_if_eq 60 dX11_rope_44 (by decide) (fun c10 => ?_) (fun c10 => ?_)
        · rw [if_pos c10] at hF
          refine v_aload_n (i := 0) dX11_rope_60 rfl rfl ?_
          refine g_X11_54 (q := 38) rfl sh_0 (by exact ltG hG (by decide)) (by exact rG hG r0_0_8) dX11_rope_61 ?_
          refine v_aload_n (i := 0) dX11_rope_64 rfl rfl ?_
          refine g_X11_44 (q := 30) rfl sh_0 (by exact ltG hG (by decide)) (by exact rG hG r0_0_6) dX11_rope_65 ?_
          obtain ⟨q11, q11_e, hF⟩ := Option.bind_eq_some_iff.mp hF
          refine c_X11_220 rfl sh_38 (by exact ltG hG (by decide)) (Nat.le_of_ble_eq_true rfl) dX11_rope_68 (s_X6_keep _ q11_e hG (by first | assumption | exact sc_30 | exact sc_34 | exact sc_10 | exact fd_24 | exact fd_4 | exact lw_25 | exact lw_5 | exact bd_23 | exact bd_3 | exact ⟨by first | assumption | rfl, by first | decide | omega⟩)) (fun r1 h1 hq => ?_)
          obtain ⟨rfl, hq, hG⟩ := hq
          replace hq := hq.symm
          subst hq
          simp only [Option.toList, List.nil_append]
          refine v_aload_n (i := 0) dX11_rope_71 rfl rfl ?_
          refine g_X11_44 (q := 30) rfl sh_0 (by exact ltG hG (by decide)) (by exact rG hG r0_0_6) dX11_rope_72 ?_
          refine v_dup dX11_rope_75 rfl ?_
          refine g_X11_186 rfl sh_30 (by exact ltG hG (by decide)) dX11_rope_76 ?_
          refine v_iconst (v := 1) dX11_rope_79 (by decide) ?_
          refine v_iload_n (i := 1) dX11_rope_80 rfl rfl ?_
          refine v_ishl dX11_rope_81 ?_
          refine v_ixor dX11_rope_82 ?_
          refine p_X11_186 rfl sh_30 (by exact ltG hG (by decide)) dX11_rope_83 ?_
          refine v_iconst (v := 1) dX11_rope_86 (by decide) ?_
          refine v_zreturn rfl (by decide) dX11_rope_87 ?_
          obtain ⟨rfl, rfl⟩ := Prod.mk.inj (Option.some.inj hF)
          exact ⟨rfl, rfl, hG⟩
        · rw [if_neg c10] at hF
          refine v_aload_n (i := 0) dX11_rope_47 rfl rfl ?_
          refine g_X11_44 (q := 30) rfl sh_0 (by exact ltG hG (by decide)) (by exact rG hG r0_0_6) dX11_rope_48 ?_
          refine v_iload_n (i := 1) dX11_rope_51 rfl rfl ?_
          obtain ⟨q13, q13_e, hF⟩ := Option.bind_eq_some_iff.mp hF
          refine c_X11_130 rfl sh_30 (by exact ltG hG (by decide)) (Nat.le_of_ble_eq_true rfl) dX11_rope_52 (s_X8_isTuned _ q13_e hG (by first | assumption | exact sc_30 | exact sc_34 | exact sc_10 | exact fd_24 | exact fd_4 | exact lw_25 | exact lw_5 | exact bd_23 | exact bd_3 | exact ⟨by first | assumption | rfl, by first | decide | omega⟩)) (fun r1 h1 hq => ?_)
          obtain ⟨rfl, hq, hG⟩ := hq
          replace hq := hq.symm
          subst hq
          show V _ _ _ _ (_ :: _) _ _
          refine v_if_eq 60 dX11_rope_55 (by decide) (fun c15 => ?_) (fun c15 => ?_)
          · rw [if_pos c15] at hF
            refine v_aload_n (i := 0) dX11_rope_60 rfl rfl ?_
            refine g_X11_54 (q := 38) rfl sh_0 (by exact ltG hG (by decide)) (by exact rG hG r0_0_8) dX11_rope_61 ?_
            refine v_aload_n (i := 0) dX11_rope_64 rfl rfl ?_
            refine g_X11_44 (q := 30) rfl sh_0 (by exact ltG hG (by decide)) (by exact rG hG r0_0_6) dX11_rope_65 ?_
            obtain ⟨q16, q16_e, hF⟩ := Option.bind_eq_some_iff.mp hF
            refine c_X11_220 rfl sh_38 (by exact ltG hG (by decide)) (Nat.le_of_ble_eq_true rfl) dX11_rope_68 (s_X6_keep _ q16_e hG (by first | assumption | exact sc_30 | exact sc_34 | exact sc_10 | exact fd_24 | exact fd_4 | exact lw_25 | exact lw_5 | exact bd_23 | exact bd_3 | exact ⟨by first | assumption | rfl, by first | decide | omega⟩)) (fun r1 h1 hq => ?_)
            obtain ⟨rfl, hq, hG⟩ := hq
            replace hq := hq.symm
            subst hq
            simp only [Option.toList, List.nil_append]
            refine v_aload_n (i := 0) dX11_rope_71 rfl rfl ?_
            refine g_X11_44 (q := 30) rfl sh_0 (by exact ltG hG (by decide)) (by exact rG hG r0_0_6) dX11_rope_72 ?_
            refine v_dup dX11_rope_75 rfl ?_
            refine g_X11_186 rfl sh_30 (by exact ltG hG (by decide)) dX11_rope_76 ?_
            refine v_iconst (v := 1) dX11_rope_79 (by decide) ?_
            refine v_iload_n (i := 1) dX11_rope_80 rfl rfl ?_
            refine v_ishl dX11_rope_81 ?_
            refine v_ixor dX11_rope_82 ?_
            refine p_X11_186 rfl sh_30 (by exact ltG hG (by decide)) dX11_rope_83 ?_
            refine v_iconst (v := 1) dX11_rope_86 (by decide) ?_
            refine v_zreturn rfl (by decide) dX11_rope_87 ?_
            obtain ⟨rfl, rfl⟩ := Prod.mk.inj (Option.some.inj hF)
            exact ⟨rfl, rfl, hG⟩
          · rw [if_neg c15] at hF
            refine v_iconst (v := 0) dX11_rope_58 (by decide) ?_
            refine v_zreturn rfl (by decide) dX11_rope_59 ?_
            obtain ⟨rfl, rfl⟩ := Prod.mk.inj (Option.some.inj hF)
            exact ⟨rfl, rfl, hG⟩
      · rw [if_neg c9] at hF
        refine v_iconst (v := 0) dX11_rope_41 (by decide) ?_
        refine v_zreturn rfl (by decide) dX11_rope_42 ?_
        obtain ⟨rfl, rfl⟩ := Prod.mk.inj (Option.some.inj hF)
        exact ⟨rfl, rfl, hG⟩
def W_X11_together : Nat → Nat → Hp → Int32 → Int32 → Int32 → Option (Int32 × Hp)
  | 0 => fun _ _ _ _ _ => none
  | n + 1 => fun hd h l1 l2 l3 => (if hd = 26 then (if (60 : Int32) ≤ (l3 : Int32) then some ((-2), h) else ((F_X8_soundsAt n h 30 l1 ((hi h 30 0) + l3)).bind (fun q2 => (if (q2.1 : Int32) = 0 then W_X11_together n 26 q2.2  l1 l2 (l3 + 1) else ((F_X8_soundsAt n q2.2 30 l2 ((hi q2.2 30 0) + l3)).bind (fun q5 => (if (q5.1 : Int32) = 0 then W_X11_together n 26 q5.2  l1 l2 (l3 + 1) else some (l3, q5.2)))))))) else none)
set_option maxRecDepth 100000 in
set_option maxHeartbeats 4000000 in
theorem sw_X11_together (d : Nat)  (n : Nat) : (∀ (l1 : Int32) (l2 : Int32) (l3 : Int32) (h : Hp), ∀ (r : Int32) (h' : Hp), W_X11_together n 26 h  l1 l2 l3 = some (r, h') → G h → V mX11_together (d + 3) 26 [some (.ref 0), some (.int l1), some (.int l2), some (.int l3)] [] h (fun r1 h1 => r1 = some (.int r) ∧ h1 = h' ∧ G h')) := by
  induction n with
  | zero => exact by intros; contradiction
  | succ n ih =>
    have s_X11_together_IH_26 := ih
    intro l1 l2 l3 h r h' hF hG
    unfold W_X11_together at hF
    rw [if_pos rfl] at hF
    refine v_iload_n (i := 3) dX11_together_26 rfl rfl ?_
    refine v_bipush (v := 60) dX11_together_27 (by decide) ?_
    refine v_icmp_ge 80 dX11_together_29 (by decide) (fun c1 => ?_) (fun c1 => ?_)
    · rw [if_pos c1] at hF
      refine v_bipush (v := (-2)) dX11_together_80 (by decide) ?_
      refine v_ireturn rfl dX11_together_82 ?_
      obtain ⟨rfl, rfl⟩ := Prod.mk.inj (Option.some.inj hF)
      exact ⟨rfl, rfl, hG⟩
    · rw [if_neg c1] at hF
      refine v_aload_n (i := 0) dX11_together_32 rfl rfl ?_
      refine g_X11_44 (q := 30) rfl sh_0 (by exact ltG hG (by decide)) (by exact rG hG r0_0_6) dX11_together_33 ?_
      refine v_iload_n (i := 1) dX11_together_36 rfl rfl ?_
      refine v_aload_n (i := 0) dX11_together_37 rfl rfl ?_
      refine g_X11_44 (q := 30) rfl sh_0 (by exact ltG hG (by decide)) (by exact rG hG r0_0_6) dX11_together_38 ?_
      refine g_X11_139 rfl sh_30 (by exact ltG hG (by decide)) dX11_together_41 ?_
      refine v_iload_n (i := 3) dX11_together_44 rfl rfl ?_
      refine v_iadd dX11_together_45 ?_
      obtain ⟨q2, q2_e, hF⟩ := Option.bind_eq_some_iff.mp hF
      refine c_X11_142 rfl sh_30 (by exact ltG hG (by decide)) (Nat.le_of_ble_eq_true rfl) dX11_together_46 (s_X8_soundsAt _ q2_e hG (by first | assumption | exact sc_30 | exact sc_34 | exact sc_10 | exact fd_24 | exact fd_4 | exact lw_25 | exact lw_5 | exact bd_23 | exact bd_3 | exact ⟨by first | assumption | rfl, by first | decide | omega⟩)) (fun r1 h1 hq => ?_)
      obtain ⟨rfl, hq, hG⟩ := hq
      replace hq := hq.symm
      subst hq
      show V _ _ _ _ (_ :: _) _ _
      refine v_if_eq 74 dX11_together_49 (by decide) (fun c4 => ?_) (fun c4 => ?_)
      · rw [if_pos c4] at hF
        refine v_iinc (i := 3) (v := (l3 + 1)) dX11_together_74 rfl rfl (by decide) (nlT rfl) ?_
        simp only [List.set_cons_zero, List.set_cons_succ]
        refine v_goto 26 dX11_together_77 (by decide) ?_
        refine V.weak (la2 := [some (.ref 0), some (.int l1), some (.int l2), some (.int (l3 + 1))]) (by simp [wk]) ?_
        exact (s_X11_together_IH_26) _ _ _ _ _ _ hF hG
      · rw [if_neg c4] at hF
        refine v_aload_n (i := 0) dX11_together_52 rfl rfl ?_
        refine g_X11_44 (q := 30) rfl sh_0 (by exact ltG hG (by decide)) (by exact rG hG r0_0_6) dX11_together_53 ?_
        refine v_iload_n (i := 2) dX11_together_56 rfl rfl ?_
        refine v_aload_n (i := 0) dX11_together_57 rfl rfl ?_
        refine g_X11_44 (q := 30) rfl sh_0 (by exact ltG hG (by decide)) (by exact rG hG r0_0_6) dX11_together_58 ?_
        refine g_X11_139 rfl sh_30 (by exact ltG hG (by decide)) dX11_together_61 ?_
        refine v_iload_n (i := 3) dX11_together_64 rfl rfl ?_
        refine v_iadd dX11_together_65 ?_
        obtain ⟨q5, q5_e, hF⟩ := Option.bind_eq_some_iff.mp hF
        refine c_X11_142 rfl sh_30 (by exact ltG hG (by decide)) (Nat.le_of_ble_eq_true rfl) dX11_together_66 (s_X8_soundsAt _ q5_e hG (by first | assumption | exact sc_30 | exact sc_34 | exact sc_10 | exact fd_24 | exact fd_4 | exact lw_25 | exact lw_5 | exact bd_23 | exact bd_3 | exact ⟨by first | assumption | rfl, by first | decide | omega⟩)) (fun r1 h1 hq => ?_)
        obtain ⟨rfl, hq, hG⟩ := hq
        replace hq := hq.symm
        subst hq
        show V _ _ _ _ (_ :: _) _ _
        refine v_if_eq 74 dX11_together_69 (by decide) (fun c7 => ?_) (fun c7 => ?_)
        · rw [if_pos c7] at hF
          refine v_iinc (i := 3) (v := (l3 + 1)) dX11_together_74 rfl rfl (by decide) (nlT rfl) ?_
          simp only [List.set_cons_zero, List.set_cons_succ]
          refine v_goto 26 dX11_together_77 (by decide) ?_
          refine V.weak (la2 := [some (.ref 0), some (.int l1), some (.int l2), some (.int (l3 + 1))]) (by simp [wk]) ?_
          exact (s_X11_together_IH_26) _ _ _ _ _ _ hF hG
        · rw [if_neg c7] at hF
          refine v_iload_n (i := 3) dX11_together_72 rfl rfl ?_
          refine v_ireturn rfl dX11_together_73 ?_
          obtain ⟨rfl, rfl⟩ := Prod.mk.inj (Option.some.inj hF)
          exact ⟨rfl, rfl, hG⟩
def F_X11_together (n : Nat) (h : Hp) (x1 : Int32) (x2 : Int32) : Option (Int32 × Hp) := ((F_X3_has n h 24 x1).bind (fun q8 => (if (q8.1 : Int32) = 0 then some ((-1), q8.2) else ((F_X3_has n q8.2 24 x2).bind (fun q11 => (if (q11.1 : Int32) = 0 then some ((-1), q11.2) else W_X11_together n 26 q11.2  x1 x2 0))))))
set_option maxRecDepth 100000 in
set_option maxHeartbeats 4000000 in
theorem s_X11_together (d : Nat) {n : Nat} {h : Hp} {x1 : Int32} {x2 : Int32} {q0 : (Int32 × Hp)} (hF : F_X11_together n h x1 x2 = some q0) (hG : G h)  : Kc mX11_together (d + 3) [.ref 0, .int x1, .int x2] h (fun r1 h1 => r1 = some (.int q0.1) ∧ h1 = q0.2 ∧ G q0.2) := by
  obtain ⟨r, h'⟩ := q0
  have s_X11_together_IH_26 := sw_X11_together d   n
  unfold F_X11_together at hF
  refine Kc.of [some (.ref 0), some (.int x1), some (.int x2), none] ok_X11_together rfl (Nat.le_of_ble_eq_true rfl) ?_
  refine v_aload_n (i := 0) dX11_together_0 rfl rfl ?_
  refine g_X11_40 (q := 24) rfl sh_0 (by exact ltG hG (by decide)) (by exact rG hG r0_0_5) dX11_together_1 ?_
  refine v_iload_n (i := 1) dX11_together_4 rfl rfl ?_
  obtain ⟨q8, q8_e, hF⟩ := Option.bind_eq_some_iff.mp hF
  refine c_X11_124 rfl sh_24 (by exact ltG hG (by decide)) (Nat.le_of_ble_eq_true rfl) dX11_together_5 (s_X3_has _ q8_e hG (by first | assumption | exact sc_30 | exact sc_34 | exact sc_10 | exact fd_24 | exact fd_4 | exact lw_25 | exact lw_5 | exact bd_23 | exact bd_3 | exact ⟨by first | assumption | rfl, by first | decide | omega⟩)) (fun r1 h1 hq => ?_)
  obtain ⟨rfl, hq, hG⟩ := hq
  replace hq := hq.symm
  subst hq
  show V _ _ _ _ (_ :: _) _ _
  refine v_if_eq 22 dX11_together_8 (by decide) (fun c10 => ?_) (fun c10 => ?_)
  · rw [if_pos c10] at hF
    refine v_iconst (v := (-1)) dX11_together_22 (by decide) ?_
    refine v_ireturn rfl dX11_together_23 ?_
    obtain ⟨rfl, rfl⟩ := Prod.mk.inj (Option.some.inj hF)
    exact ⟨rfl, rfl, hG⟩
  · rw [if_neg c10] at hF
    refine v_aload_n (i := 0) dX11_together_11 rfl rfl ?_
    refine g_X11_40 (q := 24) rfl sh_0 (by exact ltG hG (by decide)) (by exact rG hG r0_0_5) dX11_together_12 ?_
    refine v_iload_n (i := 2) dX11_together_15 rfl rfl ?_
    obtain ⟨q11, q11_e, hF⟩ := Option.bind_eq_some_iff.mp hF
    refine c_X11_124 rfl sh_24 (by exact ltG hG (by decide)) (Nat.le_of_ble_eq_true rfl) dX11_together_16 (s_X3_has _ q11_e hG (by first | assumption | exact sc_30 | exact sc_34 | exact sc_10 | exact fd_24 | exact fd_4 | exact lw_25 | exact lw_5 | exact bd_23 | exact bd_3 | exact ⟨by first | assumption | rfl, by first | decide | omega⟩)) (fun r1 h1 hq => ?_)
    obtain ⟨rfl, hq, hG⟩ := hq
    replace hq := hq.symm
    subst hq
    show V _ _ _ _ (_ :: _) _ _
    refine v_if_ne 24 dX11_together_19 (by decide) (fun c13 => ?_) (fun c13 => ?_)
    · rw [if_neg c13] at hF
      refine v_iconst (v := 0) dX11_together_24 (by decide) ?_
      refine v_istore_n (i := 3) dX11_together_25 rfl (by decide) (nlT rfl) ?_
      simp only [List.set_cons_zero, List.set_cons_succ]
      refine V.weak (la2 := [some (.ref 0), some (.int x1), some (.int x2), some (.int 0)]) (by simp [wk]) ?_
      exact (s_X11_together_IH_26) _ _ _ _ _ _ hF hG
    · rw [if_pos c13] at hF
      refine v_iconst (v := (-1)) dX11_together_22 (by decide) ?_
      refine v_ireturn rfl dX11_together_23 ?_
      obtain ⟨rfl, rfl⟩ := Prod.mk.inj (Option.some.inj hF)
      exact ⟨rfl, rfl, hG⟩
def F_X11_undo (n : Nat) (h : Hp) : Option (Int32 × Hp) := ((F_X6_takeBack n h 30).bind (fun q1 => (if q1.1 = 0 ∨ q1.1 = 1 then some (q1.1, q1.2) else none)))
set_option maxRecDepth 100000 in
set_option maxHeartbeats 4000000 in
theorem s_X11_undo (d : Nat) {n : Nat} {h : Hp}  {q0 : (Int32 × Hp)} (hF : F_X11_undo n h  = some q0) (hG : G h)  : Kc mX11_undo (d + 3) [.ref 0] h (fun r1 h1 => r1 = some (.int q0.1) ∧ h1 = q0.2 ∧ G q0.2) := by
  obtain ⟨r, h'⟩ := q0
  unfold F_X11_undo at hF
  refine Kc.of [some (.ref 0)] ok_X11_undo rfl (Nat.le_of_ble_eq_true rfl) ?_
  refine v_aload_n (i := 0) dX11_undo_0 rfl rfl ?_
  refine g_X11_54 (q := 38) rfl sh_0 (by exact ltG hG (by decide)) (by exact rG hG r0_0_8) dX11_undo_1 ?_
  refine v_aload_n (i := 0) dX11_undo_4 rfl rfl ?_
  refine g_X11_44 (q := 30) rfl sh_0 (by exact ltG hG (by decide)) (by exact rG hG r0_0_6) dX11_undo_5 ?_
  obtain ⟨q1, q1_e, hF⟩ := Option.bind_eq_some_iff.mp hF
  refine c_X11_233 rfl sh_38 (by exact ltG hG (by decide)) (Nat.le_of_ble_eq_true rfl) dX11_undo_8 (s_X6_takeBack _ q1_e hG (by first | assumption | exact sc_30 | exact sc_34 | exact sc_10 | exact fd_24 | exact fd_4 | exact lw_25 | exact lw_5 | exact bd_23 | exact bd_3 | exact ⟨by first | assumption | rfl, by first | decide | omega⟩)) (fun r1 h1 hq => ?_)
  obtain ⟨rfl, hq, hG⟩ := hq
  replace hq := hq.symm
  subst hq
  show V _ _ _ _ (_ :: _) _ _
  obtain ⟨k3, hF⟩ := ck_some hF
  refine v_zreturn rfl k3 dX11_undo_11 ?_
  obtain ⟨rfl, rfl⟩ := Prod.mk.inj (Option.some.inj hF)
  exact ⟨rfl, rfl, hG⟩
def W_X12_centre : Nat → Nat → Hp → Int32 → Int32 → Int32 → Int32 → Option (Int32 × Hp)
  | 0 => fun _ _ _ _ _ _ => none
  | n + 1 => fun hd h l1 l2 l3 l4 => (if hd = 24 then ((F_X12_cells n h).bind (fun q1 => (if (q1.1 : Int32) ≤ (l4 : Int32) then (if (l1 : Int32) = 0 then some (l2, q1.2) else some (l3, q1.2)) else ((F_X12_isRoped n q1.2 l4).bind (fun q5 => (if (q5.1 : Int32) = 0 then ((F_X12_farthestFrom n q5.2 l4).bind (fun q8 => (if (25 : Int32) < (q8.1 : Int32) then W_X12_centre n 24 q8.2  l1 l2 l3 (l4 + 1) else (if (l2 : Int32) < 0 then W_X12_centre n 24 q8.2  l1 l4 q8.1 (l4 + 1) else (if (q8.1 : Int32) < (l3 : Int32) then W_X12_centre n 24 q8.2  l1 l4 q8.1 (l4 + 1) else W_X12_centre n 24 q8.2  l1 l2 l3 (l4 + 1)))))) else (if (25 : Int32) < (26 : Int32) then W_X12_centre n 24 q5.2  l1 l2 l3 (l4 + 1) else (if (l2 : Int32) < 0 then W_X12_centre n 24 q5.2  l1 l4 26 (l4 + 1) else (if (26 : Int32) < (l3 : Int32) then W_X12_centre n 24 q5.2  l1 l4 26 (l4 + 1) else W_X12_centre n 24 q5.2  l1 l2 l3 (l4 + 1)))))))))) else none)
set_option maxRecDepth 100000 in
set_option maxHeartbeats 4000000 in
theorem sw_X12_centre (d : Nat)  (n : Nat) : (∀ (l1 : Int32) (l2 : Int32) (l3 : Int32) (l4 : Int32) (h : Hp), ∀ (r : Int32) (h' : Hp), W_X12_centre n 24 h  l1 l2 l3 l4 = some (r, h') → G h → V mX12_centre (d + 4) 24 [some (.ref 226), some (.int l1), some (.int l2), some (.int l3), some (.int l4), none] [] h (fun r1 h1 => r1 = some (.int r) ∧ h1 = h' ∧ G h')) := by
  induction n with
  | zero => exact by intros; contradiction
  | succ n ih =>
    have s_X12_centre_IH_24 := ih
    intro l1 l2 l3 l4 h r h' hF hG
    unfold W_X12_centre at hF
    rw [if_pos rfl] at hF
    refine v_iload (i := 4) dX12_centre_24 rfl ?_
    refine v_aload_n (i := 0) dX12_centre_26 rfl rfl ?_
    obtain ⟨q1, q1_e, hF⟩ := Option.bind_eq_some_iff.mp hF
    refine c_X12_326 rfl sh_226 (by exact ltG hG (by decide)) (Nat.le_of_ble_eq_true rfl) dX12_centre_27 (s_X12_cells _ q1_e hG) (fun r1 h1 hq => ?_)
    obtain ⟨rfl, hq, hG⟩ := hq
    replace hq := hq.symm
    subst hq
    show V _ _ _ _ (_ :: _) _ _
    refine v_icmp_ge 87 dX12_centre_30 (by decide) (fun c3 => ?_) (fun c3 => ?_)
    · rw [if_pos c3] at hF
      refine v_iload_n (i := 1) dX12_centre_87 rfl rfl ?_
      refine v_if_ne 95 dX12_centre_88 (by decide) (fun c4 => ?_) (fun c4 => ?_)
      · rw [if_neg c4] at hF
        refine v_iload_n (i := 3) dX12_centre_95 rfl rfl ?_
        refine v_ireturn rfl dX12_centre_96 ?_
        obtain ⟨rfl, rfl⟩ := Prod.mk.inj (Option.some.inj hF)
        exact ⟨rfl, rfl, hG⟩
      · rw [if_pos c4] at hF
        refine v_iload_n (i := 2) dX12_centre_91 rfl rfl ?_
        refine v_goto 96 dX12_centre_92 (by decide) ?_
        refine v_ireturn rfl dX12_centre_96 ?_
        obtain ⟨rfl, rfl⟩ := Prod.mk.inj (Option.some.inj hF)
        exact ⟨rfl, rfl, hG⟩
    · rw [if_neg c3] at hF
      refine v_aload_n (i := 0) dX12_centre_33 rfl rfl ?_
      refine v_iload (i := 4) dX12_centre_34 rfl ?_
      obtain ⟨q5, q5_e, hF⟩ := Option.bind_eq_some_iff.mp hF
      refine c_X12_372 rfl sh_226 (by exact ltG hG (by decide)) (Nat.le_of_ble_eq_true rfl) dX12_centre_36 (s_X12_isRoped _ q5_e hG) (fun r1 h1 hq => ?_)
      obtain ⟨rfl, hq, hG⟩ := hq
      replace hq := hq.symm
      subst hq
      show V _ _ _ _ (_ :: _) _ _
      refine v_if_eq 47 dX12_centre_39 (by decide) (fun c7 => ?_) (fun c7 => ?_)
      · rw [if_pos c7] at hF
        refine v_aload_n (i := 0) dX12_centre_47 rfl rfl ?_
        refine v_iload (i := 4) dX12_centre_48 rfl ?_
        obtain ⟨q8, q8_e, hF⟩ := Option.bind_eq_some_iff.mp hF
        refine c_X12_471 rfl sh_226 (by exact ltG hG (by decide)) (Nat.le_of_ble_eq_true rfl) dX12_centre_50 (s_X12_farthestFrom _ q8_e hG) (fun r1 h1 hq => ?_)
        obtain ⟨rfl, hq, hG⟩ := hq
        replace hq := hq.symm
        subst hq
        show V _ _ _ _ (_ :: _) _ _
        refine v_istore (i := 5) dX12_centre_53 (by decide) (nlT rfl) ?_
        simp only [List.set_cons_zero, List.set_cons_succ]
        refine v_iload (i := 5) dX12_centre_55 rfl ?_
        refine v_bipush (v := 25) dX12_centre_57 (by decide) ?_
        refine v_icmp_gt 81 dX12_centre_59 (by decide) (fun c10 => ?_) (fun c10 => ?_)
        · rw [if_pos c10] at hF
          refine v_iinc (i := 4) (v := (l4 + 1)) dX12_centre_81 rfl rfl (by decide) (nlT rfl) ?_
          simp only [List.set_cons_zero, List.set_cons_succ]
          refine v_goto 24 dX12_centre_84 (by decide) ?_
          refine V.weak (la2 := [some (.ref 226), some (.int l1), some (.int l2), some (.int l3), some (.int (l4 + 1)), none]) (by simp [wk]) ?_
          exact (s_X12_centre_IH_24) _ _ _ _ _ _ _ hF hG
        · rw [if_neg c10] at hF
          refine v_iload_n (i := 2) dX12_centre_62 rfl rfl ?_
          refine v_if_lt 75 dX12_centre_63 (by decide) (fun c11 => ?_) (fun c11 => ?_)
          · rw [if_pos c11] at hF
            refine v_iload (i := 4) dX12_centre_75 rfl ?_
            refine v_istore_n (i := 2) dX12_centre_77 rfl (by decide) (nlT rfl) ?_
            simp only [List.set_cons_zero, List.set_cons_succ]
            refine v_iload (i := 5) dX12_centre_78 rfl ?_
            refine v_istore_n (i := 3) dX12_centre_80 rfl (by decide) (nlT rfl) ?_
            simp only [List.set_cons_zero, List.set_cons_succ]
            refine v_iinc (i := 4) (v := (l4 + 1)) dX12_centre_81 rfl rfl (by decide) (nlT rfl) ?_
            simp only [List.set_cons_zero, List.set_cons_succ]
            refine v_goto 24 dX12_centre_84 (by decide) ?_
            refine V.weak (la2 := [some (.ref 226), some (.int l1), some (.int l4), some (.int q8.1), some (.int (l4 + 1)), none]) (by simp [wk]) ?_
            exact (s_X12_centre_IH_24) _ _ _ _ _ _ _ hF hG
          · rw [if_neg c11] at hF
            refine v_iload (i := 5) dX12_centre_66 rfl ?_
            refine v_iload_n (i := 3) dX12_centre_68 rfl rfl ?_
            refine v_icmp_lt 75 dX12_centre_69 (by decide) (fun c12 => ?_) (fun c12 => ?_)
            · rw [if_pos c12] at hF
              refine v_iload (i := 4) dX12_centre_75 rfl ?_
              refine v_istore_n (i := 2) dX12_centre_77 rfl (by decide) (nlT rfl) ?_
              simp only [List.set_cons_zero, List.set_cons_succ]
              refine v_iload (i := 5) dX12_centre_78 rfl ?_
              refine v_istore_n (i := 3) dX12_centre_80 rfl (by decide) (nlT rfl) ?_
              simp only [List.set_cons_zero, List.set_cons_succ]
              refine v_iinc (i := 4) (v := (l4 + 1)) dX12_centre_81 rfl rfl (by decide) (nlT rfl) ?_
              simp only [List.set_cons_zero, List.set_cons_succ]
              refine v_goto 24 dX12_centre_84 (by decide) ?_
              refine V.weak (la2 := [some (.ref 226), some (.int l1), some (.int l4), some (.int q8.1), some (.int (l4 + 1)), none]) (by simp [wk]) ?_
              exact (s_X12_centre_IH_24) _ _ _ _ _ _ _ hF hG
            · rw [if_neg c12] at hF
              refine v_goto 81 dX12_centre_72 (by decide) ?_
              refine v_iinc (i := 4) (v := (l4 + 1)) dX12_centre_81 rfl rfl (by decide) (nlT rfl) ?_
              simp only [List.set_cons_zero, List.set_cons_succ]
              refine v_goto 24 dX12_centre_84 (by decide) ?_
              refine V.weak (la2 := [some (.ref 226), some (.int l1), some (.int l2), some (.int l3), some (.int (l4 + 1)), none]) (by simp [wk]) ?_
              exact (s_X12_centre_IH_24) _ _ _ _ _ _ _ hF hG
      · rw [if_neg c7] at hF
        refine v_bipush (v := 26) dX12_centre_42 (by decide) ?_
        refine v_goto 53 dX12_centre_44 (by decide) ?_
        refine v_istore (i := 5) dX12_centre_53 (by decide) (nlT rfl) ?_
        simp only [List.set_cons_zero, List.set_cons_succ]
        refine v_iload (i := 5) dX12_centre_55 rfl ?_
        refine v_bipush (v := 25) dX12_centre_57 (by decide) ?_
        refine v_icmp_gt 81 dX12_centre_59 (by decide) (fun c13 => ?_) (fun c13 => ?_)
        · rw [if_pos c13] at hF
          refine v_iinc (i := 4) (v := (l4 + 1)) dX12_centre_81 rfl rfl (by decide) (nlT rfl) ?_
          simp only [List.set_cons_zero, List.set_cons_succ]
          refine v_goto 24 dX12_centre_84 (by decide) ?_
          refine V.weak (la2 := [some (.ref 226), some (.int l1), some (.int l2), some (.int l3), some (.int (l4 + 1)), none]) (by simp [wk]) ?_
          exact (s_X12_centre_IH_24) _ _ _ _ _ _ _ hF hG
        · rw [if_neg c13] at hF
          refine v_iload_n (i := 2) dX12_centre_62 rfl rfl ?_
          refine v_if_lt 75 dX12_centre_63 (by decide) (fun c14 => ?_) (fun c14 => ?_)
          · rw [if_pos c14] at hF
            refine v_iload (i := 4) dX12_centre_75 rfl ?_
            refine v_istore_n (i := 2) dX12_centre_77 rfl (by decide) (nlT rfl) ?_
            simp only [List.set_cons_zero, List.set_cons_succ]
            refine v_iload (i := 5) dX12_centre_78 rfl ?_
            refine v_istore_n (i := 3) dX12_centre_80 rfl (by decide) (nlT rfl) ?_
            simp only [List.set_cons_zero, List.set_cons_succ]
            refine v_iinc (i := 4) (v := (l4 + 1)) dX12_centre_81 rfl rfl (by decide) (nlT rfl) ?_
            simp only [List.set_cons_zero, List.set_cons_succ]
            refine v_goto 24 dX12_centre_84 (by decide) ?_
            refine V.weak (la2 := [some (.ref 226), some (.int l1), some (.int l4), some (.int 26), some (.int (l4 + 1)), none]) (by simp [wk]) ?_
            exact (s_X12_centre_IH_24) _ _ _ _ _ _ _ hF hG
          · rw [if_neg c14] at hF
            refine v_iload (i := 5) dX12_centre_66 rfl ?_
            refine v_iload_n (i := 3) dX12_centre_68 rfl rfl ?_
            refine v_icmp_lt 75 dX12_centre_69 (by decide) (fun c15 => ?_) (fun c15 => ?_)
            · rw [if_pos c15] at hF
              refine v_iload (i := 4) dX12_centre_75 rfl ?_
              refine v_istore_n (i := 2) dX12_centre_77 rfl (by decide) (nlT rfl) ?_
              simp only [List.set_cons_zero, List.set_cons_succ]
              refine v_iload (i := 5) dX12_centre_78 rfl ?_
              refine v_istore_n (i := 3) dX12_centre_80 rfl (by decide) (nlT rfl) ?_
              simp only [List.set_cons_zero, List.set_cons_succ]
              refine v_iinc (i := 4) (v := (l4 + 1)) dX12_centre_81 rfl rfl (by decide) (nlT rfl) ?_
              simp only [List.set_cons_zero, List.set_cons_succ]
              refine v_goto 24 dX12_centre_84 (by decide) ?_
              refine V.weak (la2 := [some (.ref 226), some (.int l1), some (.int l4), some (.int 26), some (.int (l4 + 1)), none]) (by simp [wk]) ?_
              exact (s_X12_centre_IH_24) _ _ _ _ _ _ _ hF hG
            · rw [if_neg c15] at hF
              refine v_goto 81 dX12_centre_72 (by decide) ?_
              refine v_iinc (i := 4) (v := (l4 + 1)) dX12_centre_81 rfl rfl (by decide) (nlT rfl) ?_
              simp only [List.set_cons_zero, List.set_cons_succ]
              refine v_goto 24 dX12_centre_84 (by decide) ?_
              refine V.weak (la2 := [some (.ref 226), some (.int l1), some (.int l2), some (.int l3), some (.int (l4 + 1)), none]) (by simp [wk]) ?_
              exact (s_X12_centre_IH_24) _ _ _ _ _ _ _ hF hG
def F_X12_centre (n : Nat) (h : Hp) (x1 : Int32) : Option (Int32 × Hp) := ((F_X12_in n h x1 0 1).bind (fun q16 => (if (q16.1 : Int32) = 0 then some ((-1), q16.2) else ((F_X12_copies n q16.2).bind (fun q19 => W_X12_centre n 24 q19  x1 (-2) (-2) 0)))))
set_option maxRecDepth 100000 in
set_option maxHeartbeats 4000000 in
theorem s_X12_centre (d : Nat) {n : Nat} {h : Hp} {x1 : Int32} {q0 : (Int32 × Hp)} (hF : F_X12_centre n h x1 = some q0) (hG : G h)  : Kc mX12_centre (d + 4) [.ref 226, .int x1] h (fun r1 h1 => r1 = some (.int q0.1) ∧ h1 = q0.2 ∧ G q0.2) := by
  obtain ⟨r, h'⟩ := q0
  have s_X12_centre_IH_24 := sw_X12_centre d   n
  unfold F_X12_centre at hF
  refine Kc.of [some (.ref 226), some (.int x1), none, none, none, none] ok_X12_centre rfl (Nat.le_of_ble_eq_true rfl) ?_
  refine v_iload_n (i := 1) dX12_centre_0 rfl rfl ?_
  refine v_iconst (v := 0) dX12_centre_1 (by decide) ?_
  refine v_iconst (v := 1) dX12_centre_2 (by decide) ?_
  obtain ⟨q16, q16_e, hF⟩ := Option.bind_eq_some_iff.mp hF
  refine c_X12_330 rfl (Nat.le_of_ble_eq_true rfl) dX12_centre_3 (s_X12_in _ q16_e hG) (fun r1 h1 hq => ?_)
  obtain ⟨rfl, hq, hG⟩ := hq
  replace hq := hq.symm
  subst hq
  show V _ _ _ _ (_ :: _) _ _
  refine v_if_ne 11 dX12_centre_6 (by decide) (fun c18 => ?_) (fun c18 => ?_)
  · rw [if_neg c18] at hF
    refine v_aload_n (i := 0) dX12_centre_11 rfl rfl ?_
    obtain ⟨q19, q19_e, hF⟩ := Option.bind_eq_some_iff.mp hF
    refine c_X12_346 rfl sh_226 (by exact ltG hG (by decide)) (Nat.le_of_ble_eq_true rfl) dX12_centre_12 (s_X12_copies _ q19_e hG) (fun r1 h1 hq => ?_)
    obtain ⟨rfl, hq, hG⟩ := hq
    replace hq := hq.symm
    subst hq
    simp only [Option.toList, List.nil_append]
    refine v_bipush (v := (-2)) dX12_centre_15 (by decide) ?_
    refine v_istore_n (i := 2) dX12_centre_17 rfl (by decide) (nlT rfl) ?_
    simp only [List.set_cons_zero, List.set_cons_succ]
    refine v_bipush (v := (-2)) dX12_centre_18 (by decide) ?_
    refine v_istore_n (i := 3) dX12_centre_20 rfl (by decide) (nlT rfl) ?_
    simp only [List.set_cons_zero, List.set_cons_succ]
    refine v_iconst (v := 0) dX12_centre_21 (by decide) ?_
    refine v_istore (i := 4) dX12_centre_22 (by decide) (nlT rfl) ?_
    simp only [List.set_cons_zero, List.set_cons_succ]
    refine V.weak (la2 := [some (.ref 226), some (.int x1), some (.int (-2)), some (.int (-2)), some (.int 0), none]) (by simp [wk]) ?_
    exact (s_X12_centre_IH_24) _ _ _ _ _ _ _ hF hG
  · rw [if_pos c18] at hF
    refine v_iconst (v := (-1)) dX12_centre_9 (by decide) ?_
    refine v_ireturn rfl dX12_centre_10 ?_
    obtain ⟨rfl, rfl⟩ := Prod.mk.inj (Option.some.inj hF)
    exact ⟨rfl, rfl, hG⟩
def F_X12_costsOf (n : Nat) (h : Hp) (x1 : Int32) : Option (Int32 × Hp) := ((F_X12_toldOf n h x1 0 0 3 1).bind (fun q1 => ((F_X12_within n q1.2 q1.1 0 99).bind (fun q3 => some (q3.1, q3.2)))))
set_option maxRecDepth 100000 in
set_option maxHeartbeats 4000000 in
theorem s_X12_costsOf (d : Nat) {n : Nat} {h : Hp} {x1 : Int32} {q0 : (Int32 × Hp)} (hF : F_X12_costsOf n h x1 = some q0) (hG : G h)  : Kc mX12_costsOf (d + 3) [.ref 226, .int x1] h (fun r1 h1 => r1 = some (.int q0.1) ∧ h1 = q0.2 ∧ G q0.2) := by
  obtain ⟨r, h'⟩ := q0
  unfold F_X12_costsOf at hF
  refine Kc.of [some (.ref 226), some (.int x1)] ok_X12_costsOf rfl (Nat.le_of_ble_eq_true rfl) ?_
  refine v_aload_n (i := 0) dX12_costsOf_0 rfl rfl ?_
  refine v_iload_n (i := 1) dX12_costsOf_1 rfl rfl ?_
  refine v_iconst (v := 0) dX12_costsOf_2 (by decide) ?_
  refine v_iconst (v := 0) dX12_costsOf_3 (by decide) ?_
  refine v_iconst (v := 3) dX12_costsOf_4 (by decide) ?_
  refine v_iconst (v := 1) dX12_costsOf_5 (by decide) ?_
  obtain ⟨q1, q1_e, hF⟩ := Option.bind_eq_some_iff.mp hF
  refine c_X12_368 rfl sh_226 (by exact ltG hG (by decide)) (Nat.le_of_ble_eq_true rfl) dX12_costsOf_6 (s_X12_toldOf _ q1_e hG) (fun r1 h1 hq => ?_)
  obtain ⟨rfl, hq, hG⟩ := hq
  replace hq := hq.symm
  subst hq
  show V _ _ _ _ (_ :: _) _ _
  refine v_iconst (v := 0) dX12_costsOf_9 (by decide) ?_
  refine v_bipush (v := 99) dX12_costsOf_10 (by decide) ?_
  obtain ⟨q3, q3_e, hF⟩ := Option.bind_eq_some_iff.mp hF
  refine c_X12_379 rfl (Nat.le_of_ble_eq_true rfl) dX12_costsOf_12 (s_X12_within _ q3_e hG) (fun r1 h1 hq => ?_)
  obtain ⟨rfl, hq, hG⟩ := hq
  replace hq := hq.symm
  subst hq
  show V _ _ _ _ (_ :: _) _ _
  refine v_ireturn rfl dX12_costsOf_15 ?_
  obtain ⟨rfl, rfl⟩ := Prod.mk.inj (Option.some.inj hF)
  exact ⟨rfl, rfl, hG⟩
def F_X12_far (n : Nat) (h : Hp) (x1 : Int32) (x2 : Int32) : Option (Int32 × Hp) := ((F_X12_isCell n h x1).bind (fun q1 => (if (q1.1 : Int32) = 0 then some ((-1), q1.2) else ((F_X12_isCell n q1.2 x2).bind (fun q4 => (if (q4.1 : Int32) = 0 then some ((-1), q4.2) else ((F_X12_copies n q4.2).bind (fun q7 => ((F_X12_farOf n q7 x1 x2).bind (fun q9 => some (q9.1, q9.2)))))))))))
set_option maxRecDepth 100000 in
set_option maxHeartbeats 4000000 in
theorem s_X12_far (d : Nat) {n : Nat} {h : Hp} {x1 : Int32} {x2 : Int32} {q0 : (Int32 × Hp)} (hF : F_X12_far n h x1 x2 = some q0) (hG : G h)  : Kc mX12_far (d + 3) [.ref 226, .int x1, .int x2] h (fun r1 h1 => r1 = some (.int q0.1) ∧ h1 = q0.2 ∧ G q0.2) := by
  obtain ⟨r, h'⟩ := q0
  unfold F_X12_far at hF
  refine Kc.of [some (.ref 226), some (.int x1), some (.int x2)] ok_X12_far rfl (Nat.le_of_ble_eq_true rfl) ?_
  refine v_aload_n (i := 0) dX12_far_0 rfl rfl ?_
  refine v_iload_n (i := 1) dX12_far_1 rfl rfl ?_
  obtain ⟨q1, q1_e, hF⟩ := Option.bind_eq_some_iff.mp hF
  refine c_X12_403 rfl sh_226 (by exact ltG hG (by decide)) (Nat.le_of_ble_eq_true rfl) dX12_far_2 (s_X12_isCell _ q1_e hG) (fun r1 h1 hq => ?_)
  obtain ⟨rfl, hq, hG⟩ := hq
  replace hq := hq.symm
  subst hq
  show V _ _ _ _ (_ :: _) _ _
  refine v_if_eq 16 dX12_far_5 (by decide) (fun c3 => ?_) (fun c3 => ?_)
  · rw [if_pos c3] at hF
    refine v_iconst (v := (-1)) dX12_far_16 (by decide) ?_
    refine v_ireturn rfl dX12_far_17 ?_
    obtain ⟨rfl, rfl⟩ := Prod.mk.inj (Option.some.inj hF)
    exact ⟨rfl, rfl, hG⟩
  · rw [if_neg c3] at hF
    refine v_aload_n (i := 0) dX12_far_8 rfl rfl ?_
    refine v_iload_n (i := 2) dX12_far_9 rfl rfl ?_
    obtain ⟨q4, q4_e, hF⟩ := Option.bind_eq_some_iff.mp hF
    refine c_X12_403 rfl sh_226 (by exact ltG hG (by decide)) (Nat.le_of_ble_eq_true rfl) dX12_far_10 (s_X12_isCell _ q4_e hG) (fun r1 h1 hq => ?_)
    obtain ⟨rfl, hq, hG⟩ := hq
    replace hq := hq.symm
    subst hq
    show V _ _ _ _ (_ :: _) _ _
    refine v_if_ne 18 dX12_far_13 (by decide) (fun c6 => ?_) (fun c6 => ?_)
    · rw [if_neg c6] at hF
      refine v_aload_n (i := 0) dX12_far_18 rfl rfl ?_
      obtain ⟨q7, q7_e, hF⟩ := Option.bind_eq_some_iff.mp hF
      refine c_X12_346 rfl sh_226 (by exact ltG hG (by decide)) (Nat.le_of_ble_eq_true rfl) dX12_far_19 (s_X12_copies _ q7_e hG) (fun r1 h1 hq => ?_)
      obtain ⟨rfl, hq, hG⟩ := hq
      replace hq := hq.symm
      subst hq
      simp only [Option.toList, List.nil_append]
      refine v_aload_n (i := 0) dX12_far_22 rfl rfl ?_
      refine v_iload_n (i := 1) dX12_far_23 rfl rfl ?_
      refine v_iload_n (i := 2) dX12_far_24 rfl rfl ?_
      obtain ⟨q9, q9_e, hF⟩ := Option.bind_eq_some_iff.mp hF
      refine c_X12_468 rfl sh_226 (by exact ltG hG (by decide)) (Nat.le_of_ble_eq_true rfl) dX12_far_25 (s_X12_farOf _ q9_e hG) (fun r1 h1 hq => ?_)
      obtain ⟨rfl, hq, hG⟩ := hq
      replace hq := hq.symm
      subst hq
      show V _ _ _ _ (_ :: _) _ _
      refine v_ireturn rfl dX12_far_28 ?_
      obtain ⟨rfl, rfl⟩ := Prod.mk.inj (Option.some.inj hF)
      exact ⟨rfl, rfl, hG⟩
    · rw [if_pos c6] at hF
      refine v_iconst (v := (-1)) dX12_far_16 (by decide) ?_
      refine v_ireturn rfl dX12_far_17 ?_
      obtain ⟨rfl, rfl⟩ := Prod.mk.inj (Option.some.inj hF)
      exact ⟨rfl, rfl, hG⟩
def W_X12_fewestMown : Nat → Nat → Hp → Int32 → Int32 → Int32 → Int32 → Int32 → Int32 → Option (Int32 × Hp)
  | 0 => fun _ _ _ _ _ _ _ _ => none
  | n + 1 => fun hd h l1 l2 l3 l4 l5 l6 => (if hd = 20 then (if (((1 : Int32) <<< ((l4 : Int32) &&& 31)) : Int32) ≤ (l6 : Int32) then some (l5, h) else ((F_X12_tunesBy n h l6).bind (fun q2 => (if (l5 : Int32) < 0 then ((F_X12_isWayWithout n q2.2 l1 l2 l3 q2.1).bind (fun q5 => (if (q5.1 : Int32) = 0 then W_X12_fewestMown n 20 q5.2  l1 l2 l3 l4 l5 (l6 + 1) else W_X12_fewestMown n 20 q5.2  l1 l2 l3 l4 q2.1 (l6 + 1)))) else ((F_X12_bits n q2.2 q2.1).bind (fun q8 => ((F_X12_bits n q8.2 l5).bind (fun q10 => (if (q10.1 : Int32) ≤ (q8.1 : Int32) then W_X12_fewestMown n 20 q10.2  l1 l2 l3 l4 l5 (l6 + 1) else ((F_X12_isWayWithout n q10.2 l1 l2 l3 q2.1).bind (fun q13 => (if (q13.1 : Int32) = 0 then W_X12_fewestMown n 20 q13.2  l1 l2 l3 l4 l5 (l6 + 1) else W_X12_fewestMown n 20 q13.2  l1 l2 l3 l4 q2.1 (l6 + 1))))))))))))) else none)
set_option maxRecDepth 100000 in
set_option maxHeartbeats 4000000 in
theorem sw_X12_fewestMown (d : Nat)  (n : Nat) : (∀ (l1 : Int32) (l2 : Int32) (l3 : Int32) (l4 : Int32) (l5 : Int32) (l6 : Int32) (h : Hp), ∀ (r : Int32) (h' : Hp), W_X12_fewestMown n 20 h  l1 l2 l3 l4 l5 l6 = some (r, h') → G h → V mX12_fewestMown (d + 5) 20 [some (.ref 226), some (.int l1), some (.int l2), some (.int l3), some (.int l4), some (.int l5), some (.int l6), none] [] h (fun r1 h1 => r1 = some (.int r) ∧ h1 = h' ∧ G h')) := by
  induction n with
  | zero => exact by intros; contradiction
  | succ n ih =>
    have s_X12_fewestMown_IH_20 := ih
    intro l1 l2 l3 l4 l5 l6 h r h' hF hG
    unfold W_X12_fewestMown at hF
    rw [if_pos rfl] at hF
    refine v_iload (i := 6) dX12_fewestMown_20 rfl ?_
    refine v_iconst (v := 1) dX12_fewestMown_22 (by decide) ?_
    refine v_iload (i := 4) dX12_fewestMown_23 rfl ?_
    refine v_ishl dX12_fewestMown_25 ?_
    refine v_icmp_ge 77 dX12_fewestMown_26 (by decide) (fun c1 => ?_) (fun c1 => ?_)
    · rw [if_pos c1] at hF
      refine v_iload (i := 5) dX12_fewestMown_77 rfl ?_
      refine v_ireturn rfl dX12_fewestMown_79 ?_
      obtain ⟨rfl, rfl⟩ := Prod.mk.inj (Option.some.inj hF)
      exact ⟨rfl, rfl, hG⟩
    · rw [if_neg c1] at hF
      refine v_aload_n (i := 0) dX12_fewestMown_29 rfl rfl ?_
      refine v_iload (i := 6) dX12_fewestMown_30 rfl ?_
      obtain ⟨q2, q2_e, hF⟩ := Option.bind_eq_some_iff.mp hF
      refine c_X12_452 rfl sh_226 (by exact ltG hG (by decide)) (Nat.le_of_ble_eq_true rfl) dX12_fewestMown_32 (s_X12_tunesBy _ q2_e hG) (fun r1 h1 hq => ?_)
      obtain ⟨rfl, hq, hG⟩ := hq
      replace hq := hq.symm
      subst hq
      show V _ _ _ _ (_ :: _) _ _
      refine v_istore (i := 7) dX12_fewestMown_35 (by decide) (nlT rfl) ?_
      simp only [List.set_cons_zero, List.set_cons_succ]
      refine v_iload (i := 5) dX12_fewestMown_37 rfl ?_
      refine v_if_lt 55 dX12_fewestMown_39 (by decide) (fun c4 => ?_) (fun c4 => ?_)
      · rw [if_pos c4] at hF
        refine v_aload_n (i := 0) dX12_fewestMown_55 rfl rfl ?_
        refine v_iload_n (i := 1) dX12_fewestMown_56 rfl rfl ?_
        refine v_iload_n (i := 2) dX12_fewestMown_57 rfl rfl ?_
        refine v_iload_n (i := 3) dX12_fewestMown_58 rfl rfl ?_
        refine v_iload (i := 7) dX12_fewestMown_59 rfl ?_
        obtain ⟨q5, q5_e, hF⟩ := Option.bind_eq_some_iff.mp hF
        refine c_X12_455 rfl sh_226 (by exact ltG hG (by decide)) (Nat.le_of_ble_eq_true rfl) dX12_fewestMown_61 (s_X12_isWayWithout _ q5_e hG) (fun r1 h1 hq => ?_)
        obtain ⟨rfl, hq, hG⟩ := hq
        replace hq := hq.symm
        subst hq
        show V _ _ _ _ (_ :: _) _ _
        refine v_if_eq 71 dX12_fewestMown_64 (by decide) (fun c7 => ?_) (fun c7 => ?_)
        · rw [if_pos c7] at hF
          refine v_iinc (i := 6) (v := (l6 + 1)) dX12_fewestMown_71 rfl rfl (by decide) (nlT rfl) ?_
          simp only [List.set_cons_zero, List.set_cons_succ]
          refine v_goto 20 dX12_fewestMown_74 (by decide) ?_
          refine V.weak (la2 := [some (.ref 226), some (.int l1), some (.int l2), some (.int l3), some (.int l4), some (.int l5), some (.int (l6 + 1)), none]) (by simp [wk]) ?_
          exact (s_X12_fewestMown_IH_20) _ _ _ _ _ _ _ _ _ hF hG
        · rw [if_neg c7] at hF
          refine v_iload (i := 7) dX12_fewestMown_67 rfl ?_
          refine v_istore (i := 5) dX12_fewestMown_69 (by decide) (nlT rfl) ?_
          simp only [List.set_cons_zero, List.set_cons_succ]
          refine v_iinc (i := 6) (v := (l6 + 1)) dX12_fewestMown_71 rfl rfl (by decide) (nlT rfl) ?_
          simp only [List.set_cons_zero, List.set_cons_succ]
          refine v_goto 20 dX12_fewestMown_74 (by decide) ?_
          refine V.weak (la2 := [some (.ref 226), some (.int l1), some (.int l2), some (.int l3), some (.int l4), some (.int q2.1), some (.int (l6 + 1)), none]) (by simp [wk]) ?_
          exact (s_X12_fewestMown_IH_20) _ _ _ _ _ _ _ _ _ hF hG
      · rw [if_neg c4] at hF
        refine v_iload (i := 7) dX12_fewestMown_42 rfl ?_
        obtain ⟨q8, q8_e, hF⟩ := Option.bind_eq_some_iff.mp hF
        refine c_X12_362 rfl (Nat.le_of_ble_eq_true rfl) dX12_fewestMown_44 (s_X12_bits _ q8_e hG) (fun r1 h1 hq => ?_)
        obtain ⟨rfl, hq, hG⟩ := hq
        replace hq := hq.symm
        subst hq
        show V _ _ _ _ (_ :: _) _ _
        refine v_iload (i := 5) dX12_fewestMown_47 rfl ?_
        obtain ⟨q10, q10_e, hF⟩ := Option.bind_eq_some_iff.mp hF
        refine c_X12_362 rfl (Nat.le_of_ble_eq_true rfl) dX12_fewestMown_49 (s_X12_bits _ q10_e hG) (fun r1 h1 hq => ?_)
        obtain ⟨rfl, hq, hG⟩ := hq
        replace hq := hq.symm
        subst hq
        show V _ _ _ _ (_ :: _) _ _
        refine v_icmp_ge 71 dX12_fewestMown_52 (by decide) (fun c12 => ?_) (fun c12 => ?_)
        · rw [if_pos c12] at hF
          refine v_iinc (i := 6) (v := (l6 + 1)) dX12_fewestMown_71 rfl rfl (by decide) (nlT rfl) ?_
          simp only [List.set_cons_zero, List.set_cons_succ]
          refine v_goto 20 dX12_fewestMown_74 (by decide) ?_
          refine V.weak (la2 := [some (.ref 226), some (.int l1), some (.int l2), some (.int l3), some (.int l4), some (.int l5), some (.int (l6 + 1)), none]) (by simp [wk]) ?_
          exact (s_X12_fewestMown_IH_20) _ _ _ _ _ _ _ _ _ hF hG
        · rw [if_neg c12] at hF
          refine v_aload_n (i := 0) dX12_fewestMown_55 rfl rfl ?_
          refine v_iload_n (i := 1) dX12_fewestMown_56 rfl rfl ?_
          refine v_iload_n (i := 2) dX12_fewestMown_57 rfl rfl ?_
          refine v_iload_n (i := 3) dX12_fewestMown_58 rfl rfl ?_
          refine v_iload (i := 7) dX12_fewestMown_59 rfl ?_
          obtain ⟨q13, q13_e, hF⟩ := Option.bind_eq_some_iff.mp hF
          refine c_X12_455 rfl sh_226 (by exact ltG hG (by decide)) (Nat.le_of_ble_eq_true rfl) dX12_fewestMown_61 (s_X12_isWayWithout _ q13_e hG) (fun r1 h1 hq => ?_)
          obtain ⟨rfl, hq, hG⟩ := hq
          replace hq := hq.symm
          subst hq
          show V _ _ _ _ (_ :: _) _ _
          refine v_if_eq 71 dX12_fewestMown_64 (by decide) (fun c15 => ?_) (fun c15 => ?_)
          · rw [if_pos c15] at hF
            refine v_iinc (i := 6) (v := (l6 + 1)) dX12_fewestMown_71 rfl rfl (by decide) (nlT rfl) ?_
            simp only [List.set_cons_zero, List.set_cons_succ]
            refine v_goto 20 dX12_fewestMown_74 (by decide) ?_
            refine V.weak (la2 := [some (.ref 226), some (.int l1), some (.int l2), some (.int l3), some (.int l4), some (.int l5), some (.int (l6 + 1)), none]) (by simp [wk]) ?_
            exact (s_X12_fewestMown_IH_20) _ _ _ _ _ _ _ _ _ hF hG
          · rw [if_neg c15] at hF
            refine v_iload (i := 7) dX12_fewestMown_67 rfl ?_
            refine v_istore (i := 5) dX12_fewestMown_69 (by decide) (nlT rfl) ?_
            simp only [List.set_cons_zero, List.set_cons_succ]
            refine v_iinc (i := 6) (v := (l6 + 1)) dX12_fewestMown_71 rfl rfl (by decide) (nlT rfl) ?_
            simp only [List.set_cons_zero, List.set_cons_succ]
            refine v_goto 20 dX12_fewestMown_74 (by decide) ?_
            refine V.weak (la2 := [some (.ref 226), some (.int l1), some (.int l2), some (.int l3), some (.int l4), some (.int q2.1), some (.int (l6 + 1)), none]) (by simp [wk]) ?_
            exact (s_X12_fewestMown_IH_20) _ _ _ _ _ _ _ _ _ hF hG
def F_X12_fewestMown (n : Nat) (h : Hp) (x1 : Int32) (x2 : Int32) (x3 : Int32) : Option (Int32 × Hp) := ((F_X12_copies n h).bind (fun q16 => ((F_X12_tuneBits n q16).bind (fun q18 => ((F_X12_bits n q18.2 q18.1).bind (fun q20 => W_X12_fewestMown n 20 q20.2  x1 x2 x3 q20.1 (-2) 0))))))
set_option maxRecDepth 100000 in
set_option maxHeartbeats 4000000 in
theorem s_X12_fewestMown (d : Nat) {n : Nat} {h : Hp} {x1 : Int32} {x2 : Int32} {x3 : Int32} {q0 : (Int32 × Hp)} (hF : F_X12_fewestMown n h x1 x2 x3 = some q0) (hG : G h)  : Kc mX12_fewestMown (d + 5) [.ref 226, .int x1, .int x2, .int x3] h (fun r1 h1 => r1 = some (.int q0.1) ∧ h1 = q0.2 ∧ G q0.2) := by
  obtain ⟨r, h'⟩ := q0
  have s_X12_fewestMown_IH_20 := sw_X12_fewestMown d   n
  unfold F_X12_fewestMown at hF
  refine Kc.of [some (.ref 226), some (.int x1), some (.int x2), some (.int x3), none, none, none, none] ok_X12_fewestMown rfl (Nat.le_of_ble_eq_true rfl) ?_
  refine v_aload_n (i := 0) dX12_fewestMown_0 rfl rfl ?_
  obtain ⟨q16, q16_e, hF⟩ := Option.bind_eq_some_iff.mp hF
  refine c_X12_346 rfl sh_226 (by exact ltG hG (by decide)) (Nat.le_of_ble_eq_true rfl) dX12_fewestMown_1 (s_X12_copies _ q16_e hG) (fun r1 h1 hq => ?_)
  obtain ⟨rfl, hq, hG⟩ := hq
  replace hq := hq.symm
  subst hq
  simp only [Option.toList, List.nil_append]
  refine v_aload_n (i := 0) dX12_fewestMown_4 rfl rfl ?_
  obtain ⟨q18, q18_e, hF⟩ := Option.bind_eq_some_iff.mp hF
  refine c_X12_359 rfl sh_226 (by exact ltG hG (by decide)) (Nat.le_of_ble_eq_true rfl) dX12_fewestMown_5 (s_X12_tuneBits _ q18_e hG) (fun r1 h1 hq => ?_)
  obtain ⟨rfl, hq, hG⟩ := hq
  replace hq := hq.symm
  subst hq
  show V _ _ _ _ (_ :: _) _ _
  obtain ⟨q20, q20_e, hF⟩ := Option.bind_eq_some_iff.mp hF
  refine c_X12_362 rfl (Nat.le_of_ble_eq_true rfl) dX12_fewestMown_8 (s_X12_bits _ q20_e hG) (fun r1 h1 hq => ?_)
  obtain ⟨rfl, hq, hG⟩ := hq
  replace hq := hq.symm
  subst hq
  show V _ _ _ _ (_ :: _) _ _
  refine v_istore (i := 4) dX12_fewestMown_11 (by decide) (nlT rfl) ?_
  simp only [List.set_cons_zero, List.set_cons_succ]
  refine v_bipush (v := (-2)) dX12_fewestMown_13 (by decide) ?_
  refine v_istore (i := 5) dX12_fewestMown_15 (by decide) (nlT rfl) ?_
  simp only [List.set_cons_zero, List.set_cons_succ]
  refine v_iconst (v := 0) dX12_fewestMown_17 (by decide) ?_
  refine v_istore (i := 6) dX12_fewestMown_18 (by decide) (nlT rfl) ?_
  simp only [List.set_cons_zero, List.set_cons_succ]
  refine V.weak (la2 := [some (.ref 226), some (.int x1), some (.int x2), some (.int x3), some (.int q20.1), some (.int (-2)), some (.int 0), none]) (by simp [wk]) ?_
  exact (s_X12_fewestMown_IH_20) _ _ _ _ _ _ _ _ _ hF hG
