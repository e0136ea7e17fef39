def W_X12_listen : Nat → Nat → Hp → Int32 → Int32 → Int32 → Int32 → Int32 → Option (Int32 × Hp)
  | 0 => fun _ _ _ _ _ _ _ => none
  | n + 1 => fun hd h l1 l2 l3 l4 l5 => (if hd = 30 then (if (60 : Int32) ≤ (l5 : Int32) then some (l3, h) else (if (l2 : Int32) ≤ 0 then some (l3, h) else ((F_X12_fitting n h l1 l5).bind (fun q3 => (if (q3.1 : Int32) ≤ ((l2 - q3.1) : Int32) then (if (l3 : Int32) < 0 then W_X12_listen n 30 q3.2  l1 l2 l5 (l2 - q3.1) (l5 + 1) else (if ((l2 - q3.1) : Int32) < (l4 : Int32) then W_X12_listen n 30 q3.2  l1 l2 l5 (l2 - q3.1) (l5 + 1) else W_X12_listen n 30 q3.2  l1 l2 l3 l4 (l5 + 1))) else (if (l3 : Int32) < 0 then W_X12_listen n 30 q3.2  l1 l2 l5 q3.1 (l5 + 1) else (if (q3.1 : Int32) < (l4 : Int32) then W_X12_listen n 30 q3.2  l1 l2 l5 q3.1 (l5 + 1) else W_X12_listen n 30 q3.2  l1 l2 l3 l4 (l5 + 1)))))))) else none)
set_option maxRecDepth 100000 in
set_option maxHeartbeats 4000000 in
theorem sw_X12_listen (d : Nat)  (n : Nat) : (∀ (l1 : Int32) (l2 : Int32) (l3 : Int32) (l4 : Int32) (l5 : Int32) (h : Hp), ∀ (r : Int32) (h' : Hp), W_X12_listen n 30 h  l1 l2 l3 l4 l5 = some (r, h') → G h → V mX12_listen (d + 2) 30 [some (.ref 226), some (.int l1), some (.int l2), some (.int l3), some (.int l4), some (.int l5), none, none] [] h (fun r1 h1 => r1 = some (.int r) ∧ h1 = h' ∧ G h')) := by
  induction n with
  | zero => exact by intros; contradiction
  | succ n ih =>
    have s_X12_listen_IH_30 := ih
    intro l1 l2 l3 l4 l5 h r h' hF hG
    unfold W_X12_listen at hF
    rw [if_pos rfl] at hF
    refine v_iload (i := 5) dX12_listen_30 rfl ?_
    refine v_bipush (v := 60) dX12_listen_32 (by decide) ?_
    refine v_icmp_ge 97 dX12_listen_34 (by decide) (fun c1 => ?_) (fun c1 => ?_)
    · rw [if_pos c1] at hF
      refine v_iload_n (i := 3) dX12_listen_97 rfl rfl ?_
      refine v_ireturn rfl dX12_listen_98 ?_
      obtain ⟨rfl, rfl⟩ := Prod.mk.inj (Option.some.inj hF)
      exact ⟨rfl, rfl, hG⟩
    · rw [if_neg c1] at hF
      refine v_iload_n (i := 2) dX12_listen_37 rfl rfl ?_
      refine v_if_le 97 dX12_listen_38 (by decide) (fun c2 => ?_) (fun c2 => ?_)
      · rw [if_pos c2] at hF
        refine v_iload_n (i := 3) dX12_listen_97 rfl rfl ?_
        refine v_ireturn rfl dX12_listen_98 ?_
        obtain ⟨rfl, rfl⟩ := Prod.mk.inj (Option.some.inj hF)
        exact ⟨rfl, rfl, hG⟩
      · rw [if_neg c2] at hF
        refine v_aload_n (i := 0) dX12_listen_41 rfl rfl ?_
        refine v_iload_n (i := 1) dX12_listen_42 rfl rfl ?_
        refine v_iload (i := 5) dX12_listen_43 rfl ?_
        obtain ⟨q3, q3_e, hF⟩ := Option.bind_eq_some_iff.mp hF
        refine c_X12_501 rfl sh_226 (by exact ltG hG (by decide)) (Nat.le_of_ble_eq_true rfl) dX12_listen_45 (s_X12_fitting _ q3_e hG) (fun r1 h1 hq => ?_)
        obtain ⟨rfl, hq, hG⟩ := hq
        replace hq := hq.symm
        subst hq
        show V _ _ _ _ (_ :: _) _ _
        refine v_istore (i := 6) dX12_listen_48 (by decide) (nlT rfl) ?_
        simp only [List.set_cons_zero, List.set_cons_succ]
        refine v_iload (i := 6) dX12_listen_50 rfl ?_
        refine v_iload_n (i := 2) dX12_listen_52 rfl rfl ?_
        refine v_iload (i := 6) dX12_listen_53 rfl ?_
        refine v_isub dX12_listen_55 ?_
        refine v_icmp_le 64 dX12_listen_56 (by decide) (fun c5 => ?_) (fun c5 => ?_)
        · rw [if_pos c5] at hF
          refine v_iload_n (i := 2) dX12_listen_64 rfl rfl ?_
          refine v_iload (i := 6) dX12_listen_65 rfl ?_
          refine v_isub dX12_listen_67 ?_
          refine v_istore (i := 7) dX12_listen_68 (by decide) (nlT rfl) ?_
          simp only [List.set_cons_zero, List.set_cons_succ]
          refine v_iload_n (i := 3) dX12_listen_70 rfl rfl ?_
          refine v_if_lt 84 dX12_listen_71 (by decide) (fun c6 => ?_) (fun c6 => ?_)
          · rw [if_pos c6] at hF
            refine v_iload (i := 5) dX12_listen_84 rfl ?_
            refine v_istore_n (i := 3) dX12_listen_86 rfl (by decide) (nlT rfl) ?_
            simp only [List.set_cons_zero, List.set_cons_succ]
            refine v_iload (i := 7) dX12_listen_87 rfl ?_
            refine v_istore (i := 4) dX12_listen_89 (by decide) (nlT rfl) ?_
            simp only [List.set_cons_zero, List.set_cons_succ]
            refine v_iinc (i := 5) (v := (l5 + 1)) dX12_listen_91 rfl rfl (by decide) (nlT rfl) ?_
            simp only [List.set_cons_zero, List.set_cons_succ]
            refine v_goto 30 dX12_listen_94 (by decide) ?_
            refine V.weak (la2 := [some (.ref 226), some (.int l1), some (.int l2), some (.int l5), some (.int (l2 - q3.1)), some (.int (l5 + 1)), none, none]) (by simp [wk]) ?_
            exact (s_X12_listen_IH_30) _ _ _ _ _ _ _ _ hF hG
          · rw [if_neg c6] at hF
            refine v_iload (i := 7) dX12_listen_74 rfl ?_
            refine v_iload (i := 4) dX12_listen_76 rfl ?_
            refine v_icmp_lt 84 dX12_listen_78 (by decide) (fun c7 => ?_) (fun c7 => ?_)
            · rw [if_pos c7] at hF
              refine v_iload (i := 5) dX12_listen_84 rfl ?_
              refine v_istore_n (i := 3) dX12_listen_86 rfl (by decide) (nlT rfl) ?_
              simp only [List.set_cons_zero, List.set_cons_succ]
              refine v_iload (i := 7) dX12_listen_87 rfl ?_
              refine v_istore (i := 4) dX12_listen_89 (by decide) (nlT rfl) ?_
              simp only [List.set_cons_zero, List.set_cons_succ]
              refine v_iinc (i := 5) (v := (l5 + 1)) dX12_listen_91 rfl rfl (by decide) (nlT rfl) ?_
              simp only [List.set_cons_zero, List.set_cons_succ]
              refine v_goto 30 dX12_listen_94 (by decide) ?_
              refine V.weak (la2 := [some (.ref 226), some (.int l1), some (.int l2), some (.int l5), some (.int (l2 - q3.1)), some (.int (l5 + 1)), none, none]) (by simp [wk]) ?_
              exact (s_X12_listen_IH_30) _ _ _ _ _ _ _ _ hF hG
            · rw [if_neg c7] at hF
              refine v_goto 91 dX12_listen_81 (by decide) ?_
              refine v_iinc (i := 5) (v := (l5 + 1)) dX12_listen_91 rfl rfl (by decide) (nlT rfl) ?_
              simp only [List.set_cons_zero, List.set_cons_succ]
              refine v_goto 30 dX12_listen_94 (by decide) ?_
              refine V.weak (la2 := [some (.ref 226), some (.int l1), some (.int l2), some (.int l3), some (.int l4), some (.int (l5 + 1)), none, none]) (by simp [wk]) ?_
              exact (s_X12_listen_IH_30) _ _ _ _ _ _ _ _ hF hG
        · rw [if_neg c5] at hF
          refine v_iload (i := 6) dX12_listen_59 rfl ?_
          refine v_goto 68 dX12_listen_61 (by decide) ?_
          refine v_istore (i := 7) dX12_listen_68 (by decide) (nlT rfl) ?_
          simp only [List.set_cons_zero, List.set_cons_succ]
          refine v_iload_n (i := 3) dX12_listen_70 rfl rfl ?_
          refine v_if_lt 84 dX12_listen_71 (by decide) (fun c8 => ?_) (fun c8 => ?_)
          · rw [if_pos c8] at hF
            refine v_iload (i := 5) dX12_listen_84 rfl ?_
            refine v_istore_n (i := 3) dX12_listen_86 rfl (by decide) (nlT rfl) ?_
            simp only [List.set_cons_zero, List.set_cons_succ]
            refine v_iload (i := 7) dX12_listen_87 rfl ?_
            refine v_istore (i := 4) dX12_listen_89 (by decide) (nlT rfl) ?_
            simp only [List.set_cons_zero, List.set_cons_succ]
            refine v_iinc (i := 5) (v := (l5 + 1)) dX12_listen_91 rfl rfl (by decide) (nlT rfl) ?_
            simp only [List.set_cons_zero, List.set_cons_succ]
            refine v_goto 30 dX12_listen_94 (by decide) ?_
            refine V.weak (la2 := [some (.ref 226), some (.int l1), some (.int l2), some (.int l5), some (.int q3.1), some (.int (l5 + 1)), none, none]) (by simp [wk]) ?_
            exact (s_X12_listen_IH_30) _ _ _ _ _ _ _ _ hF hG
          · rw [if_neg c8] at hF
            refine v_iload (i := 7) dX12_listen_74 rfl ?_
            refine v_iload (i := 4) dX12_listen_76 rfl ?_
            refine v_icmp_lt 84 dX12_listen_78 (by decide) (fun c9 => ?_) (fun c9 => ?_)
            · rw [if_pos c9] at hF
              refine v_iload (i := 5) dX12_listen_84 rfl ?_
              refine v_istore_n (i := 3) dX12_listen_86 rfl (by decide) (nlT rfl) ?_
              simp only [List.set_cons_zero, List.set_cons_succ]
              refine v_iload (i := 7) dX12_listen_87 rfl ?_
              refine v_istore (i := 4) dX12_listen_89 (by decide) (nlT rfl) ?_
              simp only [List.set_cons_zero, List.set_cons_succ]
              refine v_iinc (i := 5) (v := (l5 + 1)) dX12_listen_91 rfl rfl (by decide) (nlT rfl) ?_
              simp only [List.set_cons_zero, List.set_cons_succ]
              refine v_goto 30 dX12_listen_94 (by decide) ?_
              refine V.weak (la2 := [some (.ref 226), some (.int l1), some (.int l2), some (.int l5), some (.int q3.1), some (.int (l5 + 1)), none, none]) (by simp [wk]) ?_
              exact (s_X12_listen_IH_30) _ _ _ _ _ _ _ _ hF hG
            · rw [if_neg c9] at hF
              refine v_goto 91 dX12_listen_81 (by decide) ?_
              refine v_iinc (i := 5) (v := (l5 + 1)) dX12_listen_91 rfl rfl (by decide) (nlT rfl) ?_
              simp only [List.set_cons_zero, List.set_cons_succ]
              refine v_goto 30 dX12_listen_94 (by decide) ?_
              refine V.weak (la2 := [some (.ref 226), some (.int l1), some (.int l2), some (.int l3), some (.int l4), some (.int (l5 + 1)), none, none]) (by simp [wk]) ?_
              exact (s_X12_listen_IH_30) _ _ _ _ _ _ _ _ hF hG
def F_X12_listen (n : Nat) (h : Hp) (x1 : Int32) : Option (Int32 × Hp) := ((F_X12_in n h x1 0 (hi h 226 65)).bind (fun q10 => (if (q10.1 : Int32) = 0 then some ((-1), q10.2) else ((F_X12_fitting n q10.2 x1 (-1)).bind (fun q13 => W_X12_listen n 30 q13.2  x1 q13.1 (-2) 0 0)))))
set_option maxRecDepth 100000 in
set_option maxHeartbeats 4000000 in
theorem s_X12_listen (d : Nat) {n : Nat} {h : Hp} {x1 : Int32} {q0 : (Int32 × Hp)} (hF : F_X12_listen n h x1 = some q0) (hG : G h)  : Kc mX12_listen (d + 2) [.ref 226, .int x1] h (fun r1 h1 => r1 = some (.int q0.1) ∧ h1 = q0.2 ∧ G q0.2) := by
  obtain ⟨r, h'⟩ := q0
  have s_X12_listen_IH_30 := sw_X12_listen d   n
  unfold F_X12_listen at hF
  refine Kc.of [some (.ref 226), some (.int x1), none, none, none, none, none, none] ok_X12_listen rfl (Nat.le_of_ble_eq_true rfl) ?_
  refine v_iload_n (i := 1) dX12_listen_0 rfl rfl ?_
  refine v_iconst (v := 0) dX12_listen_1 (by decide) ?_
  refine v_aload_n (i := 0) dX12_listen_2 rfl rfl ?_
  refine g_X12_274 rfl sh_226 (by exact ltG hG (by decide)) dX12_listen_3 ?_
  obtain ⟨q10, q10_e, hF⟩ := Option.bind_eq_some_iff.mp hF
  refine c_X12_330 rfl (Nat.le_of_ble_eq_true rfl) dX12_listen_6 (s_X12_in _ q10_e hG) (fun r1 h1 hq => ?_)
  obtain ⟨rfl, hq, hG⟩ := hq
  replace hq := hq.symm
  subst hq
  show V _ _ _ _ (_ :: _) _ _
  refine v_if_ne 14 dX12_listen_9 (by decide) (fun c12 => ?_) (fun c12 => ?_)
  · rw [if_neg c12] at hF
    refine v_aload_n (i := 0) dX12_listen_14 rfl rfl ?_
    refine v_iload_n (i := 1) dX12_listen_15 rfl rfl ?_
    refine v_iconst (v := (-1)) dX12_listen_16 (by decide) ?_
    obtain ⟨q13, q13_e, hF⟩ := Option.bind_eq_some_iff.mp hF
    refine c_X12_501 rfl sh_226 (by exact ltG hG (by decide)) (Nat.le_of_ble_eq_true rfl) dX12_listen_17 (s_X12_fitting _ q13_e hG) (fun r1 h1 hq => ?_)
    obtain ⟨rfl, hq, hG⟩ := hq
    replace hq := hq.symm
    subst hq
    show V _ _ _ _ (_ :: _) _ _
    refine v_istore_n (i := 2) dX12_listen_20 rfl (by decide) (nlT rfl) ?_
    simp only [List.set_cons_zero, List.set_cons_succ]
    refine v_bipush (v := (-2)) dX12_listen_21 (by decide) ?_
    refine v_istore_n (i := 3) dX12_listen_23 rfl (by decide) (nlT rfl) ?_
    simp only [List.set_cons_zero, List.set_cons_succ]
    refine v_iconst (v := 0) dX12_listen_24 (by decide) ?_
    refine v_istore (i := 4) dX12_listen_25 (by decide) (nlT rfl) ?_
    simp only [List.set_cons_zero, List.set_cons_succ]
    refine v_iconst (v := 0) dX12_listen_27 (by decide) ?_
    refine v_istore (i := 5) dX12_listen_28 (by decide) (nlT rfl) ?_
    simp only [List.set_cons_zero, List.set_cons_succ]
    refine V.weak (la2 := [some (.ref 226), some (.int x1), some (.int q13.1), some (.int (-2)), some (.int 0), some (.int 0), none, none]) (by simp [wk]) ?_
    exact (s_X12_listen_IH_30) _ _ _ _ _ _ _ _ hF hG
  · rw [if_pos c12] at hF
    refine v_iconst (v := (-1)) dX12_listen_12 (by decide) ?_
    refine v_ireturn rfl dX12_listen_13 ?_
    obtain ⟨rfl, rfl⟩ := Prod.mk.inj (Option.some.inj hF)
    exact ⟨rfl, rfl, hG⟩
def W_X12_loudBits : Nat → Nat → Hp → Int32 → Int32 → Int32 → Option (Int32 × Hp)
  | 0 => fun _ _ _ _ _ => none
  | n + 1 => fun hd h l1 l2 l3 => (if hd = 4 then ((F_X12_cells n h).bind (fun q1 => (if (q1.1 : Int32) ≤ (l3 : Int32) then some (l2, q1.2) else ((F_X12_isLoud n q1.2 l3 l1).bind (fun q4 => (if (q4.1 : Int32) = 0 then W_X12_loudBits n 4 q4.2  l1 l2 (l3 + 1) else W_X12_loudBits n 4 q4.2  l1 ((l2 : Int32) ||| (((1 : Int32) <<< ((l3 : Int32) &&& 31)) : Int32)) (l3 + 1))))))) else none)
set_option maxRecDepth 100000 in
set_option maxHeartbeats 4000000 in
theorem sw_X12_loudBits (d : Nat)  (n : Nat) : (∀ (l1 : Int32) (l2 : Int32) (l3 : Int32) (h : Hp), ∀ (r : Int32) (h' : Hp), W_X12_loudBits n 4 h  l1 l2 l3 = some (r, h') → G h → V mX12_loudBits (d + 1) 4 [some (.ref 226), some (.int l1), some (.int l2), some (.int l3)] [] h (fun r1 h1 => r1 = some (.int r) ∧ h1 = h' ∧ G h')) := by
  induction n with
  | zero => exact by intros; contradiction
  | succ n ih =>
    have s_X12_loudBits_IH_4 := ih
    intro l1 l2 l3 h r h' hF hG
    unfold W_X12_loudBits at hF
    rw [if_pos rfl] at hF
    refine v_iload_n (i := 3) dX12_loudBits_4 rfl rfl ?_
    refine v_aload_n (i := 0) dX12_loudBits_5 rfl rfl ?_
    obtain ⟨q1, q1_e, hF⟩ := Option.bind_eq_some_iff.mp hF
    refine c_X12_326 rfl sh_226 (by exact ltG hG (by decide)) (Nat.le_of_ble_eq_true rfl) dX12_loudBits_6 (s_X12_cells _ q1_e hG) (fun r1 h1 hq => ?_)
    obtain ⟨rfl, hq, hG⟩ := hq
    replace hq := hq.symm
    subst hq
    show V _ _ _ _ (_ :: _) _ _
    refine v_icmp_ge 33 dX12_loudBits_9 (by decide) (fun c3 => ?_) (fun c3 => ?_)
    · rw [if_pos c3] at hF
      refine v_iload_n (i := 2) dX12_loudBits_33 rfl rfl ?_
      refine v_ireturn rfl dX12_loudBits_34 ?_
      obtain ⟨rfl, rfl⟩ := Prod.mk.inj (Option.some.inj hF)
      exact ⟨rfl, rfl, hG⟩
    · rw [if_neg c3] at hF
      refine v_aload_n (i := 0) dX12_loudBits_12 rfl rfl ?_
      refine v_iload_n (i := 3) dX12_loudBits_13 rfl rfl ?_
      refine v_iload_n (i := 1) dX12_loudBits_14 rfl rfl ?_
      obtain ⟨q4, q4_e, hF⟩ := Option.bind_eq_some_iff.mp hF
      refine c_X12_353 rfl sh_226 (by exact ltG hG (by decide)) (Nat.le_of_ble_eq_true rfl) dX12_loudBits_15 (s_X12_isLoud _ q4_e hG) (fun r1 h1 hq => ?_)
      obtain ⟨rfl, hq, hG⟩ := hq
      replace hq := hq.symm
      subst hq
      show V _ _ _ _ (_ :: _) _ _
      refine v_if_eq 27 dX12_loudBits_18 (by decide) (fun c6 => ?_) (fun c6 => ?_)
      · rw [if_pos c6] at hF
        refine v_iinc (i := 3) (v := (l3 + 1)) dX12_loudBits_27 rfl rfl (by decide) (nlT rfl) ?_
        simp only [List.set_cons_zero, List.set_cons_succ]
        refine v_goto 4 dX12_loudBits_30 (by decide) ?_
        refine V.weak (la2 := [some (.ref 226), some (.int l1), some (.int l2), some (.int (l3 + 1))]) (by simp [wk]) ?_
        exact (s_X12_loudBits_IH_4) _ _ _ _ _ _ hF hG
      · rw [if_neg c6] at hF
        refine v_iload_n (i := 2) dX12_loudBits_21 rfl rfl ?_
        refine v_iconst (v := 1) dX12_loudBits_22 (by decide) ?_
        refine v_iload_n (i := 3) dX12_loudBits_23 rfl rfl ?_
        refine v_ishl dX12_loudBits_24 ?_
        refine v_ior dX12_loudBits_25 ?_
        refine v_istore_n (i := 2) dX12_loudBits_26 rfl (by decide) (nlT rfl) ?_
        simp only [List.set_cons_zero, List.set_cons_succ]
        refine v_iinc (i := 3) (v := (l3 + 1)) dX12_loudBits_27 rfl rfl (by decide) (nlT rfl) ?_
        simp only [List.set_cons_zero, List.set_cons_succ]
        refine v_goto 4 dX12_loudBits_30 (by decide) ?_
        refine V.weak (la2 := [some (.ref 226), some (.int l1), some (.int ((l2 : Int32) ||| (((1 : Int32) <<< ((l3 : Int32) &&& 31)) : Int32))), some (.int (l3 + 1))]) (by simp [wk]) ?_
        exact (s_X12_loudBits_IH_4) _ _ _ _ _ _ hF hG
def F_X12_loudBits (n : Nat) (h : Hp) (x1 : Int32) : Option (Int32 × Hp) := W_X12_loudBits n 4 h  x1 0 0
set_option maxRecDepth 100000 in
set_option maxHeartbeats 4000000 in
theorem s_X12_loudBits (d : Nat) {n : Nat} {h : Hp} {x1 : Int32} {q0 : (Int32 × Hp)} (hF : F_X12_loudBits n h x1 = some q0) (hG : G h)  : Kc mX12_loudBits (d + 1) [.ref 226, .int x1] h (fun r1 h1 => r1 = some (.int q0.1) ∧ h1 = q0.2 ∧ G q0.2) := by
  obtain ⟨r, h'⟩ := q0
  have s_X12_loudBits_IH_4 := sw_X12_loudBits d   n
  unfold F_X12_loudBits at hF
  refine Kc.of [some (.ref 226), some (.int x1), none, none] ok_X12_loudBits rfl (Nat.le_of_ble_eq_true rfl) ?_
  refine v_iconst (v := 0) dX12_loudBits_0 (by decide) ?_
  refine v_istore_n (i := 2) dX12_loudBits_1 rfl (by decide) (nlT rfl) ?_
  simp only [List.set_cons_zero, List.set_cons_succ]
  refine v_iconst (v := 0) dX12_loudBits_2 (by decide) ?_
  refine v_istore_n (i := 3) dX12_loudBits_3 rfl (by decide) (nlT rfl) ?_
  simp only [List.set_cons_zero, List.set_cons_succ]
  refine V.weak (la2 := [some (.ref 226), some (.int x1), some (.int 0), some (.int 0)]) (by simp [wk]) ?_
  exact (s_X12_loudBits_IH_4) _ _ _ _ _ _ hF hG
def W_X12_lowestOf : Nat → Nat → Hp → Int32 → Int32 → Option (Int32 × Hp)
  | 0 => fun _ _ _ _ => none
  | n + 1 => fun hd h l0 l1 => (if hd = 2 then (if (((((l0 : Int32) >>> ((l1 : Int32) &&& 31)) : Int32) &&& (1 : Int32)) : Int32) = 0 then W_X12_lowestOf n 2 h  l0 (l1 + 1) else some (l1, h)) else none)
set_option maxRecDepth 100000 in
set_option maxHeartbeats 4000000 in
theorem sw_X12_lowestOf (d : Nat)  (n : Nat) : (∀ (l0 : Int32) (l1 : Int32) (h : Hp), ∀ (r : Int32) (h' : Hp), W_X12_lowestOf n 2 h  l0 l1 = some (r, h') → G h → V mX12_lowestOf (d) 2 [some (.int l0), some (.int l1)] [] h (fun r1 h1 => r1 = some (.int r) ∧ h1 = h' ∧ G h')) := by
  induction n with
  | zero => exact by intros; contradiction
  | succ n ih =>
    have s_X12_lowestOf_IH_2 := ih
    intro l0 l1 h r h' hF hG
    unfold W_X12_lowestOf at hF
    rw [if_pos rfl] at hF
    refine v_iload_n (i := 0) dX12_lowestOf_2 rfl rfl ?_
    refine v_iload_n (i := 1) dX12_lowestOf_3 rfl rfl ?_
    refine v_ishr dX12_lowestOf_4 ?_
    refine v_iconst (v := 1) dX12_lowestOf_5 (by decide) ?_
    refine v_iand dX12_lowestOf_6 ?_
    refine v_if_ne 16 dX12_lowestOf_7 (by decide) (fun c1 => ?_) (fun c1 => ?_)
    · rw [if_neg c1] at hF
      refine v_iload_n (i := 1) dX12_lowestOf_16 rfl rfl ?_
      refine v_ireturn rfl dX12_lowestOf_17 ?_
      obtain ⟨rfl, rfl⟩ := Prod.mk.inj (Option.some.inj hF)
      exact ⟨rfl, rfl, hG⟩
    · rw [if_pos c1] at hF
      refine v_iinc (i := 1) (v := (l1 + 1)) dX12_lowestOf_10 rfl rfl (by decide) (nlT rfl) ?_
      simp only [List.set_cons_zero, List.set_cons_succ]
      refine v_goto 2 dX12_lowestOf_13 (by decide) ?_
      refine V.weak (la2 := [some (.int l0), some (.int (l1 + 1))]) (by simp [wk]) ?_
      exact (s_X12_lowestOf_IH_2) _ _ _ _ _ hF hG
def F_X12_lowestOf (n : Nat) (h : Hp) (x1 : Int32) : Option (Int32 × Hp) := W_X12_lowestOf n 2 h  x1 0
set_option maxRecDepth 100000 in
set_option maxHeartbeats 4000000 in
theorem s_X12_lowestOf (d : Nat) {n : Nat} {h : Hp} {x1 : Int32} {q0 : (Int32 × Hp)} (hF : F_X12_lowestOf n h x1 = some q0) (hG : G h)  : Kc mX12_lowestOf (d) [.int x1] h (fun r1 h1 => r1 = some (.int q0.1) ∧ h1 = q0.2 ∧ G q0.2) := by
  obtain ⟨r, h'⟩ := q0
  have s_X12_lowestOf_IH_2 := sw_X12_lowestOf d   n
  unfold F_X12_lowestOf at hF
  refine Kc.of [some (.int x1), none] ok_X12_lowestOf rfl (Nat.le_of_ble_eq_true rfl) ?_
  refine v_iconst (v := 0) dX12_lowestOf_0 (by decide) ?_
  refine v_istore_n (i := 1) dX12_lowestOf_1 rfl (by decide) (nlT rfl) ?_
  simp only [List.set_cons_zero, List.set_cons_succ]
  refine V.weak (la2 := [some (.int x1), some (.int 0)]) (by simp [wk]) ?_
  exact (s_X12_lowestOf_IH_2) _ _ _ _ _ hF hG
def F_X12_mixed (n : Nat) (h : Hp) (x1 : Int32) (x2 : Int32) : Option (Int32 × Hp) := some (((((((x1 : Int32) ^^^ (x2 : Int32)) * 1103515245) + 12345) : Int32) ^^^ ((((((((x1 : Int32) ^^^ (x2 : Int32)) * 1103515245) + 12345) : Int32).toUInt32 >>> ((15 : Int32).toUInt32 &&& Int32.toUInt32 31)).toInt32) : Int32)), h)
set_option maxRecDepth 100000 in
set_option maxHeartbeats 4000000 in
theorem s_X12_mixed (d : Nat) {n : Nat} {h : Hp} {x1 : Int32} {x2 : Int32} {q0 : (Int32 × Hp)} (hF : F_X12_mixed n h x1 x2 = some q0) (hG : G h)  : Kc mX12_mixed (d) [.int x1, .int x2] h (fun r1 h1 => r1 = some (.int q0.1) ∧ h1 = q0.2 ∧ G q0.2) := by
  obtain ⟨r, h'⟩ := q0
  unfold F_X12_mixed at hF
  refine Kc.of [some (.int x1), some (.int x2), none] ok_X12_mixed rfl (Nat.le_of_ble_eq_true rfl) ?_
  refine v_iload_n (i := 0) dX12_mixed_0 rfl rfl ?_
  refine v_iload_n (i := 1) dX12_mixed_1 rfl rfl ?_
  refine v_ixor dX12_mixed_2 ?_
  refine v_ldcw (1103515245) kc_X12_349 dX12_mixed_3 ?_
  refine v_imul dX12_mixed_6 ?_
  refine v_sipush (v := 12345) dX12_mixed_7 (by decide) ?_
  refine v_iadd dX12_mixed_10 ?_
  refine v_istore_n (i := 2) dX12_mixed_11 rfl (by decide) (nlT rfl) ?_
  simp only [List.set_cons_zero, List.set_cons_succ]
  refine v_iload_n (i := 2) dX12_mixed_12 rfl rfl ?_
  refine v_iload_n (i := 2) dX12_mixed_13 rfl rfl ?_
  refine v_bipush (v := 15) dX12_mixed_14 (by decide) ?_
  refine v_iushr dX12_mixed_16 ?_
  refine v_ixor dX12_mixed_17 ?_
  refine v_ireturn rfl dX12_mixed_18 ?_
  obtain ⟨rfl, rfl⟩ := Prod.mk.inj (Option.some.inj hF)
  exact ⟨rfl, rfl, hG⟩
def F_X12_must (n : Nat) (h : Hp) (x1 : Int32) : Option Hp := ((F_X12_is n h x1).bind (fun q1 => (if (q1.1 : Int32) = 0 then ((F_X12_fail n q1.2 1).bind (fun q4 => some q4)) else ((F_X12_goesOn n q1.2).bind (fun q6 => some q6)))))
set_option maxRecDepth 100000 in
set_option maxHeartbeats 4000000 in
theorem s_X12_must (d : Nat) {n : Nat} {h : Hp} {x1 : Int32} {q0 : Hp} (hF : F_X12_must n h x1 = some q0) (hG : G h)  : Kc mX12_must (d + 2) [.ref 226, .int x1] h (fun r1 h1 => r1 = none ∧ h1 = q0 ∧ G q0) := by
  obtain ⟨h', rfl⟩ : ∃ z, z = q0 := ⟨_, rfl⟩
  unfold F_X12_must at hF
  refine Kc.of [some (.ref 226), some (.int x1)] ok_X12_must rfl (Nat.le_of_ble_eq_true rfl) ?_
  refine v_aload_n (i := 0) dX12_must_0 rfl rfl ?_
  refine v_iload_n (i := 1) dX12_must_1 rfl rfl ?_
  obtain ⟨q1, q1_e, hF⟩ := Option.bind_eq_some_iff.mp hF
  refine c_X12_233 rfl sh_226 (by exact ltG hG (by decide)) (Nat.le_of_ble_eq_true rfl) dX12_must_2 (s_X12_is _ q1_e hG) (fun r1 h1 hq => ?_)
  obtain ⟨rfl, hq, hG⟩ := hq
  replace hq := hq.symm
  subst hq
  show V _ _ _ _ (_ :: _) _ _
  refine v_if_eq 15 dX12_must_5 (by decide) (fun c3 => ?_) (fun c3 => ?_)
  · rw [if_pos c3] at hF
    refine v_aload_n (i := 0) dX12_must_15 rfl rfl ?_
    refine v_iconst (v := 1) dX12_must_16 (by decide) ?_
    obtain ⟨q4, q4_e, hF⟩ := Option.bind_eq_some_iff.mp hF
    refine c_X12_230 rfl sh_226 (by exact ltG hG (by decide)) (Nat.le_of_ble_eq_true rfl) dX12_must_17 (s_X12_fail _ q4_e hG) (fun r1 h1 hq => ?_)
    obtain ⟨rfl, hq, hG⟩ := hq
    replace hq := hq.symm
    subst hq
    simp only [Option.toList, List.nil_append]
    refine v_return rfl dX12_must_20 ?_
    obtain rfl := Option.some.inj hF
    exact ⟨rfl, rfl, hG⟩
  · rw [if_neg c3] at hF
    refine v_aload_n (i := 0) dX12_must_8 rfl rfl ?_
    obtain ⟨q6, q6_e, hF⟩ := Option.bind_eq_some_iff.mp hF
    refine c_X12_236 rfl sh_226 (by exact ltG hG (by decide)) (Nat.le_of_ble_eq_true rfl) dX12_must_9 (s_X12_goesOn _ q6_e hG) (fun r1 h1 hq => ?_)
    obtain ⟨rfl, hq, hG⟩ := hq
    replace hq := hq.symm
    subst hq
    simp only [Option.toList, List.nil_append]
    refine v_goto 20 dX12_must_12 (by decide) ?_
    refine v_return rfl dX12_must_20 ?_
    obtain rfl := Option.some.inj hF
    exact ⟨rfl, rfl, hG⟩
def W_X12_nearBits : Nat → Nat → Hp → Int32 → Int32 → Int32 → Int32 → Option (Int32 × Hp)
  | 0 => fun _ _ _ _ _ _ => none
  | n + 1 => fun hd h l1 l2 l3 l4 => (if hd = 4 then ((F_X12_cells n h).bind (fun q1 => (if (q1.1 : Int32) ≤ (l3 : Int32) then some (l2, q1.2) else (if (((((l1 : Int32) >>> ((l3 : Int32) &&& 31)) : Int32) &&& (1 : Int32)) : Int32) = 0 then W_X12_nearBits n 4 q1.2  l1 l2 (l3 + 1) 0 else W_X12_nearBits n 26 q1.2  l1 l2 l3 0)))) else (if hd = 26 then (if (5 : Int32) ≤ (l4 : Int32) then W_X12_nearBits n 4 h  l1 l2 (l3 + 1) 0 else (if ixOK ((5 * l3) + l4) 125 = true then W_X12_nearBits n 26 h  l1 ((l2 : Int32) ||| (((1 : Int32) <<< (((hi h 264 (Int32.toNatClampNeg ((5 * l3) + l4))) : Int32) &&& 31)) : Int32)) l3 (l4 + 1) else none)) else none))
set_option maxRecDepth 100000 in
set_option maxHeartbeats 4000000 in
theorem sw_X12_nearBits (d : Nat)  (n : Nat) : (∀ (l1 : Int32) (l2 : Int32) (l3 : Int32) (h : Hp), ∀ (r : Int32) (h' : Hp), W_X12_nearBits n 4 h  l1 l2 l3 0 = some (r, h') → G h → V mX12_nearBits (d + 1) 4 [some (.ref 226), some (.int l1), some (.int l2), some (.int l3), none] [] h (fun r1 h1 => r1 = some (.int r) ∧ h1 = h' ∧ G h')) ∧ (∀ (l1 : Int32) (l2 : Int32) (l3 : Int32) (l4 : Int32) (h : Hp), ∀ (r : Int32) (h' : Hp), W_X12_nearBits n 26 h  l1 l2 l3 l4 = some (r, h') → G h → V mX12_nearBits (d + 1) 26 [some (.ref 226), some (.int l1), some (.int l2), some (.int l3), some (.int l4)] [] h (fun r1 h1 => r1 = some (.int r) ∧ h1 = h' ∧ G h')) := by
  induction n with
  | zero => exact ⟨by intros; contradiction, by intros; contradiction⟩
  | succ n ih =>
    obtain ⟨s_X12_nearBits_IH_4, s_X12_nearBits_IH_26⟩ := ih
    refine ⟨?_, ?_⟩
    · intro l1 l2 l3 h r h' hF hG
      unfold W_X12_nearBits at hF
      rw [if_pos rfl] at hF
      refine v_iload_n (i := 3) dX12_nearBits_4 rfl rfl ?_
      refine v_aload_n (i := 0) dX12_nearBits_5 rfl rfl ?_
      obtain ⟨q1, q1_e, hF⟩ := Option.bind_eq_some_iff.mp hF
      refine c_X12_326 rfl sh_226 (by exact ltG hG (by decide)) (Nat.le_of_ble_eq_true rfl) dX12_nearBits_6 (s_X12_cells _ q1_e hG) (fun r1 h1 hq => ?_)
      obtain ⟨rfl, hq, hG⟩ := hq
      replace hq := hq.symm
      subst hq
      show V _ _ _ _ (_ :: _) _ _
      refine v_icmp_ge 60 dX12_nearBits_9 (by decide) (fun c3 => ?_) (fun c3 => ?_)
      · rw [if_pos c3] at hF
        refine v_iload_n (i := 2) dX12_nearBits_60 rfl rfl ?_
        refine v_ireturn rfl dX12_nearBits_61 ?_
        obtain ⟨rfl, rfl⟩ := Prod.mk.inj (Option.some.inj hF)
        exact ⟨rfl, rfl, hG⟩
      · rw [if_neg c3] at hF
        refine v_iload_n (i := 1) dX12_nearBits_12 rfl rfl ?_
        refine v_iload_n (i := 3) dX12_nearBits_13 rfl rfl ?_
        refine v_ishr dX12_nearBits_14 ?_
        refine v_iconst (v := 1) dX12_nearBits_15 (by decide) ?_
        refine v_iand dX12_nearBits_16 ?_
        refine v_if_ne 23 dX12_nearBits_17 (by decide) (fun c4 => ?_) (fun c4 => ?_)
        · rw [if_neg c4] at hF
          refine v_iconst (v := 0) dX12_nearBits_23 (by decide) ?_
          refine v_istore (i := 4) dX12_nearBits_24 (by decide) (nlT rfl) ?_
          simp only [List.set_cons_zero, List.set_cons_succ]
          refine V.weak (la2 := [some (.ref 226), some (.int l1), some (.int l2), some (.int l3), some (.int 0)]) (by simp [wk]) ?_
          exact (s_X12_nearBits_IH_26) _ _ _ _ _ _ _ hF hG
        · rw [if_pos c4] at hF
          refine v_goto 54 dX12_nearBits_20 (by decide) ?_
          refine v_iinc (i := 3) (v := (l3 + 1)) dX12_nearBits_54 rfl rfl (by decide) (nlT rfl) ?_
          simp only [List.set_cons_zero, List.set_cons_succ]
          refine v_goto 4 dX12_nearBits_57 (by decide) ?_
          refine V.weak (la2 := [some (.ref 226), some (.int l1), some (.int l2), some (.int (l3 + 1)), none]) (by simp [wk]) ?_
          exact (s_X12_nearBits_IH_4) _ _ _ _ _ _ hF hG
    · intro l1 l2 l3 l4 h r h' hF hG
      unfold W_X12_nearBits at hF
      rw [if_neg (by decide)] at hF
      rw [if_pos rfl] at hF
      refine v_iload (i := 4) dX12_nearBits_26 rfl ?_
      refine v_iconst (v := 5) dX12_nearBits_28 (by decide) ?_
      refine v_icmp_ge 54 dX12_nearBits_29 (by decide) (fun c5 => ?_) (fun c5 => ?_)
      · rw [if_pos c5] at hF
        refine v_iinc (i := 3) (v := (l3 + 1)) dX12_nearBits_54 rfl rfl (by decide) (nlT rfl) ?_
        simp only [List.set_cons_zero, List.set_cons_succ]
        refine v_goto 4 dX12_nearBits_57 (by decide) ?_
        refine V.weak (la2 := [some (.ref 226), some (.int l1), some (.int l2), some (.int (l3 + 1)), none]) (by simp [wk]) ?_
        exact (s_X12_nearBits_IH_4) _ _ _ _ _ _ hF hG
      · rw [if_neg c5] at hF
        refine v_iload_n (i := 2) dX12_nearBits_32 rfl rfl ?_
        refine v_iconst (v := 1) dX12_nearBits_33 (by decide) ?_
        refine v_aload_n (i := 0) dX12_nearBits_34 rfl rfl ?_
        refine g_X12_131 (q := 264) rfl sh_226 (by exact ltG hG (by decide)) (by exact rG hG r0_226_57) dX12_nearBits_35 ?_
        refine v_iconst (v := 5) dX12_nearBits_38 (by decide) ?_
        refine v_iload_n (i := 3) dX12_nearBits_39 rfl rfl ?_
        refine v_imul dX12_nearBits_40 ?_
        refine v_iload (i := 4) dX12_nearBits_41 rfl ?_
        refine v_iadd dX12_nearBits_43 ?_
        obtain ⟨k6, hF⟩ := ck_some hF
        refine v_iaload sh_264 (by exact ltG hG (by decide)) (ixO k6) dX12_nearBits_44 ?_
        refine v_ishl dX12_nearBits_45 ?_
        refine v_ior dX12_nearBits_46 ?_
        refine v_istore_n (i := 2) dX12_nearBits_47 rfl (by decide) (nlT rfl) ?_
        simp only [List.set_cons_zero, List.set_cons_succ]
        refine v_iinc (i := 4) (v := (l4 + 1)) dX12_nearBits_48 rfl rfl (by decide) (nlT rfl) ?_
        simp only [List.set_cons_zero, List.set_cons_succ]
        refine v_goto 26 dX12_nearBits_51 (by decide) ?_
        refine V.weak (la2 := [some (.ref 226), some (.int l1), some (.int ((l2 : Int32) ||| (((1 : Int32) <<< (((hi h 264 (Int32.toNatClampNeg ((5 * l3) + l4))) : Int32) &&& 31)) : Int32))), some (.int l3), some (.int (l4 + 1))]) (by simp [wk]) ?_
        exact (s_X12_nearBits_IH_26) _ _ _ _ _ _ _ hF hG
def F_X12_nearBits (n : Nat) (h : Hp) (x1 : Int32) : Option (Int32 × Hp) := W_X12_nearBits n 4 h  x1 0 0 0
set_option maxRecDepth 100000 in
set_option maxHeartbeats 4000000 in
theorem s_X12_nearBits (d : Nat) {n : Nat} {h : Hp} {x1 : Int32} {q0 : (Int32 × Hp)} (hF : F_X12_nearBits n h x1 = some q0) (hG : G h)  : Kc mX12_nearBits (d + 1) [.ref 226, .int x1] h (fun r1 h1 => r1 = some (.int q0.1) ∧ h1 = q0.2 ∧ G q0.2) := by
  obtain ⟨r, h'⟩ := q0
  obtain ⟨s_X12_nearBits_IH_4, s_X12_nearBits_IH_26⟩ := sw_X12_nearBits d   n
  unfold F_X12_nearBits at hF
  refine Kc.of [some (.ref 226), some (.int x1), none, none, none] ok_X12_nearBits rfl (Nat.le_of_ble_eq_true rfl) ?_
  refine v_iconst (v := 0) dX12_nearBits_0 (by decide) ?_
  refine v_istore_n (i := 2) dX12_nearBits_1 rfl (by decide) (nlT rfl) ?_
  simp only [List.set_cons_zero, List.set_cons_succ]
  refine v_iconst (v := 0) dX12_nearBits_2 (by decide) ?_
  refine v_istore_n (i := 3) dX12_nearBits_3 rfl (by decide) (nlT rfl) ?_
  simp only [List.set_cons_zero, List.set_cons_succ]
  refine V.weak (la2 := [some (.ref 226), some (.int x1), some (.int 0), some (.int 0), none]) (by simp [wk]) ?_
  exact (s_X12_nearBits_IH_4) _ _ _ _ _ _ hF hG
def W_X12_next : Nat → Nat → Hp → Int32 → Int32 → Option (Int32 × Hp)
  | 0 => fun _ _ _ _ => none
  | n + 1 => fun hd h l1 l2 => (if hd = 28 then ((F_X12_isLoud n h l1 ((hi h 263 61) + l2)).bind (fun q1 => (if (q1.1 : Int32) = 0 then W_X12_next n 28 q1.2  l1 (l2 + 1) else some (l2, q1.2)))) else none)
set_option maxRecDepth 100000 in
set_option maxHeartbeats 4000000 in
theorem sw_X12_next (d : Nat)  (n : Nat) : (∀ (l1 : Int32) (l2 : Int32) (h : Hp), ∀ (r : Int32) (h' : Hp), W_X12_next n 28 h  l1 l2 = some (r, h') → G h → V mX12_next (d + 2) 28 [some (.ref 226), some (.int l1), some (.int l2)] [] h (fun r1 h1 => r1 = some (.int r) ∧ h1 = h' ∧ G h')) := by
  induction n with
  | zero => exact by intros; contradiction
  | succ n ih =>
    have s_X12_next_IH_28 := ih
    intro l1 l2 h r h' hF hG
    unfold W_X12_next at hF
    rw [if_pos rfl] at hF
    refine v_aload_n (i := 0) dX12_next_28 rfl rfl ?_
    refine v_iload_n (i := 1) dX12_next_29 rfl rfl ?_
    refine v_aload_n (i := 0) dX12_next_30 rfl rfl ?_
    refine g_X12_128 (q := 263) rfl sh_226 (by exact ltG hG (by decide)) (by exact rG hG r0_226_54) dX12_next_31 ?_
    refine v_bipush (v := 61) dX12_next_34 (by decide) ?_
    refine v_iaload sh_263 (by exact ltG hG (by decide)) (ixK 61 (by decide)) dX12_next_36 ?_
    refine v_iload_n (i := 2) dX12_next_37 rfl rfl ?_
    refine v_iadd dX12_next_38 ?_
    obtain ⟨q1, q1_e, hF⟩ := Option.bind_eq_some_iff.mp hF
    refine c_X12_353 rfl sh_226 (by exact ltG hG (by decide)) (Nat.le_of_ble_eq_true rfl) dX12_next_39 (s_X12_isLoud _ q1_e hG) (fun r1 h1 hq => ?_)
    obtain ⟨rfl, hq, hG⟩ := hq
    replace hq := hq.symm
    subst hq
    show V _ _ _ _ (_ :: _) _ _
    refine v_if_ne 51 dX12_next_42 (by decide) (fun c3 => ?_) (fun c3 => ?_)
    · rw [if_neg c3] at hF
      refine v_iload_n (i := 2) dX12_next_51 rfl rfl ?_
      refine v_ireturn rfl dX12_next_52 ?_
      obtain ⟨rfl, rfl⟩ := Prod.mk.inj (Option.some.inj hF)
      exact ⟨rfl, rfl, hG⟩
    · rw [if_pos c3] at hF
      refine v_iinc (i := 2) (v := (l2 + 1)) dX12_next_45 rfl rfl (by decide) (nlT rfl) ?_
      simp only [List.set_cons_zero, List.set_cons_succ]
      refine v_goto 28 dX12_next_48 (by decide) ?_
      refine V.weak (la2 := [some (.ref 226), some (.int l1), some (.int (l2 + 1))]) (by simp [wk]) ?_
      exact (s_X12_next_IH_28) _ _ _ _ _ hF hG
def F_X12_next (n : Nat) (h : Hp) (x1 : Int32) : Option (Int32 × Hp) := ((F_X12_isCell n h x1).bind (fun q4 => (if (q4.1 : Int32) = 0 then some ((-1), q4.2) else (if ixOK x1 63 = true then (if ((hi q4.2 262 (Int32.toNatClampNeg x1)) : Int32) = 0 then some ((-2), q4.2) else ((F_X12_copies n q4.2).bind (fun q9 => W_X12_next n 28 q9  x1 1))) else none))))
set_option maxRecDepth 100000 in
set_option maxHeartbeats 4000000 in
theorem s_X12_next (d : Nat) {n : Nat} {h : Hp} {x1 : Int32} {q0 : (Int32 × Hp)} (hF : F_X12_next n h x1 = some q0) (hG : G h)  : Kc mX12_next (d + 2) [.ref 226, .int x1] h (fun r1 h1 => r1 = some (.int q0.1) ∧ h1 = q0.2 ∧ G q0.2) := by
  obtain ⟨r, h'⟩ := q0
  have s_X12_next_IH_28 := sw_X12_next d   n
  unfold F_X12_next at hF
  refine Kc.of [some (.ref 226), some (.int x1), none] ok_X12_next rfl (Nat.le_of_ble_eq_true rfl) ?_
  refine v_aload_n (i := 0) dX12_next_0 rfl rfl ?_
  refine v_iload_n (i := 1) dX12_next_1 rfl rfl ?_
  obtain ⟨q4, q4_e, hF⟩ := Option.bind_eq_some_iff.mp hF
  refine c_X12_403 rfl sh_226 (by exact ltG hG (by decide)) (Nat.le_of_ble_eq_true rfl) dX12_next_2 (s_X12_isCell _ q4_e hG) (fun r1 h1 hq => ?_)
  obtain ⟨rfl, hq, hG⟩ := hq
  replace hq := hq.symm
  subst hq
  show V _ _ _ _ (_ :: _) _ _
  refine v_if_ne 10 dX12_next_5 (by decide) (fun c6 => ?_) (fun c6 => ?_)
  · rw [if_neg c6] at hF
    refine v_aload_n (i := 0) dX12_next_10 rfl rfl ?_
    refine g_X12_125 (q := 262) rfl sh_226 (by exact ltG hG (by decide)) (by exact rG hG r0_226_53) dX12_next_11 ?_
    refine v_iload_n (i := 1) dX12_next_14 rfl rfl ?_
    obtain ⟨k7, hF⟩ := ck_some hF
    refine v_iaload sh_262 (by exact ltG hG (by decide)) (ixO k7) dX12_next_15 ?_
    refine v_if_ne 22 dX12_next_16 (by decide) (fun c8 => ?_) (fun c8 => ?_)
    · rw [if_neg c8] at hF
      refine v_aload_n (i := 0) dX12_next_22 rfl rfl ?_
      obtain ⟨q9, q9_e, hF⟩ := Option.bind_eq_some_iff.mp hF
      refine c_X12_346 rfl sh_226 (by exact ltG hG (by decide)) (Nat.le_of_ble_eq_true rfl) dX12_next_23 (s_X12_copies _ q9_e hG) (fun r1 h1 hq => ?_)
      obtain ⟨rfl, hq, hG⟩ := hq
      replace hq := hq.symm
      subst hq
      simp only [Option.toList, List.nil_append]
      refine v_iconst (v := 1) dX12_next_26 (by decide) ?_
      refine v_istore_n (i := 2) dX12_next_27 rfl (by decide) (nlT rfl) ?_
      simp only [List.set_cons_zero, List.set_cons_succ]
      refine V.weak (la2 := [some (.ref 226), some (.int x1), some (.int 1)]) (by simp [wk]) ?_
      exact (s_X12_next_IH_28) _ _ _ _ _ hF hG
    · rw [if_pos c8] at hF
      refine v_bipush (v := (-2)) dX12_next_19 (by decide) ?_
      refine v_ireturn rfl dX12_next_21 ?_
      obtain ⟨rfl, rfl⟩ := Prod.mk.inj (Option.some.inj hF)
      exact ⟨rfl, rfl, hG⟩
  · rw [if_pos c6] at hF
    refine v_iconst (v := (-1)) dX12_next_8 (by decide) ?_
    refine v_ireturn rfl dX12_next_9 ?_
    obtain ⟨rfl, rfl⟩ := Prod.mk.inj (Option.some.inj hF)
    exact ⟨rfl, rfl, hG⟩
def F_X12_off (n : Nat) (h : Hp) (x1 : Int32) (x2 : Int32) : Option (Int32 × Hp) := (if (x2 : Int32) ≤ (x1 : Int32) then some ((x1 - x2), h) else some ((x2 - x1), h))
set_option maxRecDepth 100000 in
set_option maxHeartbeats 4000000 in
theorem s_X12_off (d : Nat) {n : Nat} {h : Hp} {x1 : Int32} {x2 : Int32} {q0 : (Int32 × Hp)} (hF : F_X12_off n h x1 x2 = some q0) (hG : G h)  : Kc mX12_off (d) [.int x1, .int x2] h (fun r1 h1 => r1 = some (.int q0.1) ∧ h1 = q0.2 ∧ G q0.2) := by
  obtain ⟨r, h'⟩ := q0
  unfold F_X12_off at hF
  refine Kc.of [some (.int x1), some (.int x2)] ok_X12_off rfl (Nat.le_of_ble_eq_true rfl) ?_
  refine v_iload_n (i := 0) dX12_off_0 rfl rfl ?_
  refine v_iload_n (i := 1) dX12_off_1 rfl rfl ?_
  refine v_icmp_ge 11 dX12_off_2 (by decide) (fun c1 => ?_) (fun c1 => ?_)
  · rw [if_pos c1] at hF
    refine v_iload_n (i := 0) dX12_off_11 rfl rfl ?_
    refine v_iload_n (i := 1) dX12_off_12 rfl rfl ?_
    refine v_isub dX12_off_13 ?_
    refine v_ireturn rfl dX12_off_14 ?_
    obtain ⟨rfl, rfl⟩ := Prod.mk.inj (Option.some.inj hF)
    exact ⟨rfl, rfl, hG⟩
  · rw [if_neg c1] at hF
    refine v_iload_n (i := 1) dX12_off_5 rfl rfl ?_
    refine v_iload_n (i := 0) dX12_off_6 rfl rfl ?_
    refine v_isub dX12_off_7 ?_
    refine v_goto 14 dX12_off_8 (by decide) ?_
    refine v_ireturn rfl dX12_off_14 ?_
    obtain ⟨rfl, rfl⟩ := Prod.mk.inj (Option.some.inj hF)
    exact ⟨rfl, rfl, hG⟩
def W_X12_period : Nat → Nat → Hp → Int32 → Int32 → Option (Int32 × Hp)
  | 0 => fun _ _ _ _ => none
  | n + 1 => fun hd h l1 l2 => (if hd = 4 then ((F_X12_cells n h).bind (fun q1 => (if (q1.1 : Int32) ≤ (l2 : Int32) then some (l1, q1.2) else (if ixOK l2 63 = true then (if ((hi q1.2 262 (Int32.toNatClampNeg l2)) : Int32) ≤ 0 then W_X12_period n 4 q1.2  l1 (l2 + 1) else (if ixOK l2 63 = true then ((F_X12_greatest n q1.2 l1 (hi q1.2 262 (Int32.toNatClampNeg l2))).bind (fun q7 => (if q7.1 = 0 then none else (if ixOK l2 63 = true then W_X12_period n 4 q7.2  ((l1 / q7.1) * (hi q7.2 262 (Int32.toNatClampNeg l2))) (l2 + 1) else none)))) else none)) else none)))) else none)
set_option maxRecDepth 100000 in
set_option maxHeartbeats 4000000 in
theorem sw_X12_period (d : Nat)  (n : Nat) : (∀ (l1 : Int32) (l2 : Int32) (h : Hp), ∀ (r : Int32) (h' : Hp), W_X12_period n 4 h  l1 l2 = some (r, h') → G h → V mX12_period (d + 1) 4 [some (.ref 226), some (.int l1), some (.int l2)] [] h (fun r1 h1 => r1 = some (.int r) ∧ h1 = h' ∧ G h')) := by
  induction n with
  | zero => exact by intros; contradiction
  | succ n ih =>
    have s_X12_period_IH_4 := ih
    intro l1 l2 h r h' hF hG
    unfold W_X12_period at hF
    rw [if_pos rfl] at hF
    refine v_iload_n (i := 2) dX12_period_4 rfl rfl ?_
    refine v_aload_n (i := 0) dX12_period_5 rfl rfl ?_
    obtain ⟨q1, q1_e, hF⟩ := Option.bind_eq_some_iff.mp hF
    refine c_X12_326 rfl sh_226 (by exact ltG hG (by decide)) (Nat.le_of_ble_eq_true rfl) dX12_period_6 (s_X12_cells _ q1_e hG) (fun r1 h1 hq => ?_)
    obtain ⟨rfl, hq, hG⟩ := hq
    replace hq := hq.symm
    subst hq
    show V _ _ _ _ (_ :: _) _ _
    refine v_icmp_ge 47 dX12_period_9 (by decide) (fun c3 => ?_) (fun c3 => ?_)
    · rw [if_pos c3] at hF
      refine v_iload_n (i := 1) dX12_period_47 rfl rfl ?_
      refine v_ireturn rfl dX12_period_48 ?_
      obtain ⟨rfl, rfl⟩ := Prod.mk.inj (Option.some.inj hF)
      exact ⟨rfl, rfl, hG⟩
    · rw [if_neg c3] at hF
      refine v_aload_n (i := 0) dX12_period_12 rfl rfl ?_
      refine g_X12_125 (q := 262) rfl sh_226 (by exact ltG hG (by decide)) (by exact rG hG r0_226_53) dX12_period_13 ?_
      refine v_iload_n (i := 2) dX12_period_16 rfl rfl ?_
      obtain ⟨k4, hF⟩ := ck_some hF
      refine v_iaload sh_262 (by exact ltG hG (by decide)) (ixO k4) dX12_period_17 ?_
      refine v_if_le 41 dX12_period_18 (by decide) (fun c5 => ?_) (fun c5 => ?_)
      · rw [if_pos c5] at hF
        refine v_iinc (i := 2) (v := (l2 + 1)) dX12_period_41 rfl rfl (by decide) (nlT rfl) ?_
        simp only [List.set_cons_zero, List.set_cons_succ]
        refine v_goto 4 dX12_period_44 (by decide) ?_
        refine V.weak (la2 := [some (.ref 226), some (.int l1), some (.int (l2 + 1))]) (by simp [wk]) ?_
        exact (s_X12_period_IH_4) _ _ _ _ _ hF hG
      · rw [if_neg c5] at hF
        refine v_iload_n (i := 1) dX12_period_21 rfl rfl ?_
        refine v_iload_n (i := 1) dX12_period_22 rfl rfl ?_
        refine v_aload_n (i := 0) dX12_period_23 rfl rfl ?_
        refine g_X12_125 (q := 262) rfl sh_226 (by exact ltG hG (by decide)) (by exact rG hG r0_226_53) dX12_period_24 ?_
        refine v_iload_n (i := 2) dX12_period_27 rfl rfl ?_
        obtain ⟨k6, hF⟩ := ck_some hF
        refine v_iaload sh_262 (by exact ltG hG (by decide)) (ixO k6) dX12_period_28 ?_
        obtain ⟨q7, q7_e, hF⟩ := Option.bind_eq_some_iff.mp hF
        refine c_X12_424 rfl (Nat.le_of_ble_eq_true rfl) dX12_period_29 (s_X12_greatest _ q7_e hG) (fun r1 h1 hq => ?_)
        obtain ⟨rfl, hq, hG⟩ := hq
        replace hq := hq.symm
        subst hq
        show V _ _ _ _ (_ :: _) _ _
        obtain ⟨k9, hF⟩ := ck_none hF
        refine v_idiv dX12_period_32 k9 ?_
        refine v_aload_n (i := 0) dX12_period_33 rfl rfl ?_
        refine g_X12_125 (q := 262) rfl sh_226 (by exact ltG hG (by decide)) (by exact rG hG r0_226_53) dX12_period_34 ?_
        refine v_iload_n (i := 2) dX12_period_37 rfl rfl ?_
        obtain ⟨k10, hF⟩ := ck_some hF
        refine v_iaload sh_262 (by exact ltG hG (by decide)) (ixO k10) dX12_period_38 ?_
        refine v_imul dX12_period_39 ?_
        refine v_istore_n (i := 1) dX12_period_40 rfl (by decide) (nlT rfl) ?_
        simp only [List.set_cons_zero, List.set_cons_succ]
        refine v_iinc (i := 2) (v := (l2 + 1)) dX12_period_41 rfl rfl (by decide) (nlT rfl) ?_
        simp only [List.set_cons_zero, List.set_cons_succ]
        refine v_goto 4 dX12_period_44 (by decide) ?_
        refine V.weak (la2 := [some (.ref 226), some (.int ((l1 / q7.1) * (hi q7.2 262 (Int32.toNatClampNeg l2)))), some (.int (l2 + 1))]) (by simp [wk]) ?_
        exact (s_X12_period_IH_4) _ _ _ _ _ hF hG
def F_X12_period (n : Nat) (h : Hp) : Option (Int32 × Hp) := W_X12_period n 4 h  1 0
set_option maxRecDepth 100000 in
set_option maxHeartbeats 4000000 in
theorem s_X12_period (d : Nat) {n : Nat} {h : Hp}  {q0 : (Int32 × Hp)} (hF : F_X12_period n h  = some q0) (hG : G h)  : Kc mX12_period (d + 1) [.ref 226] h (fun r1 h1 => r1 = some (.int q0.1) ∧ h1 = q0.2 ∧ G q0.2) := by
  obtain ⟨r, h'⟩ := q0
  have s_X12_period_IH_4 := sw_X12_period d   n
  unfold F_X12_period at hF
  refine Kc.of [some (.ref 226), none, none] ok_X12_period rfl (Nat.le_of_ble_eq_true rfl) ?_
  refine v_iconst (v := 1) dX12_period_0 (by decide) ?_
  refine v_istore_n (i := 1) dX12_period_1 rfl (by decide) (nlT rfl) ?_
  simp only [List.set_cons_zero, List.set_cons_succ]
  refine v_iconst (v := 0) dX12_period_2 (by decide) ?_
  refine v_istore_n (i := 2) dX12_period_3 rfl (by decide) (nlT rfl) ?_
  simp only [List.set_cons_zero, List.set_cons_succ]
  refine V.weak (la2 := [some (.ref 226), some (.int 1), some (.int 0)]) (by simp [wk]) ?_
  exact (s_X12_period_IH_4) _ _ _ _ _ hF hG
def F_X12_place (n : Nat) (h : Hp) : Option (Int32 × Hp) := some ((hi h 226 17), h)
set_option maxRecDepth 100000 in
set_option maxHeartbeats 4000000 in
theorem s_X12_place (d : Nat) {n : Nat} {h : Hp}  {q0 : (Int32 × Hp)} (hF : F_X12_place n h  = some q0) (hG : G h)  : Kc mX12_place (d) [.ref 226] h (fun r1 h1 => r1 = some (.int q0.1) ∧ h1 = q0.2 ∧ G q0.2) := by
  obtain ⟨r, h'⟩ := q0
  unfold F_X12_place at hF
  refine Kc.of [some (.ref 226)] ok_X12_place rfl (Nat.le_of_ble_eq_true rfl) ?_
  refine v_aload_n (i := 0) dX12_place_0 rfl rfl ?_
  refine g_X12_37 rfl sh_226 (by exact ltG hG (by decide)) dX12_place_1 ?_
  refine v_ireturn rfl dX12_place_4 ?_
  obtain ⟨rfl, rfl⟩ := Prod.mk.inj (Option.some.inj hF)
  exact ⟨rfl, rfl, hG⟩
def W_X12_plain : Nat → Nat → Hp → Int32 → Int32 → Option Hp
  | 0 => fun _ _ _ _ => none
  | n + 1 => fun hd h l1 l2 => (if hd = 51 then (if (4 : Int32) ≤ (l2 : Int32) then some h else (if ixOK ((4 * l1) + l2) 8 = true then (if ixOK ((4 * l1) + l2) 8 = true then W_X12_plain n 51 (wrI (wrI h 250 (Int32.toNatClampNeg ((4 * l1) + l2)) 0) 251 (Int32.toNatClampNeg ((4 * l1) + l2)) 0)  l1 (l2 + 1) else none) else none)) else none)
set_option maxRecDepth 100000 in
set_option maxHeartbeats 4000000 in
theorem sw_X12_plain (d : Nat)  (n : Nat) : (∀ (l1 : Int32) (l2 : Int32) (h : Hp), ∀ (h' : Hp), W_X12_plain n 51 h  l1 l2 = some h' → G h → V mX12_plain (d) 51 [some (.ref 226), some (.int l1), some (.int l2)] [] h (fun r1 h1 => r1 = none ∧ h1 = h' ∧ G h')) := by
  induction n with
  | zero => exact by intros; contradiction
  | succ n ih =>
    have s_X12_plain_IH_51 := ih
    intro l1 l2 h h' hF hG
    unfold W_X12_plain at hF
    rw [if_pos rfl] at hF
    refine v_iload_n (i := 2) dX12_plain_51 rfl rfl ?_
    refine v_iconst (v := 4) dX12_plain_52 (by decide) ?_
    refine v_icmp_ge 84 dX12_plain_53 (by decide) (fun c1 => ?_) (fun c1 => ?_)
    · rw [if_pos c1] at hF
      refine v_return rfl dX12_plain_84 ?_
      obtain rfl := Option.some.inj hF
      exact ⟨rfl, rfl, hG⟩
    · rw [if_neg c1] at hF
      refine v_aload_n (i := 0) dX12_plain_56 rfl rfl ?_
      refine g_X12_88 (q := 250) rfl sh_226 (by exact ltG hG (by decide)) (by exact rG hG r0_226_37) dX12_plain_57 ?_
      refine v_iconst (v := 4) dX12_plain_60 (by decide) ?_
      refine v_iload_n (i := 1) dX12_plain_61 rfl rfl ?_
      refine v_imul dX12_plain_62 ?_
      refine v_iload_n (i := 2) dX12_plain_63 rfl rfl ?_
      refine v_iadd dX12_plain_64 ?_
      refine v_iconst (v := 0) dX12_plain_65 (by decide) ?_
      obtain ⟨k2, hF⟩ := ck_some hF
      refine v_iastore sh_250 (by exact ltG hG (by decide)) (ixO k2) dX12_plain_66 ?_
      refine v_aload_n (i := 0) dX12_plain_67 rfl rfl ?_
      refine g_X12_91 (q := 251) rfl sh_226 (by exact ltG hG (by decide)) (by exact rG hG r0_226_38) dX12_plain_68 ?_
      refine v_iconst (v := 4) dX12_plain_71 (by decide) ?_
      refine v_iload_n (i := 1) dX12_plain_72 rfl rfl ?_
      refine v_imul dX12_plain_73 ?_
      refine v_iload_n (i := 2) dX12_plain_74 rfl rfl ?_
      refine v_iadd dX12_plain_75 ?_
      refine v_iconst (v := 0) dX12_plain_76 (by decide) ?_
      obtain ⟨k3, hF⟩ := ck_some hF
      refine v_iastore sh_251 (by exact ltG hG (by decide)) (ixO k3) dX12_plain_77 ?_
      refine v_iinc (i := 2) (v := (l2 + 1)) dX12_plain_78 rfl rfl (by decide) (nlT rfl) ?_
      simp only [List.set_cons_zero, List.set_cons_succ]
      refine v_goto 51 dX12_plain_81 (by decide) ?_
      refine V.weak (la2 := [some (.ref 226), some (.int l1), some (.int (l2 + 1))]) (by simp [wk]) ?_
      exact (s_X12_plain_IH_51) _ _ _ _ hF hG
def F_X12_plain (n : Nat) (h : Hp) (x1 : Int32) : Option Hp := (if ixOK x1 2 = true then (if ixOK x1 2 = true then (if ixOK x1 2 = true then (if ixOK x1 2 = true then (if ixOK x1 2 = true then (if ixOK x1 2 = true then (if ixOK x1 2 = true then W_X12_plain n 51 (wrI (wrI (wrI (wrI (wrI (wrI (wrI h 235 (Int32.toNatClampNeg x1) 4) 236 (Int32.toNatClampNeg x1) 4) 237 (Int32.toNatClampNeg x1) 0) 242 (Int32.toNatClampNeg x1) 0) 245 (Int32.toNatClampNeg x1) 0) 248 (Int32.toNatClampNeg x1) 0) 249 (Int32.toNatClampNeg x1) 0)  x1 0 else none) else none) else none) else none) else none) else none) else none)
set_option maxRecDepth 100000 in
set_option maxHeartbeats 4000000 in
theorem s_X12_plain (d : Nat) {n : Nat} {h : Hp} {x1 : Int32} {q0 : Hp} (hF : F_X12_plain n h x1 = some q0) (hG : G h)  : Kc mX12_plain (d) [.ref 226, .int x1] h (fun r1 h1 => r1 = none ∧ h1 = q0 ∧ G q0) := by
  obtain ⟨h', rfl⟩ : ∃ z, z = q0 := ⟨_, rfl⟩
  have s_X12_plain_IH_51 := sw_X12_plain d   n
  unfold F_X12_plain at hF
  refine Kc.of [some (.ref 226), some (.int x1), none] ok_X12_plain rfl (Nat.le_of_ble_eq_true rfl) ?_
  refine v_aload_n (i := 0) dX12_plain_0 rfl rfl ?_
  refine g_X12_43 (q := 235) rfl sh_226 (by exact ltG hG (by decide)) (by exact rG hG r0_226_22) dX12_plain_1 ?_
  refine v_iload_n (i := 1) dX12_plain_4 rfl rfl ?_
  refine v_iconst (v := 4) dX12_plain_5 (by decide) ?_
  obtain ⟨k4, hF⟩ := ck_some hF
  refine v_iastore sh_235 (by exact ltG hG (by decide)) (ixO k4) dX12_plain_6 ?_
  refine v_aload_n (i := 0) dX12_plain_7 rfl rfl ?_
  refine g_X12_46 (q := 236) rfl sh_226 (by exact ltG hG (by decide)) (by exact rG hG r0_226_23) dX12_plain_8 ?_
  refine v_iload_n (i := 1) dX12_plain_11 rfl rfl ?_
  refine v_iconst (v := 4) dX12_plain_12 (by decide) ?_
  obtain ⟨k5, hF⟩ := ck_some hF
  refine v_iastore sh_236 (by exact ltG hG (by decide)) (ixO k5) dX12_plain_13 ?_
  refine v_aload_n (i := 0) dX12_plain_14 rfl rfl ?_
  refine g_X12_49 (q := 237) rfl sh_226 (by exact ltG hG (by decide)) (by exact rG hG r0_226_24) dX12_plain_15 ?_
  refine v_iload_n (i := 1) dX12_plain_18 rfl rfl ?_
  refine v_iconst (v := 0) dX12_plain_19 (by decide) ?_
  obtain ⟨k6, hF⟩ := ck_some hF
  refine v_iastore sh_237 (by exact ltG hG (by decide)) (ixO k6) dX12_plain_20 ?_
  refine v_aload_n (i := 0) dX12_plain_21 rfl rfl ?_
  refine g_X12_64 (q := 242) rfl sh_226 (by exact ltG hG (by decide)) (by exact rG hG r0_226_29) dX12_plain_22 ?_
  refine v_iload_n (i := 1) dX12_plain_25 rfl rfl ?_
  refine v_iconst (v := 0) dX12_plain_26 (by decide) ?_
  obtain ⟨k7, hF⟩ := ck_some hF
  refine v_iastore sh_242 (by exact ltG hG (by decide)) (ixO k7) dX12_plain_27 ?_
  refine v_aload_n (i := 0) dX12_plain_28 rfl rfl ?_
  refine g_X12_73 (q := 245) rfl sh_226 (by exact ltG hG (by decide)) (by exact rG hG r0_226_32) dX12_plain_29 ?_
  refine v_iload_n (i := 1) dX12_plain_32 rfl rfl ?_
  refine v_iconst (v := 0) dX12_plain_33 (by decide) ?_
  obtain ⟨k8, hF⟩ := ck_some hF
  refine v_iastore sh_245 (by exact ltG hG (by decide)) (ixO k8) dX12_plain_34 ?_
  refine v_aload_n (i := 0) dX12_plain_35 rfl rfl ?_
  refine g_X12_82 (q := 248) rfl sh_226 (by exact ltG hG (by decide)) (by exact rG hG r0_226_35) dX12_plain_36 ?_
  refine v_iload_n (i := 1) dX12_plain_39 rfl rfl ?_
  refine v_iconst (v := 0) dX12_plain_40 (by decide) ?_
  obtain ⟨k9, hF⟩ := ck_some hF
  refine v_iastore sh_248 (by exact ltG hG (by decide)) (ixO k9) dX12_plain_41 ?_
  refine v_aload_n (i := 0) dX12_plain_42 rfl rfl ?_
  refine g_X12_85 (q := 249) rfl sh_226 (by exact ltG hG (by decide)) (by exact rG hG r0_226_36) dX12_plain_43 ?_
  refine v_iload_n (i := 1) dX12_plain_46 rfl rfl ?_
  refine v_iconst (v := 0) dX12_plain_47 (by decide) ?_
  obtain ⟨k10, hF⟩ := ck_some hF
  refine v_iastore sh_249 (by exact ltG hG (by decide)) (ixO k10) dX12_plain_48 ?_
  refine v_iconst (v := 0) dX12_plain_49 (by decide) ?_
  refine v_istore_n (i := 2) dX12_plain_50 rfl (by decide) (nlT rfl) ?_
  simp only [List.set_cons_zero, List.set_cons_succ]
  refine V.weak (la2 := [some (.ref 226), some (.int x1), some (.int 0)]) (by simp [wk]) ?_
  exact (s_X12_plain_IH_51) _ _ _ _ hF hG
def W_X12_records : Nat → Nat → Hp → Int32 → Option Hp
  | 0 => fun _ _ _ => none
  | n + 1 => fun hd h l1 => (if hd = 11 then (if (2457 : Int32) ≤ (l1 : Int32) then W_X12_records n 51 (wrI h 226 59 ((hi h 226 59) - 1))  0 else (if ixOK (l1 + 63) 2520 = true then (if ixOK l1 2520 = true then W_X12_records n 11 (wrI h 266 (Int32.toNatClampNeg l1) (hi h 266 (Int32.toNatClampNeg (l1 + 63))))  (l1 + 1) else none) else none)) else (if hd = 51 then (if (63 : Int32) ≤ (l1 : Int32) then ((F_X12_keepsRow n (wrI h 226 59 ((hi h 226 59) + 1))).bind (fun q5 => some q5)) else (if ixOK l1 63 = true then (if ixOK ((63 * (hi h 226 59)) + l1) 2520 = true then W_X12_records n 51 (wrI h 266 (Int32.toNatClampNeg ((63 * (hi h 226 59)) + l1)) (hi h 262 (Int32.toNatClampNeg l1)))  (l1 + 1) else none) else none)) else none))
set_option maxRecDepth 100000 in
set_option maxHeartbeats 4000000 in
theorem sw_X12_records (d : Nat)  (n : Nat) : (∀ (l1 : Int32) (h : Hp), ∀ (h' : Hp), W_X12_records n 11 h  l1 = some h' → G h → V mX12_records (d + 1) 11 [some (.ref 226), some (.int l1)] [] h (fun r1 h1 => r1 = none ∧ h1 = h' ∧ G h')) ∧ (∀ (l1 : Int32) (h : Hp), ∀ (h' : Hp), W_X12_records n 51 h  l1 = some h' → G h → V mX12_records (d + 1) 51 [some (.ref 226), some (.int l1)] [] h (fun r1 h1 => r1 = none ∧ h1 = h' ∧ G h')) := by
  induction n with
  | zero => exact ⟨by intros; contradiction, by intros; contradiction⟩
  | succ n ih =>
    obtain ⟨s_X12_records_IH_11, s_X12_records_IH_51⟩ := ih
    refine ⟨?_, ?_⟩
    · intro l1 h h' hF hG
      unfold W_X12_records at hF
      rw [if_pos rfl] at hF
      refine v_iload_n (i := 1) dX12_records_11 rfl rfl ?_
      refine v_sipush (v := 2457) dX12_records_12 (by decide) ?_
      refine v_icmp_ge 39 dX12_records_15 (by decide) (fun c1 => ?_) (fun c1 => ?_)
      · rw [if_pos c1] at hF
        refine v_aload_n (i := 0) dX12_records_39 rfl rfl ?_
        refine v_dup dX12_records_40 rfl ?_
        refine g_X12_271 rfl sh_226 (by exact ltG hG (by decide)) dX12_records_41 ?_
        refine v_iconst (v := 1) dX12_records_44 (by decide) ?_
        refine v_isub dX12_records_45 ?_
        refine p_X12_271 rfl sh_226 (by exact ltG hG (by decide)) dX12_records_46 ?_
        refine v_iconst (v := 0) dX12_records_49 (by decide) ?_
        refine v_istore_n (i := 1) dX12_records_50 rfl (by decide) (nlT rfl) ?_
        simp only [List.set_cons_zero, List.set_cons_succ]
        refine V.weak (la2 := [some (.ref 226), some (.int 0)]) (by simp [wk]) ?_
        exact (s_X12_records_IH_51) _ _ _ hF hG
      · rw [if_neg c1] at hF
        refine v_aload_n (i := 0) dX12_records_18 rfl rfl ?_
        refine g_X12_137 (q := 266) rfl sh_226 (by exact ltG hG (by decide)) (by exact rG hG r0_226_60) dX12_records_19 ?_
        refine v_iload_n (i := 1) dX12_records_22 rfl rfl ?_
        refine v_aload_n (i := 0) dX12_records_23 rfl rfl ?_
        refine g_X12_137 (q := 266) rfl sh_226 (by exact ltG hG (by decide)) (by exact rG hG r0_226_60) dX12_records_24 ?_
        refine v_iload_n (i := 1) dX12_records_27 rfl rfl ?_
        refine v_bipush (v := 63) dX12_records_28 (by decide) ?_
        refine v_iadd dX12_records_30 ?_
        obtain ⟨k2, hF⟩ := ck_some hF
        refine v_iaload sh_266 (by exact ltG hG (by decide)) (ixO k2) dX12_records_31 ?_
        obtain ⟨k3, hF⟩ := ck_some hF
        refine v_iastore sh_266 (by exact ltG hG (by decide)) (ixO k3) dX12_records_32 ?_
        refine v_iinc (i := 1) (v := (l1 + 1)) dX12_records_33 rfl rfl (by decide) (nlT rfl) ?_
        simp only [List.set_cons_zero, List.set_cons_succ]
        refine v_goto 11 dX12_records_36 (by decide) ?_
        refine V.weak (la2 := [some (.ref 226), some (.int (l1 + 1))]) (by simp [wk]) ?_
        exact (s_X12_records_IH_11) _ _ _ hF hG
    · intro l1 h h' hF hG
      unfold W_X12_records at hF
      rw [if_neg (by decide)] at hF
      rw [if_pos rfl] at hF
      refine v_iload_n (i := 1) dX12_records_51 rfl rfl ?_
      refine v_bipush (v := 63) dX12_records_52 (by decide) ?_
      refine v_icmp_ge 83 dX12_records_54 (by decide) (fun c4 => ?_) (fun c4 => ?_)
      · rw [if_pos c4] at hF
        refine v_aload_n (i := 0) dX12_records_83 rfl rfl ?_
        refine v_dup dX12_records_84 rfl ?_
        refine g_X12_271 rfl sh_226 (by exact ltG hG (by decide)) dX12_records_85 ?_
        refine v_iconst (v := 1) dX12_records_88 (by decide) ?_
        refine v_iadd dX12_records_89 ?_
        refine p_X12_271 rfl sh_226 (by exact ltG hG (by decide)) dX12_records_90 ?_
        refine v_aload_n (i := 0) dX12_records_93 rfl rfl ?_
        obtain ⟨q5, q5_e, hF⟩ := Option.bind_eq_some_iff.mp hF
        refine c_X12_175 rfl sh_226 (by exact ltG hG (by decide)) (Nat.le_of_ble_eq_true rfl) dX12_records_94 (s_X12_keepsRow _ q5_e hG) (fun r1 h1 hq => ?_)
        obtain ⟨rfl, hq, hG⟩ := hq
        replace hq := hq.symm
        subst hq
        simp only [Option.toList, List.nil_append]
        refine v_return rfl dX12_records_97 ?_
        obtain rfl := Option.some.inj hF
        exact ⟨rfl, rfl, hG⟩
      · rw [if_neg c4] at hF
        refine v_aload_n (i := 0) dX12_records_57 rfl rfl ?_
        refine g_X12_137 (q := 266) rfl sh_226 (by exact ltG hG (by decide)) (by exact rG hG r0_226_60) dX12_records_58 ?_
        refine v_bipush (v := 63) dX12_records_61 (by decide) ?_
        refine v_aload_n (i := 0) dX12_records_63 rfl rfl ?_
        refine g_X12_271 rfl sh_226 (by exact ltG hG (by decide)) dX12_records_64 ?_
        refine v_imul dX12_records_67 ?_
        refine v_iload_n (i := 1) dX12_records_68 rfl rfl ?_
        refine v_iadd dX12_records_69 ?_
        refine v_aload_n (i := 0) dX12_records_70 rfl rfl ?_
        refine g_X12_125 (q := 262) rfl sh_226 (by exact ltG hG (by decide)) (by exact rG hG r0_226_53) dX12_records_71 ?_
        refine v_iload_n (i := 1) dX12_records_74 rfl rfl ?_
        obtain ⟨k7, hF⟩ := ck_some hF
        refine v_iaload sh_262 (by exact ltG hG (by decide)) (ixO k7) dX12_records_75 ?_
        obtain ⟨k8, hF⟩ := ck_some hF
        refine v_iastore sh_266 (by exact ltG hG (by decide)) (ixO k8) dX12_records_76 ?_
        refine v_iinc (i := 1) (v := (l1 + 1)) dX12_records_77 rfl rfl (by decide) (nlT rfl) ?_
        simp only [List.set_cons_zero, List.set_cons_succ]
        refine v_goto 51 dX12_records_80 (by decide) ?_
        refine V.weak (la2 := [some (.ref 226), some (.int (l1 + 1))]) (by simp [wk]) ?_
        exact (s_X12_records_IH_51) _ _ _ hF hG
def F_X12_records (n : Nat) (h : Hp) : Option Hp := (if ((hi h 226 59) : Int32) = (40 : Int32) then W_X12_records n 11 h  0 else W_X12_records n 51 h  0)
set_option maxRecDepth 100000 in
set_option maxHeartbeats 4000000 in
theorem s_X12_records (d : Nat) {n : Nat} {h : Hp}  {q0 : Hp} (hF : F_X12_records n h  = some q0) (hG : G h)  : Kc mX12_records (d + 1) [.ref 226] h (fun r1 h1 => r1 = none ∧ h1 = q0 ∧ G q0) := by
  obtain ⟨h', rfl⟩ : ∃ z, z = q0 := ⟨_, rfl⟩
  obtain ⟨s_X12_records_IH_11, s_X12_records_IH_51⟩ := sw_X12_records d   n
  unfold F_X12_records at hF
  refine Kc.of [some (.ref 226), none] ok_X12_records rfl (Nat.le_of_ble_eq_true rfl) ?_
  refine v_aload_n (i := 0) dX12_records_0 rfl rfl ?_
  refine g_X12_271 rfl sh_226 (by exact ltG hG (by decide)) dX12_records_1 ?_
  refine v_bipush (v := 40) dX12_records_4 (by decide) ?_
  refine v_icmp_ne 49 dX12_records_6 (by decide) (fun c9 => ?_) (fun c9 => ?_)
  · rw [if_neg c9] at hF
    refine v_iconst (v := 0) dX12_records_49 (by decide) ?_
    refine v_istore_n (i := 1) dX12_records_50 rfl (by decide) (nlT rfl) ?_
    simp only [List.set_cons_zero, List.set_cons_succ]
    refine V.weak (la2 := [some (.ref 226), some (.int 0)]) (by simp [wk]) ?_
    exact (s_X12_records_IH_51) _ _ _ hF hG
  · rw [if_pos c9] at hF
    refine v_iconst (v := 0) dX12_records_9 (by decide) ?_
    refine v_istore_n (i := 1) dX12_records_10 rfl (by decide) (nlT rfl) ?_
    simp only [List.set_cons_zero, List.set_cons_succ]
    refine V.weak (la2 := [some (.ref 226), some (.int 0)]) (by simp [wk]) ?_
    exact (s_X12_records_IH_11) _ _ _ hF hG
def W_X12_restore : Nat → Nat → Hp → Int32 → Int32 → Option (Int32 × Hp)
  | 0 => fun _ _ _ _ => none
  | n + 1 => fun hd h l1 l2 => (if hd = 22 then (if (63 : Int32) ≤ (l2 : Int32) then some (1, (wrI h 226 59 0)) else (if ixOK ((63 * l1) + l2) 189 = true then (if ixOK l2 63 = true then W_X12_restore n 22 (wrI h 262 (Int32.toNatClampNeg l2) (hi h 274 (Int32.toNatClampNeg ((63 * l1) + l2))))  l1 (l2 + 1) else none) else none)) else none)
set_option maxRecDepth 100000 in
set_option maxHeartbeats 4000000 in
theorem sw_X12_restore (d : Nat)  (n : Nat) : (∀ (l1 : Int32) (l2 : Int32) (h : Hp), ∀ (r : Int32) (h' : Hp), W_X12_restore n 22 h  l1 l2 = some (r, h') → G h → V mX12_restore (d + 1) 22 [some (.ref 226), some (.int l1), some (.int l2)] [] h (fun r1 h1 => r1 = some (.int r) ∧ h1 = h' ∧ G h')) := by
  induction n with
  | zero => exact by intros; contradiction
  | succ n ih =>
    have s_X12_restore_IH_22 := ih
    intro l1 l2 h r h' hF hG
    unfold W_X12_restore at hF
    rw [if_pos rfl] at hF
    refine v_iload_n (i := 2) dX12_restore_22 rfl rfl ?_
    refine v_bipush (v := 63) dX12_restore_23 (by decide) ?_
    refine v_icmp_ge 51 dX12_restore_25 (by decide) (fun c1 => ?_) (fun c1 => ?_)
    · rw [if_pos c1] at hF
      refine v_aload_n (i := 0) dX12_restore_51 rfl rfl ?_
      refine v_iconst (v := 0) dX12_restore_52 (by decide) ?_
      refine p_X12_271 rfl sh_226 (by exact ltG hG (by decide)) dX12_restore_53 ?_
      refine v_iconst (v := 1) dX12_restore_56 (by decide) ?_
      refine v_zreturn rfl (by decide) dX12_restore_57 ?_
      obtain ⟨rfl, rfl⟩ := Prod.mk.inj (Option.some.inj hF)
      exact ⟨rfl, rfl, hG⟩
    · rw [if_neg c1] at hF
      refine v_aload_n (i := 0) dX12_restore_28 rfl rfl ?_
      refine g_X12_125 (q := 262) rfl sh_226 (by exact ltG hG (by decide)) (by exact rG hG r0_226_53) dX12_restore_29 ?_
      refine v_iload_n (i := 2) dX12_restore_32 rfl rfl ?_
      refine v_aload_n (i := 0) dX12_restore_33 rfl rfl ?_
      refine g_X12_161 (q := 274) rfl sh_226 (by exact ltG hG (by decide)) (by exact rG hG r0_226_69) dX12_restore_34 ?_
      refine v_bipush (v := 63) dX12_restore_37 (by decide) ?_
      refine v_iload_n (i := 1) dX12_restore_39 rfl rfl ?_
      refine v_imul dX12_restore_40 ?_
      refine v_iload_n (i := 2) dX12_restore_41 rfl rfl ?_
      refine v_iadd dX12_restore_42 ?_
      obtain ⟨k2, hF⟩ := ck_some hF
      refine v_iaload sh_274 (by exact ltG hG (by decide)) (ixO k2) dX12_restore_43 ?_
      obtain ⟨k3, hF⟩ := ck_some hF
      refine v_iastore sh_262 (by exact ltG hG (by decide)) (ixO k3) dX12_restore_44 ?_
      refine v_iinc (i := 2) (v := (l2 + 1)) dX12_restore_45 rfl rfl (by decide) (nlT rfl) ?_
      simp only [List.set_cons_zero, List.set_cons_succ]
      refine v_goto 22 dX12_restore_48 (by decide) ?_
      refine V.weak (la2 := [some (.ref 226), some (.int l1), some (.int (l2 + 1))]) (by simp [wk]) ?_
      exact (s_X12_restore_IH_22) _ _ _ _ _ hF hG
def F_X12_restore (n : Nat) (h : Hp) (x1 : Int32) : Option (Int32 × Hp) := ((F_X12_in n h x1 0 2).bind (fun q4 => (if (q4.1 : Int32) = 0 then some (0, q4.2) else (if ixOK x1 3 = true then (if ((vp_nar .boolean (hi q4.2 273 (Int32.toNatClampNeg x1))) : Int32) = 0 then some (0, q4.2) else W_X12_restore n 22 q4.2  x1 0) else none))))
set_option maxRecDepth 100000 in
set_option maxHeartbeats 4000000 in
theorem s_X12_restore (d : Nat) {n : Nat} {h : Hp} {x1 : Int32} {q0 : (Int32 × Hp)} (hF : F_X12_restore n h x1 = some q0) (hG : G h)  : Kc mX12_restore (d + 1) [.ref 226, .int x1] h (fun r1 h1 => r1 = some (.int q0.1) ∧ h1 = q0.2 ∧ G q0.2) := by
  obtain ⟨r, h'⟩ := q0
  have s_X12_restore_IH_22 := sw_X12_restore d   n
  unfold F_X12_restore at hF
  refine Kc.of [some (.ref 226), some (.int x1), none] ok_X12_restore rfl (Nat.le_of_ble_eq_true rfl) ?_
  refine v_iload_n (i := 1) dX12_restore_0 rfl rfl ?_
  refine v_iconst (v := 0) dX12_restore_1 (by decide) ?_
  refine v_iconst (v := 2) dX12_restore_2 (by decide) ?_
  obtain ⟨q4, q4_e, hF⟩ := Option.bind_eq_some_iff.mp hF
  refine c_X12_330 rfl (Nat.le_of_ble_eq_true rfl) dX12_restore_3 (s_X12_in _ q4_e hG) (fun r1 h1 hq => ?_)
  obtain ⟨rfl, hq, hG⟩ := hq
  replace hq := hq.symm
  subst hq
  show V _ _ _ _ (_ :: _) _ _
  refine v_if_eq 18 dX12_restore_6 (by decide) (fun c6 => ?_) (fun c6 => ?_)
  · rw [if_pos c6] at hF
    refine v_iconst (v := 0) dX12_restore_18 (by decide) ?_
    refine v_zreturn rfl (by decide) dX12_restore_19 ?_
    obtain ⟨rfl, rfl⟩ := Prod.mk.inj (Option.some.inj hF)
    exact ⟨rfl, rfl, hG⟩
  · rw [if_neg c6] at hF
    refine v_aload_n (i := 0) dX12_restore_9 rfl rfl ?_
    refine g_X12_158 (q := 273) rfl sh_226 (by exact ltG hG (by decide)) (by exact rG hG r0_226_68) dX12_restore_10 ?_
    refine v_iload_n (i := 1) dX12_restore_13 rfl rfl ?_
    obtain ⟨k7, hF⟩ := ck_some hF
    refine v_zaload sh_273 (by exact ltG hG (by decide)) (ixO k7) dX12_restore_14 ?_
    refine v_if_ne 20 dX12_restore_15 (by decide) (fun c8 => ?_) (fun c8 => ?_)
    · rw [if_neg c8] at hF
      refine v_iconst (v := 0) dX12_restore_20 (by decide) ?_
      refine v_istore_n (i := 2) dX12_restore_21 rfl (by decide) (nlT rfl) ?_
      simp only [List.set_cons_zero, List.set_cons_succ]
      refine V.weak (la2 := [some (.ref 226), some (.int x1), some (.int 0)]) (by simp [wk]) ?_
      exact (s_X12_restore_IH_22) _ _ _ _ _ hF hG
    · rw [if_pos c8] at hF
      refine v_iconst (v := 0) dX12_restore_18 (by decide) ?_
      refine v_zreturn rfl (by decide) dX12_restore_19 ?_
      obtain ⟨rfl, rfl⟩ := Prod.mk.inj (Option.some.inj hF)
      exact ⟨rfl, rfl, hG⟩
def F_X12_roomFor (n : Nat) (h : Hp) (x1 : Int32) (x2 : Int32) : Option Hp := (if (x1 : Int32) = (x2 : Int32) then ((F_X12_fail n h 2).bind (fun q5 => (if ((hi q5 226 13) : Int32) = 0 then ((F_X12_goesOn n q5).bind (fun q8 => some q8)) else some q5))) else (if ((hi h 226 13) : Int32) = 0 then ((F_X12_goesOn n h).bind (fun q3 => some q3)) else some h))
set_option maxRecDepth 100000 in
set_option maxHeartbeats 4000000 in
theorem s_X12_roomFor (d : Nat) {n : Nat} {h : Hp} {x1 : Int32} {x2 : Int32} {q0 : Hp} (hF : F_X12_roomFor n h x1 x2 = some q0) (hG : G h)  : Kc mX12_roomFor (d + 2) [.ref 226, .int x1, .int x2] h (fun r1 h1 => r1 = none ∧ h1 = q0 ∧ G q0) := by
  obtain ⟨h', rfl⟩ : ∃ z, z = q0 := ⟨_, rfl⟩
  unfold F_X12_roomFor at hF
  refine Kc.of [some (.ref 226), some (.int x1), some (.int x2)] ok_X12_roomFor rfl (Nat.le_of_ble_eq_true rfl) ?_
  refine v_iload_n (i := 1) dX12_roomFor_0 rfl rfl ?_
  refine v_iload_n (i := 2) dX12_roomFor_1 rfl rfl ?_
  refine v_icmp_ne 10 dX12_roomFor_2 (by decide) (fun c1 => ?_) (fun c1 => ?_)
  · rw [if_neg c1] at hF
    refine v_aload_n (i := 0) dX12_roomFor_10 rfl rfl ?_
    refine g_X12_215 rfl sh_226 (by exact ltG hG (by decide)) dX12_roomFor_11 ?_
    refine v_if_ne 21 dX12_roomFor_14 (by decide) (fun c2 => ?_) (fun c2 => ?_)
    · rw [if_neg c2] at hF
      refine v_return rfl dX12_roomFor_21 ?_
      obtain rfl := Option.some.inj hF
      exact ⟨rfl, rfl, hG⟩
    · rw [if_pos c2] at hF
      refine v_aload_n (i := 0) dX12_roomFor_17 rfl rfl ?_
      obtain ⟨q3, q3_e, hF⟩ := Option.bind_eq_some_iff.mp hF
      refine c_X12_236 rfl sh_226 (by exact ltG hG (by decide)) (Nat.le_of_ble_eq_true rfl) dX12_roomFor_18 (s_X12_goesOn _ q3_e hG) (fun r1 h1 hq => ?_)
      obtain ⟨rfl, hq, hG⟩ := hq
      replace hq := hq.symm
      subst hq
      simp only [Option.toList, List.nil_append]
      refine v_return rfl dX12_roomFor_21 ?_
      obtain rfl := Option.some.inj hF
      exact ⟨rfl, rfl, hG⟩
  · rw [if_pos c1] at hF
    refine v_aload_n (i := 0) dX12_roomFor_5 rfl rfl ?_
    refine v_iconst (v := 2) dX12_roomFor_6 (by decide) ?_
    obtain ⟨q5, q5_e, hF⟩ := Option.bind_eq_some_iff.mp hF
    refine c_X12_230 rfl sh_226 (by exact ltG hG (by decide)) (Nat.le_of_ble_eq_true rfl) dX12_roomFor_7 (s_X12_fail _ q5_e hG) (fun r1 h1 hq => ?_)
    obtain ⟨rfl, hq, hG⟩ := hq
    replace hq := hq.symm
    subst hq
    simp only [Option.toList, List.nil_append]
    refine v_aload_n (i := 0) dX12_roomFor_10 rfl rfl ?_
    refine g_X12_215 rfl sh_226 (by exact ltG hG (by decide)) dX12_roomFor_11 ?_
    refine v_if_ne 21 dX12_roomFor_14 (by decide) (fun c7 => ?_) (fun c7 => ?_)
    · rw [if_neg c7] at hF
      refine v_return rfl dX12_roomFor_21 ?_
      obtain rfl := Option.some.inj hF
      exact ⟨rfl, rfl, hG⟩
    · rw [if_pos c7] at hF
      refine v_aload_n (i := 0) dX12_roomFor_17 rfl rfl ?_
      obtain ⟨q8, q8_e, hF⟩ := Option.bind_eq_some_iff.mp hF
      refine c_X12_236 rfl sh_226 (by exact ltG hG (by decide)) (Nat.le_of_ble_eq_true rfl) dX12_roomFor_18 (s_X12_goesOn _ q8_e hG) (fun r1 h1 hq => ?_)
      obtain ⟨rfl, hq, hG⟩ := hq
      replace hq := hq.symm
      subst hq
      simp only [Option.toList, List.nil_append]
      refine v_return rfl dX12_roomFor_21 ?_
      obtain rfl := Option.some.inj hF
      exact ⟨rfl, rfl, hG⟩
def F_X12_safeBits (n : Nat) (h : Hp) (x1 : Int32) : Option (Int32 × Hp) := ((F_X12_freeBits n h).bind (fun q1 => ((F_X12_loudBits n q1.2 x1).bind (fun q3 => some (((q1.1 : Int32) &&& (((q3.1 : Int32) ^^^ ((-1) : Int32)) : Int32)), q3.2)))))
set_option maxRecDepth 100000 in
set_option maxHeartbeats 4000000 in
theorem s_X12_safeBits (d : Nat) {n : Nat} {h : Hp} {x1 : Int32} {q0 : (Int32 × Hp)} (hF : F_X12_safeBits n h x1 = some q0) (hG : G h)  : Kc mX12_safeBits (d + 2) [.ref 226, .int x1] h (fun r1 h1 => r1 = some (.int q0.1) ∧ h1 = q0.2 ∧ G q0.2) := by
  obtain ⟨r, h'⟩ := q0
  unfold F_X12_safeBits at hF
  refine Kc.of [some (.ref 226), some (.int x1)] ok_X12_safeBits rfl (Nat.le_of_ble_eq_true rfl) ?_
  refine v_aload_n (i := 0) dX12_safeBits_0 rfl rfl ?_
  obtain ⟨q1, q1_e, hF⟩ := Option.bind_eq_some_iff.mp hF
  refine c_X12_427 rfl sh_226 (by exact ltG hG (by decide)) (Nat.le_of_ble_eq_true rfl) dX12_safeBits_1 (s_X12_freeBits _ q1_e hG) (fun r1 h1 hq => ?_)
  obtain ⟨rfl, hq, hG⟩ := hq
  replace hq := hq.symm
  subst hq
  show V _ _ _ _ (_ :: _) _ _
  refine v_aload_n (i := 0) dX12_safeBits_4 rfl rfl ?_
  refine v_iload_n (i := 1) dX12_safeBits_5 rfl rfl ?_
  obtain ⟨q3, q3_e, hF⟩ := Option.bind_eq_some_iff.mp hF
  refine c_X12_421 rfl sh_226 (by exact ltG hG (by decide)) (Nat.le_of_ble_eq_true rfl) dX12_safeBits_6 (s_X12_loudBits _ q3_e hG) (fun r1 h1 hq => ?_)
  obtain ⟨rfl, hq, hG⟩ := hq
  replace hq := hq.symm
  subst hq
  show V _ _ _ _ (_ :: _) _ _
  refine v_iconst (v := (-1)) dX12_safeBits_9 (by decide) ?_
  refine v_ixor dX12_safeBits_10 ?_
  refine v_iand dX12_safeBits_11 ?_
  refine v_ireturn rfl dX12_safeBits_12 ?_
  obtain ⟨rfl, rfl⟩ := Prod.mk.inj (Option.some.inj hF)
  exact ⟨rfl, rfl, hG⟩
def W_X12_silence : Nat → Nat → Hp → Int32 → Int32 → Int32 → Int32 → Int32 → Option (Int32 × Hp)
  | 0 => fun _ _ _ _ _ _ _ => none
  | n + 1 => fun hd h l1 l2 l3 l4 l5 => (if hd = 26 then (if (60 : Int32) ≤ (l5 : Int32) then (if (l1 : Int32) = 0 then some (l2, h) else some (l3, h)) else ((F_X12_loudBits n h ((hi h 263 61) + l5)).bind (fun q3 => (if (q3.1 : Int32) = 0 then (if (l2 : Int32) < ((l4 + 1) : Int32) then W_X12_silence n 26 q3.2  l1 (l4 + 1) ((l5 - (l4 + 1)) + 1) (l4 + 1) (l5 + 1) else W_X12_silence n 26 q3.2  l1 l2 l3 (l4 + 1) (l5 + 1)) else (if (l2 : Int32) < (0 : Int32) then W_X12_silence n 26 q3.2  l1 0 ((l5 - 0) + 1) 0 (l5 + 1) else W_X12_silence n 26 q3.2  l1 l2 l3 0 (l5 + 1)))))) else none)
set_option maxRecDepth 100000 in
set_option maxHeartbeats 4000000 in
theorem sw_X12_silence (d : Nat)  (n : Nat) : (∀ (l1 : Int32) (l2 : Int32) (l3 : Int32) (l4 : Int32) (l5 : Int32) (h : Hp), ∀ (r : Int32) (h' : Hp), W_X12_silence n 26 h  l1 l2 l3 l4 l5 = some (r, h') → G h → V mX12_silence (d + 2) 26 [some (.ref 226), some (.int l1), some (.int l2), some (.int l3), some (.int l4), some (.int l5)] [] h (fun r1 h1 => r1 = some (.int r) ∧ h1 = h' ∧ G h')) := by
  induction n with
  | zero => exact by intros; contradiction
  | succ n ih =>
    have s_X12_silence_IH_26 := ih
    intro l1 l2 l3 l4 l5 h r h' hF hG
    unfold W_X12_silence at hF
    rw [if_pos rfl] at hF
    refine v_iload (i := 5) dX12_silence_26 rfl ?_
    refine v_bipush (v := 60) dX12_silence_28 (by decide) ?_
    refine v_icmp_ge 86 dX12_silence_30 (by decide) (fun c1 => ?_) (fun c1 => ?_)
    · rw [if_pos c1] at hF
      refine v_iload_n (i := 1) dX12_silence_86 rfl rfl ?_
      refine v_if_ne 94 dX12_silence_87 (by decide) (fun c2 => ?_) (fun c2 => ?_)
      · rw [if_neg c2] at hF
        refine v_iload_n (i := 3) dX12_silence_94 rfl rfl ?_
        refine v_ireturn rfl dX12_silence_95 ?_
        obtain ⟨rfl, rfl⟩ := Prod.mk.inj (Option.some.inj hF)
        exact ⟨rfl, rfl, hG⟩
      · rw [if_pos c2] at hF
        refine v_iload_n (i := 2) dX12_silence_90 rfl rfl ?_
        refine v_goto 95 dX12_silence_91 (by decide) ?_
        refine v_ireturn rfl dX12_silence_95 ?_
        obtain ⟨rfl, rfl⟩ := Prod.mk.inj (Option.some.inj hF)
        exact ⟨rfl, rfl, hG⟩
    · rw [if_neg c1] at hF
      refine v_aload_n (i := 0) dX12_silence_33 rfl rfl ?_
      refine v_aload_n (i := 0) dX12_silence_34 rfl rfl ?_
      refine g_X12_128 (q := 263) rfl sh_226 (by exact ltG hG (by decide)) (by exact rG hG r0_226_54) dX12_silence_35 ?_
      refine v_bipush (v := 61) dX12_silence_38 (by decide) ?_
      refine v_iaload sh_263 (by exact ltG hG (by decide)) (ixK 61 (by decide)) dX12_silence_40 ?_
      refine v_iload (i := 5) dX12_silence_41 rfl ?_
      refine v_iadd dX12_silence_43 ?_
      obtain ⟨q3, q3_e, hF⟩ := Option.bind_eq_some_iff.mp hF
      refine c_X12_421 rfl sh_226 (by exact ltG hG (by decide)) (Nat.le_of_ble_eq_true rfl) dX12_silence_44 (s_X12_loudBits _ q3_e hG) (fun r1 h1 hq => ?_)
      obtain ⟨rfl, hq, hG⟩ := hq
      replace hq := hq.symm
      subst hq
      show V _ _ _ _ (_ :: _) _ _
      refine v_if_ne 57 dX12_silence_47 (by decide) (fun c5 => ?_) (fun c5 => ?_)
      · rw [if_neg c5] at hF
        refine v_iconst (v := 0) dX12_silence_57 (by decide) ?_
        refine v_istore (i := 4) dX12_silence_58 (by decide) (nlT rfl) ?_
        simp only [List.set_cons_zero, List.set_cons_succ]
        refine v_iload (i := 4) dX12_silence_60 rfl ?_
        refine v_iload_n (i := 2) dX12_silence_62 rfl rfl ?_
        refine v_icmp_gt 69 dX12_silence_63 (by decide) (fun c6 => ?_) (fun c6 => ?_)
        · rw [if_pos c6] at hF
          refine v_iload (i := 4) dX12_silence_69 rfl ?_
          refine v_istore_n (i := 2) dX12_silence_71 rfl (by decide) (nlT rfl) ?_
          simp only [List.set_cons_zero, List.set_cons_succ]
          refine v_iload (i := 5) dX12_silence_72 rfl ?_
          refine v_iload (i := 4) dX12_silence_74 rfl ?_
          refine v_isub dX12_silence_76 ?_
          refine v_iconst (v := 1) dX12_silence_77 (by decide) ?_
          refine v_iadd dX12_silence_78 ?_
          refine v_istore_n (i := 3) dX12_silence_79 rfl (by decide) (nlT rfl) ?_
          simp only [List.set_cons_zero, List.set_cons_succ]
          refine v_iinc (i := 5) (v := (l5 + 1)) dX12_silence_80 rfl rfl (by decide) (nlT rfl) ?_
          simp only [List.set_cons_zero, List.set_cons_succ]
          refine v_goto 26 dX12_silence_83 (by decide) ?_
          refine V.weak (la2 := [some (.ref 226), some (.int l1), some (.int 0), some (.int ((l5 - 0) + 1)), some (.int 0), some (.int (l5 + 1))]) (by simp [wk]) ?_
          exact (s_X12_silence_IH_26) _ _ _ _ _ _ _ _ hF hG
        · rw [if_neg c6] at hF
          refine v_goto 80 dX12_silence_66 (by decide) ?_
          refine v_iinc (i := 5) (v := (l5 + 1)) dX12_silence_80 rfl rfl (by decide) (nlT rfl) ?_
          simp only [List.set_cons_zero, List.set_cons_succ]
          refine v_goto 26 dX12_silence_83 (by decide) ?_
          refine V.weak (la2 := [some (.ref 226), some (.int l1), some (.int l2), some (.int l3), some (.int 0), some (.int (l5 + 1))]) (by simp [wk]) ?_
          exact (s_X12_silence_IH_26) _ _ _ _ _ _ _ _ hF hG
      · rw [if_pos c5] at hF
        refine v_iload (i := 4) dX12_silence_50 rfl ?_
        refine v_iconst (v := 1) dX12_silence_52 (by decide) ?_
        refine v_iadd dX12_silence_53 ?_
        refine v_goto 58 dX12_silence_54 (by decide) ?_
        refine v_istore (i := 4) dX12_silence_58 (by decide) (nlT rfl) ?_
        simp only [List.set_cons_zero, List.set_cons_succ]
        refine v_iload (i := 4) dX12_silence_60 rfl ?_
        refine v_iload_n (i := 2) dX12_silence_62 rfl rfl ?_
        refine v_icmp_gt 69 dX12_silence_63 (by decide) (fun c7 => ?_) (fun c7 => ?_)
        · rw [if_pos c7] at hF
          refine v_iload (i := 4) dX12_silence_69 rfl ?_
          refine v_istore_n (i := 2) dX12_silence_71 rfl (by decide) (nlT rfl) ?_
          simp only [List.set_cons_zero, List.set_cons_succ]
          refine v_iload (i := 5) dX12_silence_72 rfl ?_
          refine v_iload (i := 4) dX12_silence_74 rfl ?_
          refine v_isub dX12_silence_76 ?_
          refine v_iconst (v := 1) dX12_silence_77 (by decide) ?_
          refine v_iadd dX12_silence_78 ?_
          refine v_istore_n (i := 3) dX12_silence_79 rfl (by decide) (nlT rfl) ?_
          simp only [List.set_cons_zero, List.set_cons_succ]
          refine v_iinc (i := 5) (v := (l5 + 1)) dX12_silence_80 rfl rfl (by decide) (nlT rfl) ?_
          simp only [List.set_cons_zero, List.set_cons_succ]
          refine v_goto 26 dX12_silence_83 (by decide) ?_
          refine V.weak (la2 := [some (.ref 226), some (.int l1), some (.int (l4 + 1)), some (.int ((l5 - (l4 + 1)) + 1)), some (.int (l4 + 1)), some (.int (l5 + 1))]) (by simp [wk]) ?_
          exact (s_X12_silence_IH_26) _ _ _ _ _ _ _ _ hF hG
        · rw [if_neg c7] at hF
          refine v_goto 80 dX12_silence_66 (by decide) ?_
          refine v_iinc (i := 5) (v := (l5 + 1)) dX12_silence_80 rfl rfl (by decide) (nlT rfl) ?_
          simp only [List.set_cons_zero, List.set_cons_succ]
          refine v_goto 26 dX12_silence_83 (by decide) ?_
          refine V.weak (la2 := [some (.ref 226), some (.int l1), some (.int l2), some (.int l3), some (.int (l4 + 1)), some (.int (l5 + 1))]) (by simp [wk]) ?_
          exact (s_X12_silence_IH_26) _ _ _ _ _ _ _ _ hF hG
def F_X12_silence (n : Nat) (h : Hp) (x1 : Int32) : Option (Int32 × Hp) := ((F_X12_in n h x1 0 1).bind (fun q8 => (if (q8.1 : Int32) = 0 then some ((-1), q8.2) else ((F_X12_copies n q8.2).bind (fun q11 => W_X12_silence n 26 q11  x1 0 (-2) 0 0)))))
set_option maxRecDepth 100000 in
set_option maxHeartbeats 4000000 in
theorem s_X12_silence (d : Nat) {n : Nat} {h : Hp} {x1 : Int32} {q0 : (Int32 × Hp)} (hF : F_X12_silence n h x1 = some q0) (hG : G h)  : Kc mX12_silence (d + 2) [.ref 226, .int x1] h (fun r1 h1 => r1 = some (.int q0.1) ∧ h1 = q0.2 ∧ G q0.2) := by
  obtain ⟨r, h'⟩ := q0
  have s_X12_silence_IH_26 := sw_X12_silence d   n
  unfold F_X12_silence at hF
  refine Kc.of [some (.ref 226), some (.int x1), none, none, none, none] ok_X12_silence rfl (Nat.le_of_ble_eq_true rfl) ?_
  refine v_iload_n (i := 1) dX12_silence_0 rfl rfl ?_
  refine v_iconst (v := 0) dX12_silence_1 (by decide) ?_
  refine v_iconst (v := 1) dX12_silence_2 (by decide) ?_
  obtain ⟨q8, q8_e, hF⟩ := Option.bind_eq_some_iff.mp hF
  refine c_X12_330 rfl (Nat.le_of_ble_eq_true rfl) dX12_silence_3 (s_X12_in _ q8_e hG) (fun r1 h1 hq => ?_)
  obtain ⟨rfl, hq, hG⟩ := hq
  replace hq := hq.symm
  subst hq
  show V _ _ _ _ (_ :: _) _ _
  refine v_if_ne 11 dX12_silence_6 (by decide) (fun c10 => ?_) (fun c10 => ?_)
  · rw [if_neg c10] at hF
    refine v_aload_n (i := 0) dX12_silence_11 rfl rfl ?_
    obtain ⟨q11, q11_e, hF⟩ := Option.bind_eq_some_iff.mp hF
    refine c_X12_346 rfl sh_226 (by exact ltG hG (by decide)) (Nat.le_of_ble_eq_true rfl) dX12_silence_12 (s_X12_copies _ q11_e hG) (fun r1 h1 hq => ?_)
    obtain ⟨rfl, hq, hG⟩ := hq
    replace hq := hq.symm
    subst hq
    simp only [Option.toList, List.nil_append]
    refine v_iconst (v := 0) dX12_silence_15 (by decide) ?_
    refine v_istore_n (i := 2) dX12_silence_16 rfl (by decide) (nlT rfl) ?_
    simp only [List.set_cons_zero, List.set_cons_succ]
    refine v_bipush (v := (-2)) dX12_silence_17 (by decide) ?_
    refine v_istore_n (i := 3) dX12_silence_19 rfl (by decide) (nlT rfl) ?_
    simp only [List.set_cons_zero, List.set_cons_succ]
    refine v_iconst (v := 0) dX12_silence_20 (by decide) ?_
    refine v_istore (i := 4) dX12_silence_21 (by decide) (nlT rfl) ?_
    simp only [List.set_cons_zero, List.set_cons_succ]
    refine v_iconst (v := 0) dX12_silence_23 (by decide) ?_
    refine v_istore (i := 5) dX12_silence_24 (by decide) (nlT rfl) ?_
    simp only [List.set_cons_zero, List.set_cons_succ]
    refine V.weak (la2 := [some (.ref 226), some (.int x1), some (.int 0), some (.int (-2)), some (.int 0), some (.int 0)]) (by simp [wk]) ?_
    exact (s_X12_silence_IH_26) _ _ _ _ _ _ _ _ hF hG
  · rw [if_pos c10] at hF
    refine v_iconst (v := (-1)) dX12_silence_9 (by decide) ?_
    refine v_ireturn rfl dX12_silence_10 ?_
    obtain ⟨rfl, rfl⟩ := Prod.mk.inj (Option.some.inj hF)
    exact ⟨rfl, rfl, hG⟩
def F_X12_tell (n : Nat) (h : Hp) (x1 : Int32) (x2 : Int32) : Option (Int32 × Hp) := (if ((hi h 226 65) : Int32) = (20 : Int32) then some ((-1), h) else ((F_X12_isTime n h x1).bind (fun q2 => (if (q2.1 : Int32) = 0 then some ((-1), q2.2) else (if ixOK (hi q2.2 226 65) 20 = true then (if ixOK (hi (wrI q2.2 271 (Int32.toNatClampNeg (hi q2.2 226 65)) x1) 226 65) 20 = true then some (((hi (wrI (wrI (wrI q2.2 271 (Int32.toNatClampNeg (hi q2.2 226 65)) x1) 272 (Int32.toNatClampNeg (hi (wrI q2.2 271 (Int32.toNatClampNeg (hi q2.2 226 65)) x1) 226 65)) x2) 226 65 ((hi (wrI (wrI q2.2 271 (Int32.toNatClampNeg (hi q2.2 226 65)) x1) 272 (Int32.toNatClampNeg (hi (wrI q2.2 271 (Int32.toNatClampNeg (hi q2.2 226 65)) x1) 226 65)) x2) 226 65) + 1)) 226 65) - 1), (wrI (wrI (wrI q2.2 271 (Int32.toNatClampNeg (hi q2.2 226 65)) x1) 272 (Int32.toNatClampNeg (hi (wrI q2.2 271 (Int32.toNatClampNeg (hi q2.2 226 65)) x1) 226 65)) x2) 226 65 ((hi (wrI (wrI q2.2 271 (Int32.toNatClampNeg (hi q2.2 226 65)) x1) 272 (Int32.toNatClampNeg (hi (wrI q2.2 271 (Int32.toNatClampNeg (hi q2.2 226 65)) x1) 226 65)) x2) 226 65) + 1))) else none) else none)))))
set_option maxRecDepth 100000 in
set_option maxHeartbeats 4000000 in
theorem s_X12_tell (d : Nat) {n : Nat} {h : Hp} {x1 : Int32} {x2 : Int32} {q0 : (Int32 × Hp)} (hF : F_X12_tell n h x1 x2 = some q0) (hG : G h)  : Kc mX12_tell (d + 2) [.ref 226, .int x1, .int x2] h (fun r1 h1 => r1 = some (.int q0.1) ∧ h1 = q0.2 ∧ G q0.2) := by
  obtain ⟨r, h'⟩ := q0
  unfold F_X12_tell at hF
  refine Kc.of [some (.ref 226), some (.int x1), some (.int x2)] ok_X12_tell rfl (Nat.le_of_ble_eq_true rfl) ?_
  refine v_aload_n (i := 0) dX12_tell_0 rfl rfl ?_
  refine g_X12_274 rfl sh_226 (by exact ltG hG (by decide)) dX12_tell_1 ?_
  refine v_bipush (v := 20) dX12_tell_4 (by decide) ?_
  refine v_icmp_eq 16 dX12_tell_6 (by decide) (fun c1 => ?_) (fun c1 => ?_)
  · rw [if_pos c1] at hF
    refine v_iconst (v := (-1)) dX12_tell_16 (by decide) ?_
    refine v_ireturn rfl dX12_tell_17 ?_
    obtain ⟨rfl, rfl⟩ := Prod.mk.inj (Option.some.inj hF)
    exact ⟨rfl, rfl, hG⟩
  · rw [if_neg c1] at hF
    refine v_iload_n (i := 1) dX12_tell_9 rfl rfl ?_
    obtain ⟨q2, q2_e, hF⟩ := Option.bind_eq_some_iff.mp hF
    refine c_X12_495 rfl (Nat.le_of_ble_eq_true rfl) dX12_tell_10 (s_X12_isTime _ q2_e hG) (fun r1 h1 hq => ?_)
    obtain ⟨rfl, hq, hG⟩ := hq
    replace hq := hq.symm
    subst hq
    show V _ _ _ _ (_ :: _) _ _
    refine v_if_ne 18 dX12_tell_13 (by decide) (fun c4 => ?_) (fun c4 => ?_)
    · rw [if_neg c4] at hF
      refine v_aload_n (i := 0) dX12_tell_18 rfl rfl ?_
      refine g_X12_152 (q := 271) rfl sh_226 (by exact ltG hG (by decide)) (by exact rG hG r0_226_66) dX12_tell_19 ?_
      refine v_aload_n (i := 0) dX12_tell_22 rfl rfl ?_
      refine g_X12_274 rfl sh_226 (by exact ltG hG (by decide)) dX12_tell_23 ?_
      refine v_iload_n (i := 1) dX12_tell_26 rfl rfl ?_
      obtain ⟨k5, hF⟩ := ck_some hF
      refine v_iastore sh_271 (by exact ltG hG (by decide)) (ixO k5) dX12_tell_27 ?_
      refine v_aload_n (i := 0) dX12_tell_28 rfl rfl ?_
      refine g_X12_155 (q := 272) rfl sh_226 (by exact ltG hG (by decide)) (by exact rG hG r0_226_67) dX12_tell_29 ?_
      refine v_aload_n (i := 0) dX12_tell_32 rfl rfl ?_
      refine g_X12_274 rfl sh_226 (by exact ltG hG (by decide)) dX12_tell_33 ?_
      refine v_iload_n (i := 2) dX12_tell_36 rfl rfl ?_
      obtain ⟨k6, hF⟩ := ck_some hF
      refine v_zastore sh_272 (by exact ltG hG (by decide)) (ixO k6) dX12_tell_37 ?_
      refine v_aload_n (i := 0) dX12_tell_38 rfl rfl ?_
      refine v_dup dX12_tell_39 rfl ?_
      refine g_X12_274 rfl sh_226 (by exact ltG hG (by decide)) dX12_tell_40 ?_
      refine v_iconst (v := 1) dX12_tell_43 (by decide) ?_
      refine v_iadd dX12_tell_44 ?_
      refine p_X12_274 rfl sh_226 (by exact ltG hG (by decide)) dX12_tell_45 ?_
      refine v_aload_n (i := 0) dX12_tell_48 rfl rfl ?_
      refine g_X12_274 rfl sh_226 (by exact ltG hG (by decide)) dX12_tell_49 ?_
      refine v_iconst (v := 1) dX12_tell_52 (by decide) ?_
      refine v_isub dX12_tell_53 ?_
      refine v_ireturn rfl dX12_tell_54 ?_
      obtain ⟨rfl, rfl⟩ := Prod.mk.inj (Option.some.inj hF)
      exact ⟨rfl, rfl, hG⟩
    · rw [if_pos c4] at hF
      refine v_iconst (v := (-1)) dX12_tell_16 (by decide) ?_
      refine v_ireturn rfl dX12_tell_17 ?_
      obtain ⟨rfl, rfl⟩ := Prod.mk.inj (Option.some.inj hF)
      exact ⟨rfl, rfl, hG⟩
def W_X12_termOf : Nat → Nat → Hp → Int32 → Int32 → Int32 → Int32 → Option (Int32 × Hp)
  | 0 => fun _ _ _ _ _ _ => none
  | n + 1 => fun hd h l1 l2 l3 l4 => (if hd = 5 then (if (l2 : Int32) ≤ (l4 : Int32) then some ((hi h 261 0), h) else (if ixOK l4 840 = true then (if (2 : Int32) ≤ ((hi h 257 (Int32.toNatClampNeg l4)) : Int32) then (if ixOK ((l3 + (-1)) - 1) 400 = true then (if ixOK (l3 + (-1)) 400 = true then (if ((hi h 257 (Int32.toNatClampNeg l4)) : Int32) = (5 : Int32) then (if ((hi h 261 (Int32.toNatClampNeg (l3 + (-1)))) : Int32) = 0 then some (0, (wrI h 226 52 1)) else (if ((hi h 257 (Int32.toNatClampNeg l4)) : Int32) = (2 : Int32) then (if ixOK ((l3 + (-1)) - 1) 400 = true then W_X12_termOf n 5 (wrI h 261 (Int32.toNatClampNeg ((l3 + (-1)) - 1)) ((hi h 261 (Int32.toNatClampNeg ((l3 + (-1)) - 1))) + (hi h 261 (Int32.toNatClampNeg (l3 + (-1))))))  l1 l2 (l3 + (-1)) (l4 + 1) else none) else (if ((hi h 257 (Int32.toNatClampNeg l4)) : Int32) = (3 : Int32) then (if ixOK ((l3 + (-1)) - 1) 400 = true then W_X12_termOf n 5 (wrI h 261 (Int32.toNatClampNeg ((l3 + (-1)) - 1)) ((hi h 261 (Int32.toNatClampNeg ((l3 + (-1)) - 1))) - (hi h 261 (Int32.toNatClampNeg (l3 + (-1))))))  l1 l2 (l3 + (-1)) (l4 + 1) else none) else (if ((hi h 257 (Int32.toNatClampNeg l4)) : Int32) = (4 : Int32) then (if ixOK ((l3 + (-1)) - 1) 400 = true then W_X12_termOf n 5 (wrI h 261 (Int32.toNatClampNeg ((l3 + (-1)) - 1)) ((hi h 261 (Int32.toNatClampNeg ((l3 + (-1)) - 1))) * (hi h 261 (Int32.toNatClampNeg (l3 + (-1))))))  l1 l2 (l3 + (-1)) (l4 + 1) else none) else (if (hi h 261 (Int32.toNatClampNeg (l3 + (-1)))) = 0 then none else (if ixOK ((l3 + (-1)) - 1) 400 = true then W_X12_termOf n 5 (wrI h 261 (Int32.toNatClampNeg ((l3 + (-1)) - 1)) ((hi h 261 (Int32.toNatClampNeg ((l3 + (-1)) - 1))) / (hi h 261 (Int32.toNatClampNeg (l3 + (-1))))))  l1 l2 (l3 + (-1)) (l4 + 1) else none)))))) else (if ((hi h 257 (Int32.toNatClampNeg l4)) : Int32) = (2 : Int32) then (if ixOK ((l3 + (-1)) - 1) 400 = true then W_X12_termOf n 5 (wrI h 261 (Int32.toNatClampNeg ((l3 + (-1)) - 1)) ((hi h 261 (Int32.toNatClampNeg ((l3 + (-1)) - 1))) + (hi h 261 (Int32.toNatClampNeg (l3 + (-1))))))  l1 l2 (l3 + (-1)) (l4 + 1) else none) else (if ((hi h 257 (Int32.toNatClampNeg l4)) : Int32) = (3 : Int32) then (if ixOK ((l3 + (-1)) - 1) 400 = true then W_X12_termOf n 5 (wrI h 261 (Int32.toNatClampNeg ((l3 + (-1)) - 1)) ((hi h 261 (Int32.toNatClampNeg ((l3 + (-1)) - 1))) - (hi h 261 (Int32.toNatClampNeg (l3 + (-1))))))  l1 l2 (l3 + (-1)) (l4 + 1) else none) else (if ((hi h 257 (Int32.toNatClampNeg l4)) : Int32) = (4 : Int32) then (if ixOK ((l3 + (-1)) - 1) 400 = true then W_X12_termOf n 5 (wrI h 261 (Int32.toNatClampNeg ((l3 + (-1)) - 1)) ((hi h 261 (Int32.toNatClampNeg ((l3 + (-1)) - 1))) * (hi h 261 (Int32.toNatClampNeg (l3 + (-1))))))  l1 l2 (l3 + (-1)) (l4 + 1) else none) else (if (hi h 261 (Int32.toNatClampNeg (l3 + (-1)))) = 0 then none else (if ixOK ((l3 + (-1)) - 1) 400 = true then W_X12_termOf n 5 (wrI h 261 (Int32.toNatClampNeg ((l3 + (-1)) - 1)) ((hi h 261 (Int32.toNatClampNeg ((l3 + (-1)) - 1))) / (hi h 261 (Int32.toNatClampNeg (l3 + (-1))))))  l1 l2 (l3 + (-1)) (l4 + 1) else none)))))) else none) else none) else (if ((hi h 257 (Int32.toNatClampNeg l4)) : Int32) = 0 then (if ixOK l4 840 = true then (if ixOK l3 400 = true then W_X12_termOf n 5 (wrI h 261 (Int32.toNatClampNeg l3) (hi h 258 (Int32.toNatClampNeg l4)))  l1 l2 (l3 + 1) (l4 + 1) else none) else none) else (if ixOK l4 840 = true then (if ixOK (hi h 258 (Int32.toNatClampNeg l4)) 9 = true then (if ixOK l3 400 = true then W_X12_termOf n 5 (wrI h 261 (Int32.toNatClampNeg l3) (hi h 260 (Int32.toNatClampNeg (hi h 258 (Int32.toNatClampNeg l4)))))  l1 l2 (l3 + 1) (l4 + 1) else none) else none) else none))) else none)) else none)
set_option maxRecDepth 100000 in
set_option maxHeartbeats 4000000 in
theorem sw_X12_termOf (d : Nat)  (n : Nat) : (∀ (l1 : Int32) (l2 : Int32) (l3 : Int32) (l4 : Int32) (h : Hp), ∀ (r : Int32) (h' : Hp), W_X12_termOf n 5 h  l1 l2 l3 l4 = some (r, h') → G h → V mX12_termOf (d) 5 [some (.ref 226), some (.int l1), some (.int l2), some (.int l3), some (.int l4), none, none, none] [] h (fun r1 h1 => r1 = some (.int r) ∧ h1 = h' ∧ G h')) := by
  induction n with
  | zero => exact by intros; contradiction
  | succ n ih =>
    have s_X12_termOf_IH_5 := ih
    intro l1 l2 l3 l4 h r h' hF hG
    unfold W_X12_termOf at hF
    rw [if_pos rfl] at hF
    refine v_iload (i := 4) dX12_termOf_5 rfl ?_
    refine v_iload_n (i := 2) dX12_termOf_7 rfl rfl ?_
    refine v_icmp_ge 165 dX12_termOf_8 (by decide) (fun c1 => ?_) (fun c1 => ?_)
    · rw [if_pos c1] at hF
      refine v_aload_n (i := 0) dX12_termOf_165 rfl rfl ?_
      refine g_X12_122 (q := 261) rfl sh_226 (by exact ltG hG (by decide)) (by exact rG hG r0_226_51) dX12_termOf_166 ?_
      refine v_iconst (v := 0) dX12_termOf_169 (by decide) ?_
      refine v_iaload sh_261 (by exact ltG hG (by decide)) (ixK 0 (by decide)) dX12_termOf_170 ?_
      refine v_ireturn rfl dX12_termOf_171 ?_
      obtain ⟨rfl, rfl⟩ := Prod.mk.inj (Option.some.inj hF)
      exact ⟨rfl, rfl, hG⟩
    · rw [if_neg c1] at hF
      refine v_aload_n (i := 0) dX12_termOf_11 rfl rfl ?_
      refine g_X12_110 (q := 257) rfl sh_226 (by exact ltG hG (by decide)) (by exact rG hG r0_226_46) dX12_termOf_12 ?_
      refine v_iload (i := 4) dX12_termOf_15 rfl ?_
      obtain ⟨k2, hF⟩ := ck_some hF
      refine v_iaload sh_257 (by exact ltG hG (by decide)) (ixO k2) dX12_termOf_17 ?_
      refine v_istore (i := 5) dX12_termOf_18 (by decide) (nlT rfl) ?_
      simp only [List.set_cons_zero, List.set_cons_succ]
      refine v_iload (i := 5) dX12_termOf_20 rfl ?_
      refine v_iconst (v := 2) dX12_termOf_22 (by decide) ?_
      refine v_icmp_ge 65 dX12_termOf_23 (by decide) (fun c3 => ?_) (fun c3 => ?_)
      · rw [if_pos c3] at hF
        refine v_iinc (i := 3) (v := (l3 + (-1))) dX12_termOf_65 rfl rfl (by decide) (nlT rfl) ?_
        simp only [List.set_cons_zero, List.set_cons_succ]
        refine v_aload_n (i := 0) dX12_termOf_68 rfl rfl ?_
        refine g_X12_122 (q := 261) rfl sh_226 (by exact ltG hG (by decide)) (by exact rG hG r0_226_51) dX12_termOf_69 ?_
        refine v_iload_n (i := 3) dX12_termOf_72 rfl rfl ?_
        refine v_iconst (v := 1) dX12_termOf_73 (by decide) ?_
        refine v_isub dX12_termOf_74 ?_
        obtain ⟨k4, hF⟩ := ck_some hF
        refine v_iaload sh_261 (by exact ltG hG (by decide)) (ixO k4) dX12_termOf_75 ?_
        refine v_istore (i := 6) dX12_termOf_76 (by decide) (nlT rfl) ?_
        simp only [List.set_cons_zero, List.set_cons_succ]
        refine v_aload_n (i := 0) dX12_termOf_78 rfl rfl ?_
        refine g_X12_122 (q := 261) rfl sh_226 (by exact ltG hG (by decide)) (by exact rG hG r0_226_51) dX12_termOf_79 ?_
        refine v_iload_n (i := 3) dX12_termOf_82 rfl rfl ?_
        obtain ⟨k5, hF⟩ := ck_some hF
        refine v_iaload sh_261 (by exact ltG hG (by decide)) (ixO k5) dX12_termOf_83 ?_
        refine v_istore (i := 7) dX12_termOf_84 (by decide) (nlT rfl) ?_
        simp only [List.set_cons_zero, List.set_cons_succ]
        refine v_iload (i := 5) dX12_termOf_86 rfl ?_
        refine v_iconst (v := 5) dX12_termOf_88 (by decide) ?_
        refine v_icmp_ne 104 dX12_termOf_89 (by decide) (fun c6 => ?_) (fun c6 => ?_)
        · rw [if_neg c6] at hF
          refine v_aload_n (i := 0) dX12_termOf_104 rfl rfl ?_
          refine g_X12_122 (q := 261) rfl sh_226 (by exact ltG hG (by decide)) (by exact rG hG r0_226_51) dX12_termOf_105 ?_
          refine v_iload_n (i := 3) dX12_termOf_108 rfl rfl ?_
          refine v_iconst (v := 1) dX12_termOf_109 (by decide) ?_
          refine v_isub dX12_termOf_110 ?_
          refine v_iload (i := 5) dX12_termOf_111 rfl ?_
          refine v_iconst (v := 2) dX12_termOf_113 (by decide) ?_
          refine v_icmp_ne 125 dX12_termOf_114 (by decide) (fun c7 => ?_) (fun c7 => ?_)
          · rw [if_neg c7] at hF
            refine v_iload (i := 5) dX12_termOf_125 rfl ?_
            refine v_iconst (v := 3) dX12_termOf_127 (by decide) ?_
            refine v_icmp_ne 139 dX12_termOf_128 (by decide) (fun c8 => ?_) (fun c8 => ?_)
            · rw [if_neg c8] at hF
              refine v_iload (i := 5) dX12_termOf_139 rfl ?_
              refine v_iconst (v := 4) dX12_termOf_141 (by decide) ?_
              refine v_icmp_ne 153 dX12_termOf_142 (by decide) (fun c9 => ?_) (fun c9 => ?_)
              · rw [if_neg c9] at hF
                refine v_iload (i := 6) dX12_termOf_153 rfl ?_
                refine v_iload (i := 7) dX12_termOf_155 rfl ?_
                obtain ⟨k10, hF⟩ := ck_none hF
                refine v_idiv dX12_termOf_157 k10 ?_
                obtain ⟨k11, hF⟩ := ck_some hF
                refine v_iastore sh_261 (by exact ltG hG (by decide)) (ixO k11) dX12_termOf_158 ?_
                refine v_iinc (i := 4) (v := (l4 + 1)) dX12_termOf_159 rfl rfl (by decide) (nlT rfl) ?_
                simp only [List.set_cons_zero, List.set_cons_succ]
                refine v_goto 5 dX12_termOf_162 (by decide) ?_
                refine V.weak (la2 := [some (.ref 226), some (.int l1), some (.int l2), some (.int (l3 + (-1))), some (.int (l4 + 1)), none, none, none]) (by simp [wk]) ?_
                exact (s_X12_termOf_IH_5) _ _ _ _ _ _ _ hF hG
              · rw [if_pos c9] at hF
                refine v_iload (i := 6) dX12_termOf_145 rfl ?_
                refine v_iload (i := 7) dX12_termOf_147 rfl ?_
                refine v_imul dX12_termOf_149 ?_
                refine v_goto 158 dX12_termOf_150 (by decide) ?_
                obtain ⟨k12, hF⟩ := ck_some hF
                refine v_iastore sh_261 (by exact ltG hG (by decide)) (ixO k12) dX12_termOf_158 ?_
                refine v_iinc (i := 4) (v := (l4 + 1)) dX12_termOf_159 rfl rfl (by decide) (nlT rfl) ?_
                simp only [List.set_cons_zero, List.set_cons_succ]
                refine v_goto 5 dX12_termOf_162 (by decide) ?_
                refine V.weak (la2 := [some (.ref 226), some (.int l1), some (.int l2), some (.int (l3 + (-1))), some (.int (l4 + 1)), none, none, none]) (by simp [wk]) ?_
                exact (s_X12_termOf_IH_5) _ _ _ _ _ _ _ hF hG
            · rw [if_pos c8] at hF
              refine v_iload (i := 6) dX12_termOf_131 rfl ?_
              refine v_iload (i := 7) dX12_termOf_133 rfl ?_
              refine v_isub dX12_termOf_135 ?_
              refine v_goto 158 dX12_termOf_136 (by decide) ?_
              obtain ⟨k13, hF⟩ := ck_some hF
              refine v_iastore sh_261 (by exact ltG hG (by decide)) (ixO k13) dX12_termOf_158 ?_
              refine v_iinc (i := 4) (v := (l4 + 1)) dX12_termOf_159 rfl rfl (by decide) (nlT rfl) ?_
              simp only [List.set_cons_zero, List.set_cons_succ]
              refine v_goto 5 dX12_termOf_162 (by decide) ?_
              refine V.weak (la2 := [some (.ref 226), some (.int l1), some (.int l2), some (.int (l3 + (-1))), some (.int (l4 + 1)), none, none, none]) (by simp [wk]) ?_
              exact (s_X12_termOf_IH_5) _ _ _ _ _ _ _ hF hG
          · rw [if_pos c7] at hF
            refine v_iload (i := 6) dX12_termOf_117 rfl ?_
            refine v_iload (i := 7) dX12_termOf_119 rfl ?_
            refine v_iadd dX12_termOf_121 ?_
            refine v_goto 158 dX12_termOf_122 (by decide) ?_
            obtain ⟨k14, hF⟩ := ck_some hF
            refine v_iastore sh_261 (by exact ltG hG (by decide)) (ixO k14) dX12_termOf_158 ?_
            refine v_iinc (i := 4) (v := (l4 + 1)) dX12_termOf_159 rfl rfl (by decide) (nlT rfl) ?_
            simp only [List.set_cons_zero, List.set_cons_succ]
            refine v_goto 5 dX12_termOf_162 (by decide) ?_
            refine V.weak (la2 := [some (.ref 226), some (.int l1), some (.int l2), some (.int (l3 + (-1))), some (.int (l4 + 1)), none, none, none]) (by simp [wk]) ?_
            exact (s_X12_termOf_IH_5) _ _ _ _ _ _ _ hF hG
        · rw [if_pos c6] at hF
          refine v_iload (i := 7) dX12_termOf_92 rfl ?_
          refine v_if_ne 104 dX12_termOf_94 (by decide) (fun c15 => ?_) (fun c15 => ?_)
          · rw [if_neg c15] at hF
            refine v_aload_n (i := 0) dX12_termOf_104 rfl rfl ?_
            refine g_X12_122 (q := 261) rfl sh_226 (by exact ltG hG (by decide)) (by exact rG hG r0_226_51) dX12_termOf_105 ?_
            refine v_iload_n (i := 3) dX12_termOf_108 rfl rfl ?_
            refine v_iconst (v := 1) dX12_termOf_109 (by decide) ?_
            refine v_isub dX12_termOf_110 ?_
            refine v_iload (i := 5) dX12_termOf_111 rfl ?_
            refine v_iconst (v := 2) dX12_termOf_113 (by decide) ?_
            refine v_icmp_ne 125 dX12_termOf_114 (by decide) (fun c16 => ?_) (fun c16 => ?_)
            · rw [if_neg c16] at hF
              refine v_iload (i := 5) dX12_termOf_125 rfl ?_
              refine v_iconst (v := 3) dX12_termOf_127 (by decide) ?_
              refine v_icmp_ne 139 dX12_termOf_128 (by decide) (fun c17 => ?_) (fun c17 => ?_)
              · rw [if_neg c17] at hF
                refine v_iload (i := 5) dX12_termOf_139 rfl ?_
                refine v_iconst (v := 4) dX12_termOf_141 (by decide) ?_
                refine v_icmp_ne 153 dX12_termOf_142 (by decide) (fun c18 => ?_) (fun c18 => ?_)
                · rw [if_neg c18] at hF
                  refine v_iload (i := 6) dX12_termOf_153 rfl ?_
                  refine v_iload (i := 7) dX12_termOf_155 rfl ?_
                  obtain ⟨k19, hF⟩ := ck_none hF
                  refine v_idiv dX12_termOf_157 k19 ?_
                  obtain ⟨k20, hF⟩ := ck_some hF
                  refine v_iastore sh_261 (by exact ltG hG (by decide)) (ixO k20) dX12_termOf_158 ?_
                  refine v_iinc (i := 4) (v := (l4 + 1)) dX12_termOf_159 rfl rfl (by decide) (nlT rfl) ?_
                  simp only [List.set_cons_zero, List.set_cons_succ]
                  refine v_goto 5 dX12_termOf_162 (by decide) ?_
                  refine V.weak (la2 := [some (.ref 226), some (.int l1), some (.int l2), some (.int (l3 + (-1))), some (.int (l4 + 1)), none, none, none]) (by simp [wk]) ?_
                  exact (s_X12_termOf_IH_5) _ _ _ _ _ _ _ hF hG
                · rw [if_pos c18] at hF
                  refine v_iload (i := 6) dX12_termOf_145 rfl ?_
                  refine v_iload (i := 7) dX12_termOf_147 rfl ?_
                  refine v_imul dX12_termOf_149 ?_
                  refine v_goto 158 dX12_termOf_150 (by decide) ?_
                  obtain ⟨k21, hF⟩ := ck_some hF
                  refine v_iastore sh_261 (by exact ltG hG (by decide)) (ixO k21) dX12_termOf_158 ?_
                  refine v_iinc (i := 4) (v := (l4 + 1)) dX12_termOf_159 rfl rfl (by decide) (nlT rfl) ?_
                  simp only [List.set_cons_zero, List.set_cons_succ]
                  refine v_goto 5 dX12_termOf_162 (by decide) ?_
                  refine V.weak (la2 := [some (.ref 226), some (.int l1), some (.int l2), some (.int (l3 + (-1))), some (.int (l4 + 1)), none, none, none]) (by simp [wk]) ?_
                  exact (s_X12_termOf_IH_5) _ _ _ _ _ _ _ hF hG
              · rw [if_pos c17] at hF
                refine v_iload (i := 6) dX12_termOf_131 rfl ?_
                refine v_iload (i := 7) dX12_termOf_133 rfl ?_
                refine v_isub dX12_termOf_135 ?_
                refine v_goto 158 dX12_termOf_136 (by decide) ?_
                obtain ⟨k22, hF⟩ := ck_some hF
                refine v_iastore sh_261 (by exact ltG hG (by decide)) (ixO k22) dX12_termOf_158 ?_
                refine v_iinc (i := 4) (v := (l4 + 1)) dX12_termOf_159 rfl rfl (by decide) (nlT rfl) ?_
                simp only [List.set_cons_zero, List.set_cons_succ]
                refine v_goto 5 dX12_termOf_162 (by decide) ?_
                refine V.weak (la2 := [some (.ref 226), some (.int l1), some (.int l2), some (.int (l3 + (-1))), some (.int (l4 + 1)), none, none, none]) (by simp [wk]) ?_
                exact (s_X12_termOf_IH_5) _ _ _ _ _ _ _ hF hG
            · rw [if_pos c16] at hF
              refine v_iload (i := 6) dX12_termOf_117 rfl ?_
              refine v_iload (i := 7) dX12_termOf_119 rfl ?_
              refine v_iadd dX12_termOf_121 ?_
              refine v_goto 158 dX12_termOf_122 (by decide) ?_
              obtain ⟨k23, hF⟩ := ck_some hF
              refine v_iastore sh_261 (by exact ltG hG (by decide)) (ixO k23) dX12_termOf_158 ?_
              refine v_iinc (i := 4) (v := (l4 + 1)) dX12_termOf_159 rfl rfl (by decide) (nlT rfl) ?_
              simp only [List.set_cons_zero, List.set_cons_succ]
              refine v_goto 5 dX12_termOf_162 (by decide) ?_
              refine V.weak (la2 := [some (.ref 226), some (.int l1), some (.int l2), some (.int (l3 + (-1))), some (.int (l4 + 1)), none, none, none]) (by simp [wk]) ?_
              exact (s_X12_termOf_IH_5) _ _ _ _ _ _ _ hF hG
          · rw [if_pos c15] at hF
            refine v_aload_n (i := 0) dX12_termOf_97 rfl rfl ?_
            refine v_iconst (v := 1) dX12_termOf_98 (by decide) ?_
            refine p_X12_322 rfl sh_226 (by exact ltG hG (by decide)) (by decide) dX12_termOf_99 ?_
            refine v_iconst (v := 0) dX12_termOf_102 (by decide) ?_
            refine v_ireturn rfl dX12_termOf_103 ?_
            obtain ⟨rfl, rfl⟩ := Prod.mk.inj (Option.some.inj hF)
            exact ⟨rfl, rfl, hG⟩
      · rw [if_neg c3] at hF
        refine v_aload_n (i := 0) dX12_termOf_26 rfl rfl ?_
        refine g_X12_122 (q := 261) rfl sh_226 (by exact ltG hG (by decide)) (by exact rG hG r0_226_51) dX12_termOf_27 ?_
        refine v_iload_n (i := 3) dX12_termOf_30 rfl rfl ?_
        refine v_iload (i := 5) dX12_termOf_31 rfl ?_
        refine v_if_ne 46 dX12_termOf_33 (by decide) (fun c24 => ?_) (fun c24 => ?_)
        · rw [if_neg c24] at hF
          refine v_aload_n (i := 0) dX12_termOf_46 rfl rfl ?_
          refine g_X12_119 (q := 260) rfl sh_226 (by exact ltG hG (by decide)) (by exact rG hG r0_226_50) dX12_termOf_47 ?_
          refine v_aload_n (i := 0) dX12_termOf_50 rfl rfl ?_
          refine g_X12_113 (q := 258) rfl sh_226 (by exact ltG hG (by decide)) (by exact rG hG r0_226_47) dX12_termOf_51 ?_
          refine v_iload (i := 4) dX12_termOf_54 rfl ?_
          obtain ⟨k25, hF⟩ := ck_some hF
          refine v_iaload sh_258 (by exact ltG hG (by decide)) (ixO k25) dX12_termOf_56 ?_
          obtain ⟨k26, hF⟩ := ck_some hF
          refine v_iaload sh_260 (by exact ltG hG (by decide)) (ixO k26) dX12_termOf_57 ?_
          obtain ⟨k27, hF⟩ := ck_some hF
          refine v_iastore sh_261 (by exact ltG hG (by decide)) (ixO k27) dX12_termOf_58 ?_
          refine v_iinc (i := 3) (v := (l3 + 1)) dX12_termOf_59 rfl rfl (by decide) (nlT rfl) ?_
          simp only [List.set_cons_zero, List.set_cons_succ]
          refine v_goto 159 dX12_termOf_62 (by decide) ?_
          refine v_iinc (i := 4) (v := (l4 + 1)) dX12_termOf_159 rfl rfl (by decide) (nlT rfl) ?_
          simp only [List.set_cons_zero, List.set_cons_succ]
          refine v_goto 5 dX12_termOf_162 (by decide) ?_
          refine V.weak (la2 := [some (.ref 226), some (.int l1), some (.int l2), some (.int (l3 + 1)), some (.int (l4 + 1)), none, none, none]) (by simp [wk]) ?_
          exact (s_X12_termOf_IH_5) _ _ _ _ _ _ _ hF hG
        · rw [if_pos c24] at hF
          refine v_aload_n (i := 0) dX12_termOf_36 rfl rfl ?_
          refine g_X12_113 (q := 258) rfl sh_226 (by exact ltG hG (by decide)) (by exact rG hG r0_226_47) dX12_termOf_37 ?_
          refine v_iload (i := 4) dX12_termOf_40 rfl ?_
          obtain ⟨k28, hF⟩ := ck_some hF
          refine v_iaload sh_258 (by exact ltG hG (by decide)) (ixO k28) dX12_termOf_42 ?_
          refine v_goto 58 dX12_termOf_43 (by decide) ?_
          obtain ⟨k29, hF⟩ := ck_some hF
          refine v_iastore sh_261 (by exact ltG hG (by decide)) (ixO k29) dX12_termOf_58 ?_
          refine v_iinc (i := 3) (v := (l3 + 1)) dX12_termOf_59 rfl rfl (by decide) (nlT rfl) ?_
          simp only [List.set_cons_zero, List.set_cons_succ]
          refine v_goto 159 dX12_termOf_62 (by decide) ?_
          refine v_iinc (i := 4) (v := (l4 + 1)) dX12_termOf_159 rfl rfl (by decide) (nlT rfl) ?_
          simp only [List.set_cons_zero, List.set_cons_succ]
          refine v_goto 5 dX12_termOf_162 (by decide) ?_
          refine V.weak (la2 := [some (.ref 226), some (.int l1), some (.int l2), some (.int (l3 + 1)), some (.int (l4 + 1)), none, none, none]) (by simp [wk]) ?_
          exact (s_X12_termOf_IH_5) _ _ _ _ _ _ _ hF hG
def F_X12_termOf (n : Nat) (h : Hp) (x1 : Int32) (x2 : Int32) : Option (Int32 × Hp) := W_X12_termOf n 5 h  x1 x2 0 x1
set_option maxRecDepth 100000 in
set_option maxHeartbeats 4000000 in
theorem s_X12_termOf (d : Nat) {n : Nat} {h : Hp} {x1 : Int32} {x2 : Int32} {q0 : (Int32 × Hp)} (hF : F_X12_termOf n h x1 x2 = some q0) (hG : G h)  : Kc mX12_termOf (d) [.ref 226, .int x1, .int x2] h (fun r1 h1 => r1 = some (.int q0.1) ∧ h1 = q0.2 ∧ G q0.2) := by
  obtain ⟨r, h'⟩ := q0
  have s_X12_termOf_IH_5 := sw_X12_termOf d   n
  unfold F_X12_termOf at hF
  refine Kc.of [some (.ref 226), some (.int x1), some (.int x2), none, none, none, none, none] ok_X12_termOf rfl (Nat.le_of_ble_eq_true rfl) ?_
  refine v_iconst (v := 0) dX12_termOf_0 (by decide) ?_
  refine v_istore_n (i := 3) dX12_termOf_1 rfl (by decide) (nlT rfl) ?_
  simp only [List.set_cons_zero, List.set_cons_succ]
  refine v_iload_n (i := 1) dX12_termOf_2 rfl rfl ?_
  refine v_istore (i := 4) dX12_termOf_3 (by decide) (nlT rfl) ?_
  simp only [List.set_cons_zero, List.set_cons_succ]
  refine V.weak (la2 := [some (.ref 226), some (.int x1), some (.int x2), some (.int 0), some (.int x1), none, none, none]) (by simp [wk]) ?_
  exact (s_X12_termOf_IH_5) _ _ _ _ _ _ _ hF hG
def W_X12_together : Nat → Nat → Hp → Int32 → Int32 → Int32 → Option (Int32 × Hp)
  | 0 => fun _ _ _ _ _ => none
  | n + 1 => fun hd h l1 l2 l3 => (if hd = 24 then (if (60 : Int32) ≤ (l3 : Int32) then some ((-2), h) else ((F_X12_isLoud n h l1 ((hi h 263 61) + l3)).bind (fun q2 => (if (q2.1 : Int32) = 0 then W_X12_together n 24 q2.2  l1 l2 (l3 + 1) else ((F_X12_isLoud n q2.2 l2 ((hi q2.2 263 61) + l3)).bind (fun q5 => (if (q5.1 : Int32) = 0 then W_X12_together n 24 q5.2  l1 l2 (l3 + 1) else some (l3, q5.2)))))))) else none)
set_option maxRecDepth 100000 in
set_option maxHeartbeats 4000000 in
theorem sw_X12_together (d : Nat)  (n : Nat) : (∀ (l1 : Int32) (l2 : Int32) (l3 : Int32) (h : Hp), ∀ (r : Int32) (h' : Hp), W_X12_together n 24 h  l1 l2 l3 = some (r, h') → G h → V mX12_together (d + 2) 24 [some (.ref 226), some (.int l1), some (.int l2), some (.int l3)] [] h (fun r1 h1 => r1 = some (.int r) ∧ h1 = h' ∧ G h')) := by
  induction n with
  | zero => exact by intros; contradiction
  | succ n ih =>
    have s_X12_together_IH_24 := ih
    intro l1 l2 l3 h r h' hF hG
    unfold W_X12_together at hF
    rw [if_pos rfl] at hF
    refine v_iload_n (i := 3) dX12_together_24 rfl rfl ?_
    refine v_bipush (v := 60) dX12_together_25 (by decide) ?_
    refine v_icmp_ge 72 dX12_together_27 (by decide) (fun c1 => ?_) (fun c1 => ?_)
    · rw [if_pos c1] at hF
      refine v_bipush (v := (-2)) dX12_together_72 (by decide) ?_
      refine v_ireturn rfl dX12_together_74 ?_
      obtain ⟨rfl, rfl⟩ := Prod.mk.inj (Option.some.inj hF)
      exact ⟨rfl, rfl, hG⟩
    · rw [if_neg c1] at hF
      refine v_aload_n (i := 0) dX12_together_30 rfl rfl ?_
      refine v_iload_n (i := 1) dX12_together_31 rfl rfl ?_
      refine v_aload_n (i := 0) dX12_together_32 rfl rfl ?_
      refine g_X12_128 (q := 263) rfl sh_226 (by exact ltG hG (by decide)) (by exact rG hG r0_226_54) dX12_together_33 ?_
      refine v_bipush (v := 61) dX12_together_36 (by decide) ?_
      refine v_iaload sh_263 (by exact ltG hG (by decide)) (ixK 61 (by decide)) dX12_together_38 ?_
      refine v_iload_n (i := 3) dX12_together_39 rfl rfl ?_
      refine v_iadd dX12_together_40 ?_
      obtain ⟨q2, q2_e, hF⟩ := Option.bind_eq_some_iff.mp hF
      refine c_X12_353 rfl sh_226 (by exact ltG hG (by decide)) (Nat.le_of_ble_eq_true rfl) dX12_together_41 (s_X12_isLoud _ q2_e hG) (fun r1 h1 hq => ?_)
      obtain ⟨rfl, hq, hG⟩ := hq
      replace hq := hq.symm
      subst hq
      show V _ _ _ _ (_ :: _) _ _
      refine v_if_eq 66 dX12_together_44 (by decide) (fun c4 => ?_) (fun c4 => ?_)
      · rw [if_pos c4] at hF
        refine v_iinc (i := 3) (v := (l3 + 1)) dX12_together_66 rfl rfl (by decide) (nlT rfl) ?_
        simp only [List.set_cons_zero, List.set_cons_succ]
        refine v_goto 24 dX12_together_69 (by decide) ?_
        refine V.weak (la2 := [some (.ref 226), some (.int l1), some (.int l2), some (.int (l3 + 1))]) (by simp [wk]) ?_
        exact (s_X12_together_IH_24) _ _ _ _ _ _ hF hG
      · rw [if_neg c4] at hF
        refine v_aload_n (i := 0) dX12_together_47 rfl rfl ?_
        refine v_iload_n (i := 2) dX12_together_48 rfl rfl ?_
        refine v_aload_n (i := 0) dX12_together_49 rfl rfl ?_
        refine g_X12_128 (q := 263) rfl sh_226 (by exact ltG hG (by decide)) (by exact rG hG r0_226_54) dX12_together_50 ?_
        refine v_bipush (v := 61) dX12_together_53 (by decide) ?_
        refine v_iaload sh_263 (by exact ltG hG (by decide)) (ixK 61 (by decide)) dX12_together_55 ?_
        refine v_iload_n (i := 3) dX12_together_56 rfl rfl ?_
        refine v_iadd dX12_together_57 ?_
        obtain ⟨q5, q5_e, hF⟩ := Option.bind_eq_some_iff.mp hF
        refine c_X12_353 rfl sh_226 (by exact ltG hG (by decide)) (Nat.le_of_ble_eq_true rfl) dX12_together_58 (s_X12_isLoud _ q5_e hG) (fun r1 h1 hq => ?_)
        obtain ⟨rfl, hq, hG⟩ := hq
        replace hq := hq.symm
        subst hq
        show V _ _ _ _ (_ :: _) _ _
        refine v_if_eq 66 dX12_together_61 (by decide) (fun c7 => ?_) (fun c7 => ?_)
        · rw [if_pos c7] at hF
          refine v_iinc (i := 3) (v := (l3 + 1)) dX12_together_66 rfl rfl (by decide) (nlT rfl) ?_
          simp only [List.set_cons_zero, List.set_cons_succ]
          refine v_goto 24 dX12_together_69 (by decide) ?_
          refine V.weak (la2 := [some (.ref 226), some (.int l1), some (.int l2), some (.int (l3 + 1))]) (by simp [wk]) ?_
          exact (s_X12_together_IH_24) _ _ _ _ _ _ hF hG
        · rw [if_neg c7] at hF
          refine v_iload_n (i := 3) dX12_together_64 rfl rfl ?_
          refine v_ireturn rfl dX12_together_65 ?_
          obtain ⟨rfl, rfl⟩ := Prod.mk.inj (Option.some.inj hF)
          exact ⟨rfl, rfl, hG⟩
def F_X12_together (n : Nat) (h : Hp) (x1 : Int32) (x2 : Int32) : Option (Int32 × Hp) := ((F_X12_isCell n h x1).bind (fun q8 => (if (q8.1 : Int32) = 0 then some ((-1), q8.2) else ((F_X12_isCell n q8.2 x2).bind (fun q11 => (if (q11.1 : Int32) = 0 then some ((-1), q11.2) else ((F_X12_copies n q11.2).bind (fun q14 => W_X12_together n 24 q14  x1 x2 0))))))))
set_option maxRecDepth 100000 in
set_option maxHeartbeats 4000000 in
theorem s_X12_together (d : Nat) {n : Nat} {h : Hp} {x1 : Int32} {x2 : Int32} {q0 : (Int32 × Hp)} (hF : F_X12_together n h x1 x2 = some q0) (hG : G h)  : Kc mX12_together (d + 2) [.ref 226, .int x1, .int x2] h (fun r1 h1 => r1 = some (.int q0.1) ∧ h1 = q0.2 ∧ G q0.2) := by
  obtain ⟨r, h'⟩ := q0
  have s_X12_together_IH_24 := sw_X12_together d   n
  unfold F_X12_together at hF
  refine Kc.of [some (.ref 226), some (.int x1), some (.int x2), none] ok_X12_together rfl (Nat.le_of_ble_eq_true rfl) ?_
  refine v_aload_n (i := 0) dX12_together_0 rfl rfl ?_
  refine v_iload_n (i := 1) dX12_together_1 rfl rfl ?_
  obtain ⟨q8, q8_e, hF⟩ := Option.bind_eq_some_iff.mp hF
  refine c_X12_403 rfl sh_226 (by exact ltG hG (by decide)) (Nat.le_of_ble_eq_true rfl) dX12_together_2 (s_X12_isCell _ q8_e hG) (fun r1 h1 hq => ?_)
  obtain ⟨rfl, hq, hG⟩ := hq
  replace hq := hq.symm
  subst hq
  show V _ _ _ _ (_ :: _) _ _
  refine v_if_eq 16 dX12_together_5 (by decide) (fun c10 => ?_) (fun c10 => ?_)
  · rw [if_pos c10] at hF
    refine v_iconst (v := (-1)) dX12_together_16 (by decide) ?_
    refine v_ireturn rfl dX12_together_17 ?_
    obtain ⟨rfl, rfl⟩ := Prod.mk.inj (Option.some.inj hF)
    exact ⟨rfl, rfl, hG⟩
  · rw [if_neg c10] at hF
    refine v_aload_n (i := 0) dX12_together_8 rfl rfl ?_
    refine v_iload_n (i := 2) dX12_together_9 rfl rfl ?_
    obtain ⟨q11, q11_e, hF⟩ := Option.bind_eq_some_iff.mp hF
    refine c_X12_403 rfl sh_226 (by exact ltG hG (by decide)) (Nat.le_of_ble_eq_true rfl) dX12_together_10 (s_X12_isCell _ q11_e hG) (fun r1 h1 hq => ?_)
    obtain ⟨rfl, hq, hG⟩ := hq
    replace hq := hq.symm
    subst hq
    show V _ _ _ _ (_ :: _) _ _
    refine v_if_ne 18 dX12_together_13 (by decide) (fun c13 => ?_) (fun c13 => ?_)
    · rw [if_neg c13] at hF
      refine v_aload_n (i := 0) dX12_together_18 rfl rfl ?_
      obtain ⟨q14, q14_e, hF⟩ := Option.bind_eq_some_iff.mp hF
      refine c_X12_346 rfl sh_226 (by exact ltG hG (by decide)) (Nat.le_of_ble_eq_true rfl) dX12_together_19 (s_X12_copies _ q14_e hG) (fun r1 h1 hq => ?_)
      obtain ⟨rfl, hq, hG⟩ := hq
      replace hq := hq.symm
      subst hq
      simp only [Option.toList, List.nil_append]
      refine v_iconst (v := 0) dX12_together_22 (by decide) ?_
      refine v_istore_n (i := 3) dX12_together_23 rfl (by decide) (nlT rfl) ?_
      simp only [List.set_cons_zero, List.set_cons_succ]
      refine V.weak (la2 := [some (.ref 226), some (.int x1), some (.int x2), some (.int 0)]) (by simp [wk]) ?_
      exact (s_X12_together_IH_24) _ _ _ _ _ _ hF hG
    · rw [if_pos c13] at hF
      refine v_iconst (v := (-1)) dX12_together_16 (by decide) ?_
      refine v_ireturn rfl dX12_together_17 ?_
      obtain ⟨rfl, rfl⟩ := Prod.mk.inj (Option.some.inj hF)
      exact ⟨rfl, rfl, hG⟩
def F_X12_token (n : Nat) (h : Hp) (x1 : Int32) (x2 : Int32) (x3 : Int32) (x4 : Int64) : Option Hp := (if ixOK (hi h 226 10) 403 = true then (if ixOK (hi (wrI h 229 (Int32.toNatClampNeg (hi h 226 10)) x1) 226 10) 403 = true then (if ixOK (hi (wrI (wrI h 229 (Int32.toNatClampNeg (hi h 226 10)) x1) 230 (Int32.toNatClampNeg (hi (wrI h 229 (Int32.toNatClampNeg (hi h 226 10)) x1) 226 10)) x2) 226 10) 403 = true then (if ixOK (hi (wrI (wrI (wrI h 229 (Int32.toNatClampNeg (hi h 226 10)) x1) 230 (Int32.toNatClampNeg (hi (wrI h 229 (Int32.toNatClampNeg (hi h 226 10)) x1) 226 10)) x2) 231 (Int32.toNatClampNeg (hi (wrI (wrI h 229 (Int32.toNatClampNeg (hi h 226 10)) x1) 230 (Int32.toNatClampNeg (hi (wrI h 229 (Int32.toNatClampNeg (hi h 226 10)) x1) 226 10)) x2) 226 10)) x3) 226 10) 403 = true then some (wrI (wrL (wrI (wrI (wrI h 229 (Int32.toNatClampNeg (hi h 226 10)) x1) 230 (Int32.toNatClampNeg (hi (wrI h 229 (Int32.toNatClampNeg (hi h 226 10)) x1) 226 10)) x2) 231 (Int32.toNatClampNeg (hi (wrI (wrI h 229 (Int32.toNatClampNeg (hi h 226 10)) x1) 230 (Int32.toNatClampNeg (hi (wrI h 229 (Int32.toNatClampNeg (hi h 226 10)) x1) 226 10)) x2) 226 10)) x3) 232 (Int32.toNatClampNeg (hi (wrI (wrI (wrI h 229 (Int32.toNatClampNeg (hi h 226 10)) x1) 230 (Int32.toNatClampNeg (hi (wrI h 229 (Int32.toNatClampNeg (hi h 226 10)) x1) 226 10)) x2) 231 (Int32.toNatClampNeg (hi (wrI (wrI h 229 (Int32.toNatClampNeg (hi h 226 10)) x1) 230 (Int32.toNatClampNeg (hi (wrI h 229 (Int32.toNatClampNeg (hi h 226 10)) x1) 226 10)) x2) 226 10)) x3) 226 10)) x4) 226 10 ((hi (wrL (wrI (wrI (wrI h 229 (Int32.toNatClampNeg (hi h 226 10)) x1) 230 (Int32.toNatClampNeg (hi (wrI h 229 (Int32.toNatClampNeg (hi h 226 10)) x1) 226 10)) x2) 231 (Int32.toNatClampNeg (hi (wrI (wrI h 229 (Int32.toNatClampNeg (hi h 226 10)) x1) 230 (Int32.toNatClampNeg (hi (wrI h 229 (Int32.toNatClampNeg (hi h 226 10)) x1) 226 10)) x2) 226 10)) x3) 232 (Int32.toNatClampNeg (hi (wrI (wrI (wrI h 229 (Int32.toNatClampNeg (hi h 226 10)) x1) 230 (Int32.toNatClampNeg (hi (wrI h 229 (Int32.toNatClampNeg (hi h 226 10)) x1) 226 10)) x2) 231 (Int32.toNatClampNeg (hi (wrI (wrI h 229 (Int32.toNatClampNeg (hi h 226 10)) x1) 230 (Int32.toNatClampNeg (hi (wrI h 229 (Int32.toNatClampNeg (hi h 226 10)) x1) 226 10)) x2) 226 10)) x3) 226 10)) x4) 226 10) + 1)) else none) else none) else none) else none)
set_option maxRecDepth 100000 in
set_option maxHeartbeats 4000000 in
theorem s_X12_token (d : Nat) {n : Nat} {h : Hp} {x1 : Int32} {x2 : Int32} {x3 : Int32} {x4 : Int64} {q0 : Hp} (hF : F_X12_token n h x1 x2 x3 x4 = some q0) (hG : G h)  : Kc mX12_token (d) [.ref 226, .int x1, .int x2, .int x3, .long x4] h (fun r1 h1 => r1 = none ∧ h1 = q0 ∧ G q0) := by
  obtain ⟨h', rfl⟩ : ∃ z, z = q0 := ⟨_, rfl⟩
  unfold F_X12_token at hF
  refine Kc.of [some (.ref 226), some (.int x1), some (.int x2), some (.int x3), some (.long x4), none] ok_X12_token rfl (Nat.le_of_ble_eq_true rfl) ?_
  refine v_aload_n (i := 0) dX12_token_0 rfl rfl ?_
  refine g_X12_20 (q := 229) rfl sh_226 (by exact ltG hG (by decide)) (by exact rG hG r0_226_5) dX12_token_1 ?_
  refine v_aload_n (i := 0) dX12_token_4 rfl rfl ?_
  refine g_X12_193 rfl sh_226 (by exact ltG hG (by decide)) dX12_token_5 ?_
  refine v_iload_n (i := 1) dX12_token_8 rfl rfl ?_
  obtain ⟨k1, hF⟩ := ck_some hF
  refine v_iastore sh_229 (by exact ltG hG (by decide)) (ixO k1) dX12_token_9 ?_
  refine v_aload_n (i := 0) dX12_token_10 rfl rfl ?_
  refine g_X12_24 (q := 230) rfl sh_226 (by exact ltG hG (by decide)) (by exact rG hG r0_226_6) dX12_token_11 ?_
  refine v_aload_n (i := 0) dX12_token_14 rfl rfl ?_
  refine g_X12_193 rfl sh_226 (by exact ltG hG (by decide)) dX12_token_15 ?_
  refine v_iload_n (i := 2) dX12_token_18 rfl rfl ?_
  obtain ⟨k2, hF⟩ := ck_some hF
  refine v_iastore sh_230 (by exact ltG hG (by decide)) (ixO k2) dX12_token_19 ?_
  refine v_aload_n (i := 0) dX12_token_20 rfl rfl ?_
  refine g_X12_27 (q := 231) rfl sh_226 (by exact ltG hG (by decide)) (by exact rG hG r0_226_7) dX12_token_21 ?_
  refine v_aload_n (i := 0) dX12_token_24 rfl rfl ?_
  refine g_X12_193 rfl sh_226 (by exact ltG hG (by decide)) dX12_token_25 ?_
  refine v_iload_n (i := 3) dX12_token_28 rfl rfl ?_
  obtain ⟨k3, hF⟩ := ck_some hF
  refine v_iastore sh_231 (by exact ltG hG (by decide)) (ixO k3) dX12_token_29 ?_
  refine v_aload_n (i := 0) dX12_token_30 rfl rfl ?_
  refine g_X12_30 (q := 232) rfl sh_226 (by exact ltG hG (by decide)) (by exact rG hG r0_226_8) dX12_token_31 ?_
  refine v_aload_n (i := 0) dX12_token_34 rfl rfl ?_
  refine g_X12_193 rfl sh_226 (by exact ltG hG (by decide)) dX12_token_35 ?_
  refine v_lload (i := 4) dX12_token_38 rfl ?_
  obtain ⟨k4, hF⟩ := ck_some hF
  refine v_lastore sh_232 (by exact ltG hG (by decide)) (ixO k4) dX12_token_40 ?_
  refine v_aload_n (i := 0) dX12_token_41 rfl rfl ?_
  refine v_dup dX12_token_42 rfl ?_
  refine g_X12_193 rfl sh_226 (by exact ltG hG (by decide)) dX12_token_43 ?_
  refine v_iconst (v := 1) dX12_token_46 (by decide) ?_
  refine v_iadd dX12_token_47 ?_
  refine p_X12_193 rfl sh_226 (by exact ltG hG (by decide)) dX12_token_48 ?_
  refine v_return rfl dX12_token_51 ?_
  obtain rfl := Option.some.inj hF
  exact ⟨rfl, rfl, hG⟩
def W_X12_tuneBits : Nat → Nat → Hp → Int32 → Int32 → Option (Int32 × Hp)
  | 0 => fun _ _ _ _ => none
  | n + 1 => fun hd h l1 l2 => (if hd = 4 then ((F_X12_cells n h).bind (fun q1 => (if (q1.1 : Int32) ≤ (l2 : Int32) then some (l1, q1.2) else (if ixOK l2 63 = true then (if ((hi q1.2 263 (Int32.toNatClampNeg l2)) : Int32) ≤ 0 then W_X12_tuneBits n 4 q1.2  l1 (l2 + 1) else W_X12_tuneBits n 4 q1.2  ((l1 : Int32) ||| (((1 : Int32) <<< ((l2 : Int32) &&& 31)) : Int32)) (l2 + 1)) else none)))) else none)
set_option maxRecDepth 100000 in
set_option maxHeartbeats 4000000 in
theorem sw_X12_tuneBits (d : Nat)  (n : Nat) : (∀ (l1 : Int32) (l2 : Int32) (h : Hp), ∀ (r : Int32) (h' : Hp), W_X12_tuneBits n 4 h  l1 l2 = some (r, h') → G h → V mX12_tuneBits (d + 1) 4 [some (.ref 226), some (.int l1), some (.int l2)] [] h (fun r1 h1 => r1 = some (.int r) ∧ h1 = h' ∧ G h')) := by
  induction n with
  | zero => exact by intros; contradiction
  | succ n ih =>
    have s_X12_tuneBits_IH_4 := ih
    intro l1 l2 h r h' hF hG
    unfold W_X12_tuneBits at hF
    rw [if_pos rfl] at hF
    refine v_iload_n (i := 2) dX12_tuneBits_4 rfl rfl ?_
    refine v_aload_n (i := 0) dX12_tuneBits_5 rfl rfl ?_
    obtain ⟨q1, q1_e, hF⟩ := Option.bind_eq_some_iff.mp hF
    refine c_X12_326 rfl sh_226 (by exact ltG hG (by decide)) (Nat.le_of_ble_eq_true rfl) dX12_tuneBits_6 (s_X12_cells _ q1_e hG) (fun r1 h1 hq => ?_)
    obtain ⟨rfl, hq, hG⟩ := hq
    replace hq := hq.symm
    subst hq
    show V _ _ _ _ (_ :: _) _ _
    refine v_icmp_ge 33 dX12_tuneBits_9 (by decide) (fun c3 => ?_) (fun c3 => ?_)
    · rw [if_pos c3] at hF
      refine v_iload_n (i := 1) dX12_tuneBits_33 rfl rfl ?_
      refine v_ireturn rfl dX12_tuneBits_34 ?_
      obtain ⟨rfl, rfl⟩ := Prod.mk.inj (Option.some.inj hF)
      exact ⟨rfl, rfl, hG⟩
    · rw [if_neg c3] at hF
      refine v_aload_n (i := 0) dX12_tuneBits_12 rfl rfl ?_
      refine g_X12_128 (q := 263) rfl sh_226 (by exact ltG hG (by decide)) (by exact rG hG r0_226_54) dX12_tuneBits_13 ?_
      refine v_iload_n (i := 2) dX12_tuneBits_16 rfl rfl ?_
      obtain ⟨k4, hF⟩ := ck_some hF
      refine v_iaload sh_263 (by exact ltG hG (by decide)) (ixO k4) dX12_tuneBits_17 ?_
      refine v_if_le 27 dX12_tuneBits_18 (by decide) (fun c5 => ?_) (fun c5 => ?_)
      · rw [if_pos c5] at hF
        refine v_iinc (i := 2) (v := (l2 + 1)) dX12_tuneBits_27 rfl rfl (by decide) (nlT rfl) ?_
        simp only [List.set_cons_zero, List.set_cons_succ]
        refine v_goto 4 dX12_tuneBits_30 (by decide) ?_
        refine V.weak (la2 := [some (.ref 226), some (.int l1), some (.int (l2 + 1))]) (by simp [wk]) ?_
        exact (s_X12_tuneBits_IH_4) _ _ _ _ _ hF hG
      · rw [if_neg c5] at hF
        refine v_iload_n (i := 1) dX12_tuneBits_21 rfl rfl ?_
        refine v_iconst (v := 1) dX12_tuneBits_22 (by decide) ?_
        refine v_iload_n (i := 2) dX12_tuneBits_23 rfl rfl ?_
        refine v_ishl dX12_tuneBits_24 ?_
        refine v_ior dX12_tuneBits_25 ?_
        refine v_istore_n (i := 1) dX12_tuneBits_26 rfl (by decide) (nlT rfl) ?_
        simp only [List.set_cons_zero, List.set_cons_succ]
        refine v_iinc (i := 2) (v := (l2 + 1)) dX12_tuneBits_27 rfl rfl (by decide) (nlT rfl) ?_
        simp only [List.set_cons_zero, List.set_cons_succ]
        refine v_goto 4 dX12_tuneBits_30 (by decide) ?_
        refine V.weak (la2 := [some (.ref 226), some (.int ((l1 : Int32) ||| (((1 : Int32) <<< ((l2 : Int32) &&& 31)) : Int32))), some (.int (l2 + 1))]) (by simp [wk]) ?_
        exact (s_X12_tuneBits_IH_4) _ _ _ _ _ hF hG
def F_X12_tuneBits (n : Nat) (h : Hp) : Option (Int32 × Hp) := W_X12_tuneBits n 4 h  0 0
set_option maxRecDepth 100000 in
set_option maxHeartbeats 4000000 in
theorem s_X12_tuneBits (d : Nat) {n : Nat} {h : Hp}  {q0 : (Int32 × Hp)} (hF : F_X12_tuneBits n h  = some q0) (hG : G h)  : Kc mX12_tuneBits (d + 1) [.ref 226] h (fun r1 h1 => r1 = some (.int q0.1) ∧ h1 = q0.2 ∧ G q0.2) := by
  obtain ⟨r, h'⟩ := q0
  have s_X12_tuneBits_IH_4 := sw_X12_tuneBits d   n
  unfold F_X12_tuneBits at hF
  refine Kc.of [some (.ref 226), none, none] ok_X12_tuneBits rfl (Nat.le_of_ble_eq_true rfl) ?_
  refine v_iconst (v := 0) dX12_tuneBits_0 (by decide) ?_
  refine v_istore_n (i := 1) dX12_tuneBits_1 rfl (by decide) (nlT rfl) ?_
  simp only [List.set_cons_zero, List.set_cons_succ]
  refine v_iconst (v := 0) dX12_tuneBits_2 (by decide) ?_
  refine v_istore_n (i := 2) dX12_tuneBits_3 rfl (by decide) (nlT rfl) ?_
  simp only [List.set_cons_zero, List.set_cons_succ]
  refine V.weak (la2 := [some (.ref 226), some (.int 0), some (.int 0)]) (by simp [wk]) ?_
  exact (s_X12_tuneBits_IH_4) _ _ _ _ _ hF hG
def W_X12_tunesBy : Nat → Nat → Hp → Int32 → Int32 → Int32 → Int32 → Option (Int32 × Hp)
  | 0 => fun _ _ _ _ _ _ => none
  | n + 1 => fun hd h l1 l2 l3 l4 => (if hd = 7 then ((F_X12_cells n h).bind (fun q1 => (if (q1.1 : Int32) ≤ (l4 : Int32) then some (l3, q1.2) else (if ixOK l4 63 = true then (if ((hi q1.2 262 (Int32.toNatClampNeg l4)) : Int32) = 0 then W_X12_tunesBy n 7 q1.2  l1 l2 l3 (l4 + 1) else W_X12_tunesBy n 7 q1.2  l1 ((l2 : Int32) >>> ((1 : Int32) &&& 31)) ((l3 : Int32) ||| (((((l2 : Int32) &&& (1 : Int32)) : Int32) <<< ((l4 : Int32) &&& 31)) : Int32)) (l4 + 1)) else none)))) else none)
set_option maxRecDepth 100000 in
set_option maxHeartbeats 4000000 in
theorem sw_X12_tunesBy (d : Nat)  (n : Nat) : (∀ (l1 : Int32) (l2 : Int32) (l3 : Int32) (l4 : Int32) (h : Hp), ∀ (r : Int32) (h' : Hp), W_X12_tunesBy n 7 h  l1 l2 l3 l4 = some (r, h') → G h → V mX12_tunesBy (d + 1) 7 [some (.ref 226), some (.int l1), some (.int l2), some (.int l3), some (.int l4)] [] h (fun r1 h1 => r1 = some (.int r) ∧ h1 = h' ∧ G h')) := by
  induction n with
  | zero => exact by intros; contradiction
  | succ n ih =>
    have s_X12_tunesBy_IH_7 := ih
    intro l1 l2 l3 l4 h r h' hF hG
    unfold W_X12_tunesBy at hF
    rw [if_pos rfl] at hF
    refine v_iload (i := 4) dX12_tunesBy_7 rfl ?_
    refine v_aload_n (i := 0) dX12_tunesBy_9 rfl rfl ?_
    obtain ⟨q1, q1_e, hF⟩ := Option.bind_eq_some_iff.mp hF
    refine c_X12_326 rfl sh_226 (by exact ltG hG (by decide)) (Nat.le_of_ble_eq_true rfl) dX12_tunesBy_10 (s_X12_cells _ q1_e hG) (fun r1 h1 hq => ?_)
    obtain ⟨rfl, hq, hG⟩ := hq
    replace hq := hq.symm
    subst hq
    show V _ _ _ _ (_ :: _) _ _
    refine v_icmp_ge 48 dX12_tunesBy_13 (by decide) (fun c3 => ?_) (fun c3 => ?_)
    · rw [if_pos c3] at hF
      refine v_iload_n (i := 3) dX12_tunesBy_48 rfl rfl ?_
      refine v_ireturn rfl dX12_tunesBy_49 ?_
      obtain ⟨rfl, rfl⟩ := Prod.mk.inj (Option.some.inj hF)
      exact ⟨rfl, rfl, hG⟩
    · rw [if_neg c3] at hF
      refine v_aload_n (i := 0) dX12_tunesBy_16 rfl rfl ?_
      refine g_X12_125 (q := 262) rfl sh_226 (by exact ltG hG (by decide)) (by exact rG hG r0_226_53) dX12_tunesBy_17 ?_
      refine v_iload (i := 4) dX12_tunesBy_20 rfl ?_
      obtain ⟨k4, hF⟩ := ck_some hF
      refine v_iaload sh_262 (by exact ltG hG (by decide)) (ixO k4) dX12_tunesBy_22 ?_
      refine v_if_ne 29 dX12_tunesBy_23 (by decide) (fun c5 => ?_) (fun c5 => ?_)
      · rw [if_neg c5] at hF
        refine v_iload_n (i := 3) dX12_tunesBy_29 rfl rfl ?_
        refine v_iload_n (i := 2) dX12_tunesBy_30 rfl rfl ?_
        refine v_iconst (v := 1) dX12_tunesBy_31 (by decide) ?_
        refine v_iand dX12_tunesBy_32 ?_
        refine v_iload (i := 4) dX12_tunesBy_33 rfl ?_
        refine v_ishl dX12_tunesBy_35 ?_
        refine v_ior dX12_tunesBy_36 ?_
        refine v_istore_n (i := 3) dX12_tunesBy_37 rfl (by decide) (nlT rfl) ?_
        simp only [List.set_cons_zero, List.set_cons_succ]
        refine v_iload_n (i := 2) dX12_tunesBy_38 rfl rfl ?_
        refine v_iconst (v := 1) dX12_tunesBy_39 (by decide) ?_
        refine v_ishr dX12_tunesBy_40 ?_
        refine v_istore_n (i := 2) dX12_tunesBy_41 rfl (by decide) (nlT rfl) ?_
        simp only [List.set_cons_zero, List.set_cons_succ]
        refine v_iinc (i := 4) (v := (l4 + 1)) dX12_tunesBy_42 rfl rfl (by decide) (nlT rfl) ?_
        simp only [List.set_cons_zero, List.set_cons_succ]
        refine v_goto 7 dX12_tunesBy_45 (by decide) ?_
        refine V.weak (la2 := [some (.ref 226), some (.int l1), some (.int ((l2 : Int32) >>> ((1 : Int32) &&& 31))), some (.int ((l3 : Int32) ||| (((((l2 : Int32) &&& (1 : Int32)) : Int32) <<< ((l4 : Int32) &&& 31)) : Int32))), some (.int (l4 + 1))]) (by simp [wk]) ?_
        exact (s_X12_tunesBy_IH_7) _ _ _ _ _ _ _ hF hG
      · rw [if_pos c5] at hF
        refine v_goto 42 dX12_tunesBy_26 (by decide) ?_
        refine v_iinc (i := 4) (v := (l4 + 1)) dX12_tunesBy_42 rfl rfl (by decide) (nlT rfl) ?_
        simp only [List.set_cons_zero, List.set_cons_succ]
        refine v_goto 7 dX12_tunesBy_45 (by decide) ?_
        refine V.weak (la2 := [some (.ref 226), some (.int l1), some (.int l2), some (.int l3), some (.int (l4 + 1))]) (by simp [wk]) ?_
        exact (s_X12_tunesBy_IH_7) _ _ _ _ _ _ _ hF hG
def F_X12_tunesBy (n : Nat) (h : Hp) (x1 : Int32) : Option (Int32 × Hp) := W_X12_tunesBy n 7 h  x1 x1 0 0
set_option maxRecDepth 100000 in
set_option maxHeartbeats 4000000 in
theorem s_X12_tunesBy (d : Nat) {n : Nat} {h : Hp} {x1 : Int32} {q0 : (Int32 × Hp)} (hF : F_X12_tunesBy n h x1 = some q0) (hG : G h)  : Kc mX12_tunesBy (d + 1) [.ref 226, .int x1] h (fun r1 h1 => r1 = some (.int q0.1) ∧ h1 = q0.2 ∧ G q0.2) := by
  obtain ⟨r, h'⟩ := q0
  have s_X12_tunesBy_IH_7 := sw_X12_tunesBy d   n
  unfold F_X12_tunesBy at hF
  refine Kc.of [some (.ref 226), some (.int x1), none, none, none] ok_X12_tunesBy rfl (Nat.le_of_ble_eq_true rfl) ?_
  refine v_iload_n (i := 1) dX12_tunesBy_0 rfl rfl ?_
  refine v_istore_n (i := 2) dX12_tunesBy_1 rfl (by decide) (nlT rfl) ?_
  simp only [List.set_cons_zero, List.set_cons_succ]
  refine v_iconst (v := 0) dX12_tunesBy_2 (by decide) ?_
  refine v_istore_n (i := 3) dX12_tunesBy_3 rfl (by decide) (nlT rfl) ?_
  simp only [List.set_cons_zero, List.set_cons_succ]
  refine v_iconst (v := 0) dX12_tunesBy_4 (by decide) ?_
  refine v_istore (i := 4) dX12_tunesBy_5 (by decide) (nlT rfl) ?_
  simp only [List.set_cons_zero, List.set_cons_succ]
  refine V.weak (la2 := [some (.ref 226), some (.int x1), some (.int x1), some (.int 0), some (.int 0)]) (by simp [wk]) ?_
  exact (s_X12_tunesBy_IH_7) _ _ _ _ _ _ _ hF hG
def W_X12_undo : Nat → Nat → Hp → Int32 → Option (Int32 × Hp)
  | 0 => fun _ _ _ => none
  | n + 1 => fun hd h l1 => (if hd = 21 then (if (63 : Int32) ≤ (l1 : Int32) then some (1, h) else (if ixOK ((63 * (hi h 226 59)) + l1) 2520 = true then (if ixOK l1 63 = true then W_X12_undo n 21 (wrI h 262 (Int32.toNatClampNeg l1) (hi h 266 (Int32.toNatClampNeg ((63 * (hi h 226 59)) + l1))))  (l1 + 1) else none) else none)) else none)
set_option maxRecDepth 100000 in
set_option maxHeartbeats 4000000 in
theorem sw_X12_undo (d : Nat)  (n : Nat) : (∀ (l1 : Int32) (h : Hp), ∀ (r : Int32) (h' : Hp), W_X12_undo n 21 h  l1 = some (r, h') → G h → V mX12_undo (d) 21 [some (.ref 226), some (.int l1)] [] h (fun r1 h1 => r1 = some (.int r) ∧ h1 = h' ∧ G h')) := by
  induction n with
  | zero => exact by intros; contradiction
  | succ n ih =>
    have s_X12_undo_IH_21 := ih
    intro l1 h r h' hF hG
    unfold W_X12_undo at hF
    rw [if_pos rfl] at hF
    refine v_iload_n (i := 1) dX12_undo_21 rfl rfl ?_
    refine v_bipush (v := 63) dX12_undo_22 (by decide) ?_
    refine v_icmp_ge 53 dX12_undo_24 (by decide) (fun c1 => ?_) (fun c1 => ?_)
    · rw [if_pos c1] at hF
      refine v_iconst (v := 1) dX12_undo_53 (by decide) ?_
      refine v_zreturn rfl (by decide) dX12_undo_54 ?_
      obtain ⟨rfl, rfl⟩ := Prod.mk.inj (Option.some.inj hF)
      exact ⟨rfl, rfl, hG⟩
    · rw [if_neg c1] at hF
      refine v_aload_n (i := 0) dX12_undo_27 rfl rfl ?_
      refine g_X12_125 (q := 262) rfl sh_226 (by exact ltG hG (by decide)) (by exact rG hG r0_226_53) dX12_undo_28 ?_
      refine v_iload_n (i := 1) dX12_undo_31 rfl rfl ?_
      refine v_aload_n (i := 0) dX12_undo_32 rfl rfl ?_
      refine g_X12_137 (q := 266) rfl sh_226 (by exact ltG hG (by decide)) (by exact rG hG r0_226_60) dX12_undo_33 ?_
      refine v_bipush (v := 63) dX12_undo_36 (by decide) ?_
      refine v_aload_n (i := 0) dX12_undo_38 rfl rfl ?_
      refine g_X12_271 rfl sh_226 (by exact ltG hG (by decide)) dX12_undo_39 ?_
      refine v_imul dX12_undo_42 ?_
      refine v_iload_n (i := 1) dX12_undo_43 rfl rfl ?_
      refine v_iadd dX12_undo_44 ?_
      obtain ⟨k2, hF⟩ := ck_some hF
      refine v_iaload sh_266 (by exact ltG hG (by decide)) (ixO k2) dX12_undo_45 ?_
      obtain ⟨k3, hF⟩ := ck_some hF
      refine v_iastore sh_262 (by exact ltG hG (by decide)) (ixO k3) dX12_undo_46 ?_
      refine v_iinc (i := 1) (v := (l1 + 1)) dX12_undo_47 rfl rfl (by decide) (nlT rfl) ?_
      simp only [List.set_cons_zero, List.set_cons_succ]
      refine v_goto 21 dX12_undo_50 (by decide) ?_
      refine V.weak (la2 := [some (.ref 226), some (.int (l1 + 1))]) (by simp [wk]) ?_
      exact (s_X12_undo_IH_21) _ _ _ _ hF hG
def F_X12_undo (n : Nat) (h : Hp) : Option (Int32 × Hp) := (if ((hi h 226 59) : Int32) = 0 then some (0, h) else W_X12_undo n 21 (wrI h 226 59 ((hi h 226 59) - 1))  0)
set_option maxRecDepth 100000 in
set_option maxHeartbeats 4000000 in
theorem s_X12_undo (d : Nat) {n : Nat} {h : Hp}  {q0 : (Int32 × Hp)} (hF : F_X12_undo n h  = some q0) (hG : G h)  : Kc mX12_undo (d) [.ref 226] h (fun r1 h1 => r1 = some (.int q0.1) ∧ h1 = q0.2 ∧ G q0.2) := by
  obtain ⟨r, h'⟩ := q0
  have s_X12_undo_IH_21 := sw_X12_undo d   n
  unfold F_X12_undo at hF
  refine Kc.of [some (.ref 226), none] ok_X12_undo rfl (Nat.le_of_ble_eq_true rfl) ?_
  refine v_aload_n (i := 0) dX12_undo_0 rfl rfl ?_
  refine g_X12_271 rfl sh_226 (by exact ltG hG (by decide)) dX12_undo_1 ?_
  refine v_if_ne 9 dX12_undo_4 (by decide) (fun c4 => ?_) (fun c4 => ?_)
  · rw [if_neg c4] at hF
    refine v_aload_n (i := 0) dX12_undo_9 rfl rfl ?_
    refine v_dup dX12_undo_10 rfl ?_
    refine g_X12_271 rfl sh_226 (by exact ltG hG (by decide)) dX12_undo_11 ?_
    refine v_iconst (v := 1) dX12_undo_14 (by decide) ?_
    refine v_isub dX12_undo_15 ?_
    refine p_X12_271 rfl sh_226 (by exact ltG hG (by decide)) dX12_undo_16 ?_
    refine v_iconst (v := 0) dX12_undo_19 (by decide) ?_
    refine v_istore_n (i := 1) dX12_undo_20 rfl (by decide) (nlT rfl) ?_
    simp only [List.set_cons_zero, List.set_cons_succ]
    refine V.weak (la2 := [some (.ref 226), some (.int 0)]) (by simp [wk]) ?_
    exact (s_X12_undo_IH_21) _ _ _ _ hF hG
  · rw [if_pos c4] at hF
    refine v_iconst (v := 0) dX12_undo_7 (by decide) ?_
    refine v_zreturn rfl (by decide) dX12_undo_8 ?_
    obtain ⟨rfl, rfl⟩ := Prod.mk.inj (Option.some.inj hF)
    exact ⟨rfl, rfl, hG⟩
def F_X12_unit (n : Nat) (h : Hp) : Option Hp := ((F_X12_is n h 2).bind (fun q1 => (if (q1.1 : Int32) = 0 then (if ((hi q1.2 226 13) : Int32) = 0 then (if ixOK (hi q1.2 226 11) 403 = true then (if ((hi q1.2 229 (Int32.toNatClampNeg (hi q1.2 226 11))) : Int32) < (33 : Int32) then ((F_X12_fail n q1.2 1).bind (fun q9 => some q9)) else (if ixOK (hi q1.2 226 11) 403 = true then (if (41 : Int32) < ((hi q1.2 229 (Int32.toNatClampNeg (hi q1.2 226 11))) : Int32) then ((F_X12_fail n q1.2 1).bind (fun q13 => some q13)) else (if ixOK (hi q1.2 226 11) 403 = true then ((F_X12_emit n q1.2 1 ((hi q1.2 229 (Int32.toNatClampNeg (hi q1.2 226 11))) - 33)).bind (fun q16 => ((F_X12_goesOn n q16).bind (fun q18 => some q18)))) else none)) else none)) else none) else ((F_X12_fail n q1.2 1).bind (fun q5 => some q5))) else (if ixOK (hi q1.2 226 11) 403 = true then ((F_X12_emit n q1.2 0 (hi q1.2 231 (Int32.toNatClampNeg (hi q1.2 226 11)))).bind (fun q21 => ((F_X12_goesOn n q21).bind (fun q23 => some q23)))) else none))))
set_option maxRecDepth 100000 in
set_option maxHeartbeats 4000000 in
theorem s_X12_unit (d : Nat) {n : Nat} {h : Hp}  {q0 : Hp} (hF : F_X12_unit n h  = some q0) (hG : G h)  : Kc mX12_unit (d + 2) [.ref 226] h (fun r1 h1 => r1 = none ∧ h1 = q0 ∧ G q0) := by
  obtain ⟨h', rfl⟩ : ∃ z, z = q0 := ⟨_, rfl⟩
  unfold F_X12_unit at hF
  refine Kc.of [some (.ref 226)] ok_X12_unit rfl (Nat.le_of_ble_eq_true rfl) ?_
  refine v_aload_n (i := 0) dX12_unit_0 rfl rfl ?_
  refine v_iconst (v := 2) dX12_unit_1 (by decide) ?_
  obtain ⟨q1, q1_e, hF⟩ := Option.bind_eq_some_iff.mp hF
  refine c_X12_233 rfl sh_226 (by exact ltG hG (by decide)) (Nat.le_of_ble_eq_true rfl) dX12_unit_2 (s_X12_is _ q1_e hG) (fun r1 h1 hq => ?_)
  obtain ⟨rfl, hq, hG⟩ := hq
  replace hq := hq.symm
  subst hq
  show V _ _ _ _ (_ :: _) _ _
  refine v_if_eq 29 dX12_unit_5 (by decide) (fun c3 => ?_) (fun c3 => ?_)
  · rw [if_pos c3] at hF
    refine v_aload_n (i := 0) dX12_unit_29 rfl rfl ?_
    refine g_X12_215 rfl sh_226 (by exact ltG hG (by decide)) dX12_unit_30 ?_
    refine v_if_ne 88 dX12_unit_33 (by decide) (fun c4 => ?_) (fun c4 => ?_)
    · rw [if_neg c4] at hF
      refine v_aload_n (i := 0) dX12_unit_88 rfl rfl ?_
      refine v_iconst (v := 1) dX12_unit_89 (by decide) ?_
      obtain ⟨q5, q5_e, hF⟩ := Option.bind_eq_some_iff.mp hF
      refine c_X12_230 rfl sh_226 (by exact ltG hG (by decide)) (Nat.le_of_ble_eq_true rfl) dX12_unit_90 (s_X12_fail _ q5_e hG) (fun r1 h1 hq => ?_)
      obtain ⟨rfl, hq, hG⟩ := hq
      replace hq := hq.symm
      subst hq
      simp only [Option.toList, List.nil_append]
      refine v_return rfl dX12_unit_93 ?_
      obtain rfl := Option.some.inj hF
      exact ⟨rfl, rfl, hG⟩
    · rw [if_pos c4] at hF
      refine v_aload_n (i := 0) dX12_unit_36 rfl rfl ?_
      refine g_X12_20 (q := 229) rfl sh_226 (by exact ltG hG (by decide)) (by exact rG hG r0_226_5) dX12_unit_37 ?_
      refine v_aload_n (i := 0) dX12_unit_40 rfl rfl ?_
      refine g_X12_218 rfl sh_226 (by exact ltG hG (by decide)) dX12_unit_41 ?_
      obtain ⟨k7, hF⟩ := ck_some hF
      refine v_iaload sh_229 (by exact ltG hG (by decide)) (ixO k7) dX12_unit_44 ?_
      refine v_bipush (v := 33) dX12_unit_45 (by decide) ?_
      refine v_icmp_lt 88 dX12_unit_47 (by decide) (fun c8 => ?_) (fun c8 => ?_)
      · rw [if_pos c8] at hF
        refine v_aload_n (i := 0) dX12_unit_88 rfl rfl ?_
        refine v_iconst (v := 1) dX12_unit_89 (by decide) ?_
        obtain ⟨q9, q9_e, hF⟩ := Option.bind_eq_some_iff.mp hF
        refine c_X12_230 rfl sh_226 (by exact ltG hG (by decide)) (Nat.le_of_ble_eq_true rfl) dX12_unit_90 (s_X12_fail _ q9_e hG) (fun r1 h1 hq => ?_)
        obtain ⟨rfl, hq, hG⟩ := hq
        replace hq := hq.symm
        subst hq
        simp only [Option.toList, List.nil_append]
        refine v_return rfl dX12_unit_93 ?_
        obtain rfl := Option.some.inj hF
        exact ⟨rfl, rfl, hG⟩
      · rw [if_neg c8] at hF
        refine v_aload_n (i := 0) dX12_unit_50 rfl rfl ?_
        refine g_X12_20 (q := 229) rfl sh_226 (by exact ltG hG (by decide)) (by exact rG hG r0_226_5) dX12_unit_51 ?_
        refine v_aload_n (i := 0) dX12_unit_54 rfl rfl ?_
        refine g_X12_218 rfl sh_226 (by exact ltG hG (by decide)) dX12_unit_55 ?_
        obtain ⟨k11, hF⟩ := ck_some hF
        refine v_iaload sh_229 (by exact ltG hG (by decide)) (ixO k11) dX12_unit_58 ?_
        refine v_bipush (v := 41) dX12_unit_59 (by decide) ?_
        refine v_icmp_gt 88 dX12_unit_61 (by decide) (fun c12 => ?_) (fun c12 => ?_)
        · rw [if_pos c12] at hF
          refine v_aload_n (i := 0) dX12_unit_88 rfl rfl ?_
          refine v_iconst (v := 1) dX12_unit_89 (by decide) ?_
          obtain ⟨q13, q13_e, hF⟩ := Option.bind_eq_some_iff.mp hF
          refine c_X12_230 rfl sh_226 (by exact ltG hG (by decide)) (Nat.le_of_ble_eq_true rfl) dX12_unit_90 (s_X12_fail _ q13_e hG) (fun r1 h1 hq => ?_)
          obtain ⟨rfl, hq, hG⟩ := hq
          replace hq := hq.symm
          subst hq
          simp only [Option.toList, List.nil_append]
          refine v_return rfl dX12_unit_93 ?_
          obtain rfl := Option.some.inj hF
          exact ⟨rfl, rfl, hG⟩
        · rw [if_neg c12] at hF
          refine v_aload_n (i := 0) dX12_unit_64 rfl rfl ?_
          refine v_iconst (v := 1) dX12_unit_65 (by decide) ?_
          refine v_aload_n (i := 0) dX12_unit_66 rfl rfl ?_
          refine g_X12_20 (q := 229) rfl sh_226 (by exact ltG hG (by decide)) (by exact rG hG r0_226_5) dX12_unit_67 ?_
          refine v_aload_n (i := 0) dX12_unit_70 rfl rfl ?_
          refine g_X12_218 rfl sh_226 (by exact ltG hG (by decide)) dX12_unit_71 ?_
          obtain ⟨k15, hF⟩ := ck_some hF
          refine v_iaload sh_229 (by exact ltG hG (by decide)) (ixO k15) dX12_unit_74 ?_
          refine v_bipush (v := 33) dX12_unit_75 (by decide) ?_
          refine v_isub dX12_unit_77 ?_
          obtain ⟨q16, q16_e, hF⟩ := Option.bind_eq_some_iff.mp hF
          refine c_X12_312 rfl sh_226 (by exact ltG hG (by decide)) (Nat.le_of_ble_eq_true rfl) dX12_unit_78 (s_X12_emit _ q16_e hG) (fun r1 h1 hq => ?_)
          obtain ⟨rfl, hq, hG⟩ := hq
          replace hq := hq.symm
          subst hq
          simp only [Option.toList, List.nil_append]
          refine v_aload_n (i := 0) dX12_unit_81 rfl rfl ?_
          obtain ⟨q18, q18_e, hF⟩ := Option.bind_eq_some_iff.mp hF
          refine c_X12_236 rfl sh_226 (by exact ltG hG (by decide)) (Nat.le_of_ble_eq_true rfl) dX12_unit_82 (s_X12_goesOn _ q18_e hG) (fun r1 h1 hq => ?_)
          obtain ⟨rfl, hq, hG⟩ := hq
          replace hq := hq.symm
          subst hq
          simp only [Option.toList, List.nil_append]
          refine v_goto 93 dX12_unit_85 (by decide) ?_
          refine v_return rfl dX12_unit_93 ?_
          obtain rfl := Option.some.inj hF
          exact ⟨rfl, rfl, hG⟩
  · rw [if_neg c3] at hF
    refine v_aload_n (i := 0) dX12_unit_8 rfl rfl ?_
    refine v_iconst (v := 0) dX12_unit_9 (by decide) ?_
    refine v_aload_n (i := 0) dX12_unit_10 rfl rfl ?_
    refine g_X12_27 (q := 231) rfl sh_226 (by exact ltG hG (by decide)) (by exact rG hG r0_226_7) dX12_unit_11 ?_
    refine v_aload_n (i := 0) dX12_unit_14 rfl rfl ?_
    refine g_X12_218 rfl sh_226 (by exact ltG hG (by decide)) dX12_unit_15 ?_
    obtain ⟨k20, hF⟩ := ck_some hF
    refine v_iaload sh_231 (by exact ltG hG (by decide)) (ixO k20) dX12_unit_18 ?_
    obtain ⟨q21, q21_e, hF⟩ := Option.bind_eq_some_iff.mp hF
    refine c_X12_312 rfl sh_226 (by exact ltG hG (by decide)) (Nat.le_of_ble_eq_true rfl) dX12_unit_19 (s_X12_emit _ q21_e hG) (fun r1 h1 hq => ?_)
    obtain ⟨rfl, hq, hG⟩ := hq
    replace hq := hq.symm
    subst hq
    simp only [Option.toList, List.nil_append]
    refine v_aload_n (i := 0) dX12_unit_22 rfl rfl ?_
    obtain ⟨q23, q23_e, hF⟩ := Option.bind_eq_some_iff.mp hF
    refine c_X12_236 rfl sh_226 (by exact ltG hG (by decide)) (Nat.le_of_ble_eq_true rfl) dX12_unit_23 (s_X12_goesOn _ q23_e hG) (fun r1 h1 hq => ?_)
    obtain ⟨rfl, hq, hG⟩ := hq
    replace hq := hq.symm
    subst hq
    simp only [Option.toList, List.nil_append]
    refine v_goto 93 dX12_unit_26 (by decide) ?_
    refine v_return rfl dX12_unit_93 ?_
    obtain rfl := Option.some.inj hF
    exact ⟨rfl, rfl, hG⟩
def F_X12_unlike (n : Nat) (h : Hp) (x1 : Int32) (x2 : Int32) : Option (Int32 × Hp) := (if ixOK (hi h 226 18) 2 = true then (if ixOK (51 + x1) 63 = true then (if (hi h 235 (Int32.toNatClampNeg (hi h 226 18))) = 0 then none else (if ixOK (51 + x2) 63 = true then (if (hi h 235 (Int32.toNatClampNeg (hi h 226 18))) = 0 then none else ((F_X12_off n h ((hi h 262 (Int32.toNatClampNeg (51 + x1))) - (hi h 262 (Int32.toNatClampNeg (51 + x1))) / (hi h 235 (Int32.toNatClampNeg (hi h 226 18))) * (hi h 235 (Int32.toNatClampNeg (hi h 226 18)))) ((hi h 262 (Int32.toNatClampNeg (51 + x2))) - (hi h 262 (Int32.toNatClampNeg (51 + x2))) / (hi h 235 (Int32.toNatClampNeg (hi h 226 18))) * (hi h 235 (Int32.toNatClampNeg (hi h 226 18))))).bind (fun q6 => (if ixOK (51 + x1) 63 = true then (if (hi h 235 (Int32.toNatClampNeg (hi h 226 18))) = 0 then none else (if ixOK (51 + x2) 63 = true then (if (hi h 235 (Int32.toNatClampNeg (hi h 226 18))) = 0 then none else ((F_X12_off n q6.2 ((hi q6.2 262 (Int32.toNatClampNeg (51 + x1))) / (hi h 235 (Int32.toNatClampNeg (hi h 226 18)))) ((hi q6.2 262 (Int32.toNatClampNeg (51 + x2))) / (hi h 235 (Int32.toNatClampNeg (hi h 226 18))))).bind (fun q12 => some ((q6.1 + q12.1), q12.2)))) else none)) else none)))) else none)) else none) else none)
set_option maxRecDepth 100000 in
set_option maxHeartbeats 4000000 in
theorem s_X12_unlike (d : Nat) {n : Nat} {h : Hp} {x1 : Int32} {x2 : Int32} {q0 : (Int32 × Hp)} (hF : F_X12_unlike n h x1 x2 = some q0) (hG : G h)  : Kc mX12_unlike (d + 1) [.ref 226, .int x1, .int x2] h (fun r1 h1 => r1 = some (.int q0.1) ∧ h1 = q0.2 ∧ G q0.2) := by
  obtain ⟨r, h'⟩ := q0
  unfold F_X12_unlike at hF
  refine Kc.of [some (.ref 226), some (.int x1), some (.int x2), none] ok_X12_unlike rfl (Nat.le_of_ble_eq_true rfl) ?_
  refine v_aload_n (i := 0) dX12_unlike_0 rfl rfl ?_
  refine g_X12_43 (q := 235) rfl sh_226 (by exact ltG hG (by decide)) (by exact rG hG r0_226_22) dX12_unlike_1 ?_
  refine v_aload_n (i := 0) dX12_unlike_4 rfl rfl ?_
  refine g_X12_245 rfl sh_226 (by exact ltG hG (by decide)) dX12_unlike_5 ?_
  obtain ⟨k1, hF⟩ := ck_some hF
  refine v_iaload sh_235 (by exact ltG hG (by decide)) (ixO k1) dX12_unlike_8 ?_
  refine v_istore_n (i := 3) dX12_unlike_9 rfl (by decide) (nlT rfl) ?_
  simp only [List.set_cons_zero, List.set_cons_succ]
  refine v_aload_n (i := 0) dX12_unlike_10 rfl rfl ?_
  refine g_X12_125 (q := 262) rfl sh_226 (by exact ltG hG (by decide)) (by exact rG hG r0_226_53) dX12_unlike_11 ?_
  refine v_bipush (v := 51) dX12_unlike_14 (by decide) ?_
  refine v_iload_n (i := 1) dX12_unlike_16 rfl rfl ?_
  refine v_iadd dX12_unlike_17 ?_
  obtain ⟨k2, hF⟩ := ck_some hF
  refine v_iaload sh_262 (by exact ltG hG (by decide)) (ixO k2) dX12_unlike_18 ?_
  refine v_iload_n (i := 3) dX12_unlike_19 rfl rfl ?_
  obtain ⟨k3, hF⟩ := ck_none hF
  refine v_irem dX12_unlike_20 k3 ?_
  refine v_aload_n (i := 0) dX12_unlike_21 rfl rfl ?_
  refine g_X12_125 (q := 262) rfl sh_226 (by exact ltG hG (by decide)) (by exact rG hG r0_226_53) dX12_unlike_22 ?_
  refine v_bipush (v := 51) dX12_unlike_25 (by decide) ?_
  refine v_iload_n (i := 2) dX12_unlike_27 rfl rfl ?_
  refine v_iadd dX12_unlike_28 ?_
  obtain ⟨k4, hF⟩ := ck_some hF
  refine v_iaload sh_262 (by exact ltG hG (by decide)) (ixO k4) dX12_unlike_29 ?_
  refine v_iload_n (i := 3) dX12_unlike_30 rfl rfl ?_
  obtain ⟨k5, hF⟩ := ck_none hF
  refine v_irem dX12_unlike_31 k5 ?_
  obtain ⟨q6, q6_e, hF⟩ := Option.bind_eq_some_iff.mp hF
  refine c_X12_480 rfl (Nat.le_of_ble_eq_true rfl) dX12_unlike_32 (s_X12_off _ q6_e hG) (fun r1 h1 hq => ?_)
  obtain ⟨rfl, hq, hG⟩ := hq
  replace hq := hq.symm
  subst hq
  show V _ _ _ _ (_ :: _) _ _
  refine v_aload_n (i := 0) dX12_unlike_35 rfl rfl ?_
  refine g_X12_125 (q := 262) rfl sh_226 (by exact ltG hG (by decide)) (by exact rG hG r0_226_53) dX12_unlike_36 ?_
  refine v_bipush (v := 51) dX12_unlike_39 (by decide) ?_
  refine v_iload_n (i := 1) dX12_unlike_41 rfl rfl ?_
  refine v_iadd dX12_unlike_42 ?_
  obtain ⟨k8, hF⟩ := ck_some hF
  refine v_iaload sh_262 (by exact ltG hG (by decide)) (ixO k8) dX12_unlike_43 ?_
  refine v_iload_n (i := 3) dX12_unlike_44 rfl rfl ?_
  obtain ⟨k9, hF⟩ := ck_none hF
  refine v_idiv dX12_unlike_45 k9 ?_
  refine v_aload_n (i := 0) dX12_unlike_46 rfl rfl ?_
  refine g_X12_125 (q := 262) rfl sh_226 (by exact ltG hG (by decide)) (by exact rG hG r0_226_53) dX12_unlike_47 ?_
  refine v_bipush (v := 51) dX12_unlike_50 (by decide) ?_
  refine v_iload_n (i := 2) dX12_unlike_52 rfl rfl ?_
  refine v_iadd dX12_unlike_53 ?_
  obtain ⟨k10, hF⟩ := ck_some hF
  refine v_iaload sh_262 (by exact ltG hG (by decide)) (ixO k10) dX12_unlike_54 ?_
  refine v_iload_n (i := 3) dX12_unlike_55 rfl rfl ?_
  obtain ⟨k11, hF⟩ := ck_none hF
  refine v_idiv dX12_unlike_56 k11 ?_
  obtain ⟨q12, q12_e, hF⟩ := Option.bind_eq_some_iff.mp hF
  refine c_X12_480 rfl (Nat.le_of_ble_eq_true rfl) dX12_unlike_57 (s_X12_off _ q12_e hG) (fun r1 h1 hq => ?_)
  obtain ⟨rfl, hq, hG⟩ := hq
  replace hq := hq.symm
  subst hq
  show V _ _ _ _ (_ :: _) _ _
  refine v_iadd dX12_unlike_60 ?_
  refine v_ireturn rfl dX12_unlike_61 ?_
  obtain ⟨rfl, rfl⟩ := Prod.mk.inj (Option.some.inj hF)
  exact ⟨rfl, rfl, hG⟩
def W_X12_whoAt : Nat → Nat → Hp → Int32 → Int32 → Int32 → Option (Int32 × Hp)
  | 0 => fun _ _ _ _ _ => none
  | n + 1 => fun hd h l1 l2 l3 => (if hd = 4 then (if ixOK (hi h 226 18) 2 = true then (if ((hi h 242 (Int32.toNatClampNeg (hi h 226 18))) : Int32) ≤ (l3 : Int32) then some (l2, h) else (if ixOK (51 + l3) 63 = true then (if ((hi h 263 (Int32.toNatClampNeg (51 + l3))) : Int32) = (l1 : Int32) then W_X12_whoAt n 4 h  l1 ((l2 : Int32) ||| (((1 : Int32) <<< ((l3 : Int32) &&& 31)) : Int32)) (l3 + 1) else W_X12_whoAt n 4 h  l1 l2 (l3 + 1)) else none)) else none) else none)
set_option maxRecDepth 100000 in
set_option maxHeartbeats 4000000 in
theorem sw_X12_whoAt (d : Nat)  (n : Nat) : (∀ (l1 : Int32) (l2 : Int32) (l3 : Int32) (h : Hp), ∀ (r : Int32) (h' : Hp), W_X12_whoAt n 4 h  l1 l2 l3 = some (r, h') → G h → V mX12_whoAt (d) 4 [some (.ref 226), some (.int l1), some (.int l2), some (.int l3)] [] h (fun r1 h1 => r1 = some (.int r) ∧ h1 = h' ∧ G h')) := by
  induction n with
  | zero => exact by intros; contradiction
  | succ n ih =>
    have s_X12_whoAt_IH_4 := ih
    intro l1 l2 l3 h r h' hF hG
    unfold W_X12_whoAt at hF
    rw [if_pos rfl] at hF
    refine v_iload_n (i := 3) dX12_whoAt_4 rfl rfl ?_
    refine v_aload_n (i := 0) dX12_whoAt_5 rfl rfl ?_
    refine g_X12_64 (q := 242) rfl sh_226 (by exact ltG hG (by decide)) (by exact rG hG r0_226_29) dX12_whoAt_6 ?_
    refine v_aload_n (i := 0) dX12_whoAt_9 rfl rfl ?_
    refine g_X12_245 rfl sh_226 (by exact ltG hG (by decide)) dX12_whoAt_10 ?_
    obtain ⟨k1, hF⟩ := ck_some hF
    refine v_iaload sh_242 (by exact ltG hG (by decide)) (ixO k1) dX12_whoAt_13 ?_
    refine v_icmp_ge 42 dX12_whoAt_14 (by decide) (fun c2 => ?_) (fun c2 => ?_)
    · rw [if_pos c2] at hF
      refine v_iload_n (i := 2) dX12_whoAt_42 rfl rfl ?_
      refine v_ireturn rfl dX12_whoAt_43 ?_
      obtain ⟨rfl, rfl⟩ := Prod.mk.inj (Option.some.inj hF)
      exact ⟨rfl, rfl, hG⟩
    · rw [if_neg c2] at hF
      refine v_aload_n (i := 0) dX12_whoAt_17 rfl rfl ?_
      refine g_X12_128 (q := 263) rfl sh_226 (by exact ltG hG (by decide)) (by exact rG hG r0_226_54) dX12_whoAt_18 ?_
      refine v_bipush (v := 51) dX12_whoAt_21 (by decide) ?_
      refine v_iload_n (i := 3) dX12_whoAt_23 rfl rfl ?_
      refine v_iadd dX12_whoAt_24 ?_
      obtain ⟨k3, hF⟩ := ck_some hF
      refine v_iaload sh_263 (by exact ltG hG (by decide)) (ixO k3) dX12_whoAt_25 ?_
      refine v_iload_n (i := 1) dX12_whoAt_26 rfl rfl ?_
      refine v_icmp_ne 36 dX12_whoAt_27 (by decide) (fun c4 => ?_) (fun c4 => ?_)
      · rw [if_neg c4] at hF
        refine v_iinc (i := 3) (v := (l3 + 1)) dX12_whoAt_36 rfl rfl (by decide) (nlT rfl) ?_
        simp only [List.set_cons_zero, List.set_cons_succ]
        refine v_goto 4 dX12_whoAt_39 (by decide) ?_
        refine V.weak (la2 := [some (.ref 226), some (.int l1), some (.int l2), some (.int (l3 + 1))]) (by simp [wk]) ?_
        exact (s_X12_whoAt_IH_4) _ _ _ _ _ _ hF hG
      · rw [if_pos c4] at hF
        refine v_iload_n (i := 2) dX12_whoAt_30 rfl rfl ?_
        refine v_iconst (v := 1) dX12_whoAt_31 (by decide) ?_
        refine v_iload_n (i := 3) dX12_whoAt_32 rfl rfl ?_
        refine v_ishl dX12_whoAt_33 ?_
        refine v_ior dX12_whoAt_34 ?_
        refine v_istore_n (i := 2) dX12_whoAt_35 rfl (by decide) (nlT rfl) ?_
        simp only [List.set_cons_zero, List.set_cons_succ]
        refine v_iinc (i := 3) (v := (l3 + 1)) dX12_whoAt_36 rfl rfl (by decide) (nlT rfl) ?_
        simp only [List.set_cons_zero, List.set_cons_succ]
        refine v_goto 4 dX12_whoAt_39 (by decide) ?_
        refine V.weak (la2 := [some (.ref 226), some (.int l1), some (.int ((l2 : Int32) ||| (((1 : Int32) <<< ((l3 : Int32) &&& 31)) : Int32))), some (.int (l3 + 1))]) (by simp [wk]) ?_
        exact (s_X12_whoAt_IH_4) _ _ _ _ _ _ hF hG
def F_X12_whoAt (n : Nat) (h : Hp) (x1 : Int32) : Option (Int32 × Hp) := W_X12_whoAt n 4 h  x1 0 0
set_option maxRecDepth 100000 in
set_option maxHeartbeats 4000000 in
theorem s_X12_whoAt (d : Nat) {n : Nat} {h : Hp} {x1 : Int32} {q0 : (Int32 × Hp)} (hF : F_X12_whoAt n h x1 = some q0) (hG : G h)  : Kc mX12_whoAt (d) [.ref 226, .int x1] h (fun r1 h1 => r1 = some (.int q0.1) ∧ h1 = q0.2 ∧ G q0.2) := by
  obtain ⟨r, h'⟩ := q0
  have s_X12_whoAt_IH_4 := sw_X12_whoAt d   n
  unfold F_X12_whoAt at hF
  refine Kc.of [some (.ref 226), some (.int x1), none, none] ok_X12_whoAt rfl (Nat.le_of_ble_eq_true rfl) ?_
  refine v_iconst (v := 0) dX12_whoAt_0 (by decide) ?_
  refine v_istore_n (i := 2) dX12_whoAt_1 rfl (by decide) (nlT rfl) ?_
  simp only [List.set_cons_zero, List.set_cons_succ]
  refine v_iconst (v := 0) dX12_whoAt_2 (by decide) ?_
  refine v_istore_n (i := 3) dX12_whoAt_3 rfl (by decide) (nlT rfl) ?_
  simp only [List.set_cons_zero, List.set_cons_succ]
  refine V.weak (la2 := [some (.ref 226), some (.int x1), some (.int 0), some (.int 0)]) (by simp [wk]) ?_
  exact (s_X12_whoAt_IH_4) _ _ _ _ _ _ hF hG
def F_X12_within (n : Nat) (h : Hp) (x1 : Int32) (x2 : Int32) (x3 : Int32) : Option (Int32 × Hp) := (if (x2 : Int32) ≤ (x1 : Int32) then (if (x1 : Int32) ≤ (x3 : Int32) then some (x1, h) else some (x3, h)) else some (x2, h))
set_option maxRecDepth 100000 in
set_option maxHeartbeats 4000000 in
theorem s_X12_within (d : Nat) {n : Nat} {h : Hp} {x1 : Int32} {x2 : Int32} {x3 : Int32} {q0 : (Int32 × Hp)} (hF : F_X12_within n h x1 x2 x3 = some q0) (hG : G h)  : Kc mX12_within (d) [.int x1, .int x2, .int x3] h (fun r1 h1 => r1 = some (.int q0.1) ∧ h1 = q0.2 ∧ G q0.2) := by
  obtain ⟨r, h'⟩ := q0
  unfold F_X12_within at hF
  refine Kc.of [some (.int x1), some (.int x2), some (.int x3)] ok_X12_within rfl (Nat.le_of_ble_eq_true rfl) ?_
  refine v_iload_n (i := 0) dX12_within_0 rfl rfl ?_
  refine v_iload_n (i := 1) dX12_within_1 rfl rfl ?_
  refine v_icmp_ge 9 dX12_within_2 (by decide) (fun c1 => ?_) (fun c1 => ?_)
  · rw [if_pos c1] at hF
    refine v_iload_n (i := 0) dX12_within_9 rfl rfl ?_
    refine v_iload_n (i := 2) dX12_within_10 rfl rfl ?_
    refine v_icmp_le 18 dX12_within_11 (by decide) (fun c2 => ?_) (fun c2 => ?_)
    · rw [if_pos c2] at hF
      refine v_iload_n (i := 0) dX12_within_18 rfl rfl ?_
      refine v_ireturn rfl dX12_within_19 ?_
      obtain ⟨rfl, rfl⟩ := Prod.mk.inj (Option.some.inj hF)
      exact ⟨rfl, rfl, hG⟩
    · rw [if_neg c2] at hF
      refine v_iload_n (i := 2) dX12_within_14 rfl rfl ?_
      refine v_goto 19 dX12_within_15 (by decide) ?_
      refine v_ireturn rfl dX12_within_19 ?_
      obtain ⟨rfl, rfl⟩ := Prod.mk.inj (Option.some.inj hF)
      exact ⟨rfl, rfl, hG⟩
  · rw [if_neg c1] at hF
    refine v_iload_n (i := 1) dX12_within_5 rfl rfl ?_
    refine v_goto 19 dX12_within_6 (by decide) ?_
    refine v_ireturn rfl dX12_within_19 ?_
    obtain ⟨rfl, rfl⟩ := Prod.mk.inj (Option.some.inj hF)
    exact ⟨rfl, rfl, hG⟩
def F_X12_wrong (n : Nat) (h : Hp) (x1 : Int32) (x2 : Int32) : Option Hp := (if ixOK x2 403 = true then (if 0 < ((hi h 226 13) : Int32) then some h else (if ((hi h 226 15) : Int32) = 0 then some (wrI (wrI h 226 15 x1) 226 16 (hi h 230 (Int32.toNatClampNeg x2))) else (if ((hi h 226 16) : Int32) < ((hi h 230 (Int32.toNatClampNeg x2)) : Int32) then some h else (if ((hi h 230 (Int32.toNatClampNeg x2)) : Int32) = ((hi h 226 16) : Int32) then (if (x1 : Int32) < ((hi h 226 15) : Int32) then some (wrI (wrI h 226 15 x1) 226 16 (hi h 230 (Int32.toNatClampNeg x2))) else some h) else some (wrI (wrI h 226 15 x1) 226 16 (hi h 230 (Int32.toNatClampNeg x2))))))) else none)
set_option maxRecDepth 100000 in
set_option maxHeartbeats 4000000 in
theorem s_X12_wrong (d : Nat) {n : Nat} {h : Hp} {x1 : Int32} {x2 : Int32} {q0 : Hp} (hF : F_X12_wrong n h x1 x2 = some q0) (hG : G h)  : Kc mX12_wrong (d) [.ref 226, .int x1, .int x2] h (fun r1 h1 => r1 = none ∧ h1 = q0 ∧ G q0) := by
  obtain ⟨h', rfl⟩ : ∃ z, z = q0 := ⟨_, rfl⟩
  unfold F_X12_wrong at hF
  refine Kc.of [some (.ref 226), some (.int x1), some (.int x2), none] ok_X12_wrong rfl (Nat.le_of_ble_eq_true rfl) ?_
  refine v_aload_n (i := 0) dX12_wrong_0 rfl rfl ?_
  refine g_X12_24 (q := 230) rfl sh_226 (by exact ltG hG (by decide)) (by exact rG hG r0_226_6) dX12_wrong_1 ?_
  refine v_iload_n (i := 2) dX12_wrong_4 rfl rfl ?_
  obtain ⟨k1, hF⟩ := ck_some hF
  refine v_iaload sh_230 (by exact ltG hG (by decide)) (ixO k1) dX12_wrong_5 ?_
  refine v_istore_n (i := 3) dX12_wrong_6 rfl (by decide) (nlT rfl) ?_
  simp only [List.set_cons_zero, List.set_cons_succ]
  refine v_aload_n (i := 0) dX12_wrong_7 rfl rfl ?_
  refine g_X12_215 rfl sh_226 (by exact ltG hG (by decide)) dX12_wrong_8 ?_
  refine v_if_gt 45 dX12_wrong_11 (by decide) (fun c2 => ?_) (fun c2 => ?_)
  · rw [if_pos c2] at hF
    refine v_return rfl dX12_wrong_45 ?_
    obtain rfl := Option.some.inj hF
    exact ⟨rfl, rfl, hG⟩
  · rw [if_neg c2] at hF
    refine v_aload_n (i := 0) dX12_wrong_14 rfl rfl ?_
    refine g_X12_224 rfl sh_226 (by exact ltG hG (by decide)) dX12_wrong_15 ?_
    refine v_if_eq 46 dX12_wrong_18 (by decide) (fun c3 => ?_) (fun c3 => ?_)
    · rw [if_pos c3] at hF
      refine v_aload_n (i := 0) dX12_wrong_46 rfl rfl ?_
      refine v_iload_n (i := 1) dX12_wrong_47 rfl rfl ?_
      refine p_X12_224 rfl sh_226 (by exact ltG hG (by decide)) dX12_wrong_48 ?_
      refine v_aload_n (i := 0) dX12_wrong_51 rfl rfl ?_
      refine v_iload_n (i := 3) dX12_wrong_52 rfl rfl ?_
      refine p_X12_227 rfl sh_226 (by exact ltG hG (by decide)) dX12_wrong_53 ?_
      refine v_return rfl dX12_wrong_56 ?_
      obtain rfl := Option.some.inj hF
      exact ⟨rfl, rfl, hG⟩
    · rw [if_neg c3] at hF
      refine v_iload_n (i := 3) dX12_wrong_21 rfl rfl ?_
      refine v_aload_n (i := 0) dX12_wrong_22 rfl rfl ?_
      refine g_X12_227 rfl sh_226 (by exact ltG hG (by decide)) dX12_wrong_23 ?_
      refine v_icmp_gt 45 dX12_wrong_26 (by decide) (fun c4 => ?_) (fun c4 => ?_)
      · rw [if_pos c4] at hF
        refine v_return rfl dX12_wrong_45 ?_
        obtain rfl := Option.some.inj hF
        exact ⟨rfl, rfl, hG⟩
      · rw [if_neg c4] at hF
        refine v_iload_n (i := 3) dX12_wrong_29 rfl rfl ?_
        refine v_aload_n (i := 0) dX12_wrong_30 rfl rfl ?_
        refine g_X12_227 rfl sh_226 (by exact ltG hG (by decide)) dX12_wrong_31 ?_
        refine v_icmp_ne 46 dX12_wrong_34 (by decide) (fun c5 => ?_) (fun c5 => ?_)
        · rw [if_neg c5] at hF
          refine v_aload_n (i := 0) dX12_wrong_46 rfl rfl ?_
          refine v_iload_n (i := 1) dX12_wrong_47 rfl rfl ?_
          refine p_X12_224 rfl sh_226 (by exact ltG hG (by decide)) dX12_wrong_48 ?_
          refine v_aload_n (i := 0) dX12_wrong_51 rfl rfl ?_
          refine v_iload_n (i := 3) dX12_wrong_52 rfl rfl ?_
          refine p_X12_227 rfl sh_226 (by exact ltG hG (by decide)) dX12_wrong_53 ?_
          refine v_return rfl dX12_wrong_56 ?_
          obtain rfl := Option.some.inj hF
          exact ⟨rfl, rfl, hG⟩
        · rw [if_pos c5] at hF
          refine v_iload_n (i := 1) dX12_wrong_37 rfl rfl ?_
          refine v_aload_n (i := 0) dX12_wrong_38 rfl rfl ?_
          refine g_X12_224 rfl sh_226 (by exact ltG hG (by decide)) dX12_wrong_39 ?_
          refine v_icmp_lt 46 dX12_wrong_42 (by decide) (fun c6 => ?_) (fun c6 => ?_)
          · rw [if_pos c6] at hF
            refine v_aload_n (i := 0) dX12_wrong_46 rfl rfl ?_
            refine v_iload_n (i := 1) dX12_wrong_47 rfl rfl ?_
            refine p_X12_224 rfl sh_226 (by exact ltG hG (by decide)) dX12_wrong_48 ?_
            refine v_aload_n (i := 0) dX12_wrong_51 rfl rfl ?_
            refine v_iload_n (i := 3) dX12_wrong_52 rfl rfl ?_
            refine p_X12_227 rfl sh_226 (by exact ltG hG (by decide)) dX12_wrong_53 ?_
            refine v_return rfl dX12_wrong_56 ?_
            obtain rfl := Option.some.inj hF
            exact ⟨rfl, rfl, hG⟩
          · rw [if_neg c6] at hF
            refine v_return rfl dX12_wrong_45 ?_
            obtain rfl := Option.some.inj hF
            exact ⟨rfl, rfl, hG⟩
def F_X1_find (n : Nat) (h : Hp) (x1 : Int32) (x2 : Int32) : Option Hp := (if (x1 : Int32) < 0 then some h else (if (50 : Int32) ≤ (x1 : Int32) then some h else (if ixOK x1 50 = true then (if ((hi h 209 (Int32.toNatClampNeg x1)) : Int32) = ((-1) : Int32) then (if (50 : Int32) ≤ ((hi h 207 4) : Int32) then some h else (if ixOK x1 50 = true then (if ixOK (hi (wrI h 209 (Int32.toNatClampNeg x1) x2) 207 4) 50 = true then some (wrI (wrI (wrI h 209 (Int32.toNatClampNeg x1) x2) 210 (Int32.toNatClampNeg (hi (wrI h 209 (Int32.toNatClampNeg x1) x2) 207 4)) x1) 207 4 ((hi (wrI (wrI h 209 (Int32.toNatClampNeg x1) x2) 210 (Int32.toNatClampNeg (hi (wrI h 209 (Int32.toNatClampNeg x1) x2) 207 4)) x1) 207 4) + 1)) else none) else none)) else some h) else none)))
set_option maxRecDepth 100000 in
set_option maxHeartbeats 4000000 in
theorem s_X1_find (d : Nat) {n : Nat} {h : Hp} {x1 : Int32} {x2 : Int32} {q0 : Hp} (hF : F_X1_find n h x1 x2 = some q0) (hG : G h)  : Kc mX1_find (d) [.ref 207, .int x1, .int x2] h (fun r1 h1 => r1 = none ∧ h1 = q0 ∧ G q0) := by
  obtain ⟨h', rfl⟩ : ∃ z, z = q0 := ⟨_, rfl⟩
  unfold F_X1_find at hF
  refine Kc.of [some (.ref 207), some (.int x1), some (.int x2)] ok_X1_find rfl (Nat.le_of_ble_eq_true rfl) ?_
  refine v_iload_n (i := 1) dX1_find_0 rfl rfl ?_
  refine v_if_lt 56 dX1_find_1 (by decide) (fun c1 => ?_) (fun c1 => ?_)
  · rw [if_pos c1] at hF
    refine v_return rfl dX1_find_56 ?_
    obtain rfl := Option.some.inj hF
    exact ⟨rfl, rfl, hG⟩
  · rw [if_neg c1] at hF
    refine v_iload_n (i := 1) dX1_find_4 rfl rfl ?_
    refine v_bipush (v := 50) dX1_find_5 (by decide) ?_
    refine v_icmp_ge 56 dX1_find_7 (by decide) (fun c2 => ?_) (fun c2 => ?_)
    · rw [if_pos c2] at hF
      refine v_return rfl dX1_find_56 ?_
      obtain rfl := Option.some.inj hF
      exact ⟨rfl, rfl, hG⟩
    · rw [if_neg c2] at hF
      refine v_aload_n (i := 0) dX1_find_10 rfl rfl ?_
      refine g_X1_15 (q := 209) rfl sh_207 (by exact ltG hG (by decide)) (by exact rG hG r0_207_2) dX1_find_11 ?_
      refine v_iload_n (i := 1) dX1_find_14 rfl rfl ?_
      obtain ⟨k3, hF⟩ := ck_some hF
      refine v_iaload sh_209 (by exact ltG hG (by decide)) (ixO k3) dX1_find_15 ?_
      refine v_iconst (v := (-1)) dX1_find_16 (by decide) ?_
      refine v_icmp_ne 56 dX1_find_17 (by decide) (fun c4 => ?_) (fun c4 => ?_)
      · rw [if_neg c4] at hF
        refine v_return rfl dX1_find_56 ?_
        obtain rfl := Option.some.inj hF
        exact ⟨rfl, rfl, hG⟩
      · rw [if_pos c4] at hF
        refine v_aload_n (i := 0) dX1_find_20 rfl rfl ?_
        refine g_X1_21 rfl sh_207 (by exact ltG hG (by decide)) dX1_find_21 ?_
        refine v_bipush (v := 50) dX1_find_24 (by decide) ?_
        refine v_icmp_ge 56 dX1_find_26 (by decide) (fun c5 => ?_) (fun c5 => ?_)
        · rw [if_pos c5] at hF
          refine v_return rfl dX1_find_56 ?_
          obtain rfl := Option.some.inj hF
          exact ⟨rfl, rfl, hG⟩
        · rw [if_neg c5] at hF
          refine v_aload_n (i := 0) dX1_find_29 rfl rfl ?_
          refine g_X1_15 (q := 209) rfl sh_207 (by exact ltG hG (by decide)) (by exact rG hG r0_207_2) dX1_find_30 ?_
          refine v_iload_n (i := 1) dX1_find_33 rfl rfl ?_
          refine v_iload_n (i := 2) dX1_find_34 rfl rfl ?_
          obtain ⟨k6, hF⟩ := ck_some hF
          refine v_iastore sh_209 (by exact ltG hG (by decide)) (ixO k6) dX1_find_35 ?_
          refine v_aload_n (i := 0) dX1_find_36 rfl rfl ?_
          refine g_X1_18 (q := 210) rfl sh_207 (by exact ltG hG (by decide)) (by exact rG hG r0_207_3) dX1_find_37 ?_
          refine v_aload_n (i := 0) dX1_find_40 rfl rfl ?_
          refine g_X1_21 rfl sh_207 (by exact ltG hG (by decide)) dX1_find_41 ?_
          refine v_iload_n (i := 1) dX1_find_44 rfl rfl ?_
          obtain ⟨k7, hF⟩ := ck_some hF
          refine v_iastore sh_210 (by exact ltG hG (by decide)) (ixO k7) dX1_find_45 ?_
          refine v_aload_n (i := 0) dX1_find_46 rfl rfl ?_
          refine v_dup dX1_find_47 rfl ?_
          refine g_X1_21 rfl sh_207 (by exact ltG hG (by decide)) dX1_find_48 ?_
          refine v_iconst (v := 1) dX1_find_51 (by decide) ?_
          refine v_iadd dX1_find_52 ?_
          refine p_X1_21 rfl sh_207 (by exact ltG hG (by decide)) dX1_find_53 ?_
          refine v_return rfl dX1_find_56 ?_
          obtain rfl := Option.some.inj hF
          exact ⟨rfl, rfl, hG⟩
def W_X1_layWay : Nat → Nat → Hp → Int32 → Int32 → Int32 → Int32 → Option Hp
  | 0 => fun _ _ _ _ _ _ => none
  | n + 1 => fun hd h l1 l2 l3 l4 => (if hd = 7 then (if (50 : Int32) ≤ (l4 : Int32) then some h else (if (l3 : Int32) = (((2 * l1) + 1) : Int32) then some h else (if ixOK l3 50 = true then (if 0 ≤ ((hi h 209 (Int32.toNatClampNeg l3)) : Int32) then (if (((l3 : Int32) &&& (1 : Int32)) : Int32) = 0 then (if (((l3 : Int32) >>> ((1 : Int32) &&& 31)) : Int32) = (l2 : Int32) then W_X1_layWay n 7 h  l1 l2 (hi h 209 (Int32.toNatClampNeg l3)) (l4 + 1) else (if ((((hi h 209 (Int32.toNatClampNeg l3)) : Int32) >>> ((1 : Int32) &&& 31)) : Int32) = (((l3 : Int32) >>> ((1 : Int32) &&& 31)) : Int32) then (if ixOK ((l3 : Int32) >>> ((1 : Int32) &&& 31)) 25 = true then W_X1_layWay n 7 (wrI h 208 (Int32.toNatClampNeg ((l3 : Int32) >>> ((1 : Int32) &&& 31))) (-1))  l1 l2 (hi h 209 (Int32.toNatClampNeg l3)) (l4 + 1) else none) else (if ixOK ((l3 : Int32) >>> ((1 : Int32) &&& 31)) 25 = true then W_X1_layWay n 7 (wrI h 208 (Int32.toNatClampNeg ((l3 : Int32) >>> ((1 : Int32) &&& 31))) (((hi h 209 (Int32.toNatClampNeg l3)) : Int32) >>> ((1 : Int32) &&& 31)))  l1 l2 (hi h 209 (Int32.toNatClampNeg l3)) (l4 + 1) else none))) else W_X1_layWay n 7 h  l1 l2 (hi h 209 (Int32.toNatClampNeg l3)) (l4 + 1)) else some h) else none))) else none)
set_option maxRecDepth 100000 in
set_option maxHeartbeats 4000000 in
theorem sw_X1_layWay (d : Nat)  (n : Nat) : (∀ (l1 : Int32) (l2 : Int32) (l3 : Int32) (l4 : Int32) (h : Hp), ∀ (h' : Hp), W_X1_layWay n 7 h  l1 l2 l3 l4 = some h' → G h → V mX1_layWay (d) 7 [some (.ref 207), some (.int l1), some (.int l2), some (.int l3), some (.int l4), none, none] [] h (fun r1 h1 => r1 = none ∧ h1 = h' ∧ G h')) := by
  induction n with
  | zero => exact by intros; contradiction
  | succ n ih =>
    have s_X1_layWay_IH_7 := ih
    intro l1 l2 l3 l4 h h' hF hG
    unfold W_X1_layWay at hF
    rw [if_pos rfl] at hF
    refine v_iload (i := 4) dX1_layWay_7 rfl ?_
    refine v_bipush (v := 50) dX1_layWay_9 (by decide) ?_
    refine v_icmp_ge 87 dX1_layWay_11 (by decide) (fun c1 => ?_) (fun c1 => ?_)
    · rw [if_pos c1] at hF
      refine v_return rfl dX1_layWay_87 ?_
      obtain rfl := Option.some.inj hF
      exact ⟨rfl, rfl, hG⟩
    · rw [if_neg c1] at hF
      refine v_iload_n (i := 3) dX1_layWay_14 rfl rfl ?_
      refine v_iconst (v := 2) dX1_layWay_15 (by decide) ?_
      refine v_iload_n (i := 1) dX1_layWay_16 rfl rfl ?_
      refine v_imul dX1_layWay_17 ?_
      refine v_iconst (v := 1) dX1_layWay_18 (by decide) ?_
      refine v_iadd dX1_layWay_19 ?_
      refine v_icmp_eq 87 dX1_layWay_20 (by decide) (fun c2 => ?_) (fun c2 => ?_)
      · rw [if_pos c2] at hF
        refine v_return rfl dX1_layWay_87 ?_
        obtain rfl := Option.some.inj hF
        exact ⟨rfl, rfl, hG⟩
      · rw [if_neg c2] at hF
        refine v_aload_n (i := 0) dX1_layWay_23 rfl rfl ?_
        refine g_X1_15 (q := 209) rfl sh_207 (by exact ltG hG (by decide)) (by exact rG hG r0_207_2) dX1_layWay_24 ?_
        refine v_iload_n (i := 3) dX1_layWay_27 rfl rfl ?_
        obtain ⟨k3, hF⟩ := ck_some hF
        refine v_iaload sh_209 (by exact ltG hG (by decide)) (ixO k3) dX1_layWay_28 ?_
        refine v_istore (i := 5) dX1_layWay_29 (by decide) (nlT rfl) ?_
        simp only [List.set_cons_zero, List.set_cons_succ]
        refine v_iload (i := 5) dX1_layWay_31 rfl ?_
        refine v_if_ge 37 dX1_layWay_33 (by decide) (fun c4 => ?_) (fun c4 => ?_)
        · rw [if_pos c4] at hF
          refine v_iload_n (i := 3) dX1_layWay_37 rfl rfl ?_
          refine v_iconst (v := 1) dX1_layWay_38 (by decide) ?_
          refine v_ishr dX1_layWay_39 ?_
          refine v_istore (i := 6) dX1_layWay_40 (by decide) (nlT rfl) ?_
          simp only [List.set_cons_zero, List.set_cons_succ]
          refine v_iload_n (i := 3) dX1_layWay_42 rfl rfl ?_
          refine v_iconst (v := 1) dX1_layWay_43 (by decide) ?_
          refine v_iand dX1_layWay_44 ?_
          refine v_if_ne 78 dX1_layWay_45 (by decide) (fun c5 => ?_) (fun c5 => ?_)
          · rw [if_neg c5] at hF
            refine v_iload (i := 5) dX1_layWay_78 rfl ?_
            refine v_istore_n (i := 3) dX1_layWay_80 rfl (by decide) (nlT rfl) ?_
            simp only [List.set_cons_zero, List.set_cons_succ]
            refine v_iinc (i := 4) (v := (l4 + 1)) dX1_layWay_81 rfl rfl (by decide) (nlT rfl) ?_
            simp only [List.set_cons_zero, List.set_cons_succ]
            refine v_goto 7 dX1_layWay_84 (by decide) ?_
            refine V.weak (la2 := [some (.ref 207), some (.int l1), some (.int l2), some (.int (hi h 209 (Int32.toNatClampNeg l3))), some (.int (l4 + 1)), none, none]) (by simp [wk]) ?_
            exact (s_X1_layWay_IH_7) _ _ _ _ _ _ hF hG
          · rw [if_pos c5] at hF
            refine v_iload (i := 6) dX1_layWay_48 rfl ?_
            refine v_iload_n (i := 2) dX1_layWay_50 rfl rfl ?_
            refine v_icmp_eq 78 dX1_layWay_51 (by decide) (fun c6 => ?_) (fun c6 => ?_)
            · rw [if_pos c6] at hF
              refine v_iload (i := 5) dX1_layWay_78 rfl ?_
              refine v_istore_n (i := 3) dX1_layWay_80 rfl (by decide) (nlT rfl) ?_
              simp only [List.set_cons_zero, List.set_cons_succ]
              refine v_iinc (i := 4) (v := (l4 + 1)) dX1_layWay_81 rfl rfl (by decide) (nlT rfl) ?_
              simp only [List.set_cons_zero, List.set_cons_succ]
              refine v_goto 7 dX1_layWay_84 (by decide) ?_
              refine V.weak (la2 := [some (.ref 207), some (.int l1), some (.int l2), some (.int (hi h 209 (Int32.toNatClampNeg l3))), some (.int (l4 + 1)), none, none]) (by simp [wk]) ?_
              exact (s_X1_layWay_IH_7) _ _ _ _ _ _ hF hG
            · rw [if_neg c6] at hF
              refine v_aload_n (i := 0) dX1_layWay_54 rfl rfl ?_
              refine g_X1_9 (q := 208) rfl sh_207 (by exact ltG hG (by decide)) (by exact rG hG r0_207_1) dX1_layWay_55 ?_
              refine v_iload (i := 6) dX1_layWay_58 rfl ?_
              refine v_iload (i := 5) dX1_layWay_60 rfl ?_
              refine v_iconst (v := 1) dX1_layWay_62 (by decide) ?_
              refine v_ishr dX1_layWay_63 ?_
              refine v_iload (i := 6) dX1_layWay_64 rfl ?_
              refine v_icmp_ne 73 dX1_layWay_66 (by decide) (fun c7 => ?_) (fun c7 => ?_)
              · rw [if_neg c7] at hF
                refine v_iload (i := 5) dX1_layWay_73 rfl ?_
                refine v_iconst (v := 1) dX1_layWay_75 (by decide) ?_
                refine v_ishr dX1_layWay_76 ?_
                obtain ⟨k8, hF⟩ := ck_some hF
                refine v_iastore sh_208 (by exact ltG hG (by decide)) (ixO k8) dX1_layWay_77 ?_
                refine v_iload (i := 5) dX1_layWay_78 rfl ?_
                refine v_istore_n (i := 3) dX1_layWay_80 rfl (by decide) (nlT rfl) ?_
                simp only [List.set_cons_zero, List.set_cons_succ]
                refine v_iinc (i := 4) (v := (l4 + 1)) dX1_layWay_81 rfl rfl (by decide) (nlT rfl) ?_
                simp only [List.set_cons_zero, List.set_cons_succ]
                refine v_goto 7 dX1_layWay_84 (by decide) ?_
                refine V.weak (la2 := [some (.ref 207), some (.int l1), some (.int l2), some (.int (hi h 209 (Int32.toNatClampNeg l3))), some (.int (l4 + 1)), none, none]) (by simp [wk]) ?_
                exact (s_X1_layWay_IH_7) _ _ _ _ _ _ hF hG
              · rw [if_pos c7] at hF
                refine v_iconst (v := (-1)) dX1_layWay_69 (by decide) ?_
                refine v_goto 77 dX1_layWay_70 (by decide) ?_
                obtain ⟨k9, hF⟩ := ck_some hF
                refine v_iastore sh_208 (by exact ltG hG (by decide)) (ixO k9) dX1_layWay_77 ?_
                refine v_iload (i := 5) dX1_layWay_78 rfl ?_
                refine v_istore_n (i := 3) dX1_layWay_80 rfl (by decide) (nlT rfl) ?_
                simp only [List.set_cons_zero, List.set_cons_succ]
                refine v_iinc (i := 4) (v := (l4 + 1)) dX1_layWay_81 rfl rfl (by decide) (nlT rfl) ?_
                simp only [List.set_cons_zero, List.set_cons_succ]
                refine v_goto 7 dX1_layWay_84 (by decide) ?_
                refine V.weak (la2 := [some (.ref 207), some (.int l1), some (.int l2), some (.int (hi h 209 (Int32.toNatClampNeg l3))), some (.int (l4 + 1)), none, none]) (by simp [wk]) ?_
                exact (s_X1_layWay_IH_7) _ _ _ _ _ _ hF hG
        · rw [if_neg c4] at hF
          refine v_return rfl dX1_layWay_36 ?_
          obtain rfl := Option.some.inj hF
          exact ⟨rfl, rfl, hG⟩
def F_X1_layWay (n : Nat) (h : Hp) (x1 : Int32) (x2 : Int32) : Option Hp := W_X1_layWay n 7 h  x1 x2 (2 * x2) 0
set_option maxRecDepth 100000 in
set_option maxHeartbeats 4000000 in
theorem s_X1_layWay (d : Nat) {n : Nat} {h : Hp} {x1 : Int32} {x2 : Int32} {q0 : Hp} (hF : F_X1_layWay n h x1 x2 = some q0) (hG : G h)  : Kc mX1_layWay (d) [.ref 207, .int x1, .int x2] h (fun r1 h1 => r1 = none ∧ h1 = q0 ∧ G q0) := by
  obtain ⟨h', rfl⟩ : ∃ z, z = q0 := ⟨_, rfl⟩
  have s_X1_layWay_IH_7 := sw_X1_layWay d   n
  unfold F_X1_layWay at hF
  refine Kc.of [some (.ref 207), some (.int x1), some (.int x2), none, none, none, none] ok_X1_layWay rfl (Nat.le_of_ble_eq_true rfl) ?_
  refine v_iconst (v := 2) dX1_layWay_0 (by decide) ?_
  refine v_iload_n (i := 2) dX1_layWay_1 rfl rfl ?_
  refine v_imul dX1_layWay_2 ?_
  refine v_istore_n (i := 3) dX1_layWay_3 rfl (by decide) (nlT rfl) ?_
  simp only [List.set_cons_zero, List.set_cons_succ]
  refine v_iconst (v := 0) dX1_layWay_4 (by decide) ?_
  refine v_istore (i := 4) dX1_layWay_5 (by decide) (nlT rfl) ?_
  simp only [List.set_cons_zero, List.set_cons_succ]
  refine V.weak (la2 := [some (.ref 207), some (.int x1), some (.int x2), some (.int (2 * x2)), some (.int 0), none, none]) (by simp [wk]) ?_
  exact (s_X1_layWay_IH_7) _ _ _ _ _ _ hF hG
