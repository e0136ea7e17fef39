def W_J7_fill_5 : Nat → Nat → Hp → Nat → Int32 → Int32 → Int32 → Option Hp
  | 0 => fun _ _ _ _ _ _ => none
  | n + 1 => fun hd h b1 l1 l2 l3 => (if hd = 5 then (if (l3 : Int32) ≤ (l2 : Int32) then some h else (if ixOK l2 5 = true then W_J7_fill_5 n 5 (wrI h b1 (Int32.toNatClampNeg l2) l1) b1 l1 (l2 + 1) l3 else none)) else none)
set_option maxRecDepth 100000 in
set_option maxHeartbeats 4000000 in
theorem sw_J7_fill_5 (d : Nat) (b1 : Nat) (ht1 : ArI 5 b1) (n : Nat) : (∀ (l1 : Int32) (l2 : Int32) (l3 : Int32) (h : Hp), ∀ (h' : Hp), W_J7_fill_5 n 5 h b1 l1 l2 l3 = some h' → G h → V mJ7_fill_53178 (d) 5 [some (.ref b1), some (.int l1), some (.int l2), some (.int l3)] [] h (fun r1 h1 => r1 = none ∧ h1 = h' ∧ G h')) := by
  obtain ⟨t10, t14⟩ := id ht1
  induction n with
  | zero => exact by intros; contradiction
  | succ n ih =>
    have s_J7_fill_5_IH_5 := ih
    intro l1 l2 l3 h h' hF hG
    unfold W_J7_fill_5 at hF
    rw [if_pos rfl] at hF
    refine v_iload_n (i := 2) dJ7_fill_53178_5 rfl rfl ?_
    refine v_iload_n (i := 3) dJ7_fill_53178_6 rfl rfl ?_
    refine v_icmp_ge 20 dJ7_fill_53178_7 (by decide) (fun c1 => ?_) (fun c1 => ?_)
    · rw [if_pos c1] at hF
      refine v_return rfl dJ7_fill_53178_20 ?_
      obtain rfl := Option.some.inj hF
      exact ⟨rfl, rfl, hG⟩
    · rw [if_neg c1] at hF
      refine v_aload_n (i := 0) dJ7_fill_53178_10 rfl rfl ?_
      refine v_iload_n (i := 2) dJ7_fill_53178_11 rfl rfl ?_
      refine v_iload_n (i := 1) dJ7_fill_53178_12 rfl rfl ?_
      obtain ⟨k2, hF⟩ := ck_some hF
      refine v_iastore t10 (by exact ltG hG (by omega)) (ixO k2) dJ7_fill_53178_13 ?_
      refine v_iinc (i := 2) (v := (l2 + 1)) dJ7_fill_53178_14 rfl rfl (by decide) (nlT rfl) ?_
      simp only [List.set_cons_zero, List.set_cons_succ]
      refine v_goto 5 dJ7_fill_53178_17 (by decide) ?_
      refine V.weak (la2 := [some (.ref b1), some (.int l1), some (.int (l2 + 1)), some (.int l3)]) (by simp [wk]) ?_
      exact (s_J7_fill_5_IH_5) _ _ _ _ _ hF hG
def F_J7_fill_5 (n : Nat) (h : Hp) (b1 : Nat) (x2 : Int32) : Option Hp := W_J7_fill_5 n 5 h b1 x2 0 5
set_option maxRecDepth 100000 in
set_option maxHeartbeats 4000000 in
theorem s_J7_fill_5 (d : Nat) {n : Nat} {h : Hp} {b1 : Nat} {x2 : Int32} {q0 : Hp} (hF : F_J7_fill_5 n h b1 x2 = some q0) (hG : G h) (ht1 : ArI 5 b1) : Kc mJ7_fill_53178 (d) [.ref b1, .int x2] h (fun r1 h1 => r1 = none ∧ h1 = q0 ∧ G q0) := by
  obtain ⟨t10, t14⟩ := id ht1
  obtain ⟨h', rfl⟩ : ∃ z, z = q0 := ⟨_, rfl⟩
  have s_J7_fill_5_IH_5 := sw_J7_fill_5 d b1 ht1 n
  unfold F_J7_fill_5 at hF
  refine Kc.of [some (.ref b1), some (.int x2), none, none] ok_J7_fill_53178 rfl (Nat.le_of_ble_eq_true rfl) ?_
  refine v_iconst (v := 0) dJ7_fill_53178_0 (by decide) ?_
  refine v_istore_n (i := 2) dJ7_fill_53178_1 rfl (by decide) (nlT rfl) ?_
  simp only [List.set_cons_zero, List.set_cons_succ]
  refine v_aload_n (i := 0) dJ7_fill_53178_2 rfl rfl ?_
  refine v_alen (v := 5) t10 (by exact ltG hG (by omega)) 0 (fun _ => rfl) rfl dJ7_fill_53178_3 ?_
  refine v_istore_n (i := 3) dJ7_fill_53178_4 rfl (by decide) (nlT rfl) ?_
  simp only [List.set_cons_zero, List.set_cons_succ]
  refine V.weak (la2 := [some (.ref b1), some (.int x2), some (.int 0), some (.int 5)]) (by simp [wk]) ?_
  exact (s_J7_fill_5_IH_5) _ _ _ _ _ hF hG
def W_J7_fill_25 : Nat → Nat → Hp → Nat → Int32 → Int32 → Int32 → Option Hp
  | 0 => fun _ _ _ _ _ _ => none
  | n + 1 => fun hd h b1 l1 l2 l3 => (if hd = 5 then (if (l3 : Int32) ≤ (l2 : Int32) then some h else (if ixOK l2 25 = true then W_J7_fill_25 n 5 (wrI h b1 (Int32.toNatClampNeg l2) l1) b1 l1 (l2 + 1) l3 else none)) else none)
set_option maxRecDepth 100000 in
set_option maxHeartbeats 4000000 in
theorem sw_J7_fill_25 (d : Nat) (b1 : Nat) (ht1 : ArI 25 b1) (n : Nat) : (∀ (l1 : Int32) (l2 : Int32) (l3 : Int32) (h : Hp), ∀ (h' : Hp), W_J7_fill_25 n 5 h b1 l1 l2 l3 = some h' → G h → V mJ7_fill_53178 (d) 5 [some (.ref b1), some (.int l1), some (.int l2), some (.int l3)] [] h (fun r1 h1 => r1 = none ∧ h1 = h' ∧ G h')) := by
  obtain ⟨t10, t14⟩ := id ht1
  induction n with
  | zero => exact by intros; contradiction
  | succ n ih =>
    have s_J7_fill_25_IH_5 := ih
    intro l1 l2 l3 h h' hF hG
    unfold W_J7_fill_25 at hF
    rw [if_pos rfl] at hF
    refine v_iload_n (i := 2) dJ7_fill_53178_5 rfl rfl ?_
    refine v_iload_n (i := 3) dJ7_fill_53178_6 rfl rfl ?_
    refine v_icmp_ge 20 dJ7_fill_53178_7 (by decide) (fun c1 => ?_) (fun c1 => ?_)
    · rw [if_pos c1] at hF
      refine v_return rfl dJ7_fill_53178_20 ?_
      obtain rfl := Option.some.inj hF
      exact ⟨rfl, rfl, hG⟩
    · rw [if_neg c1] at hF
      refine v_aload_n (i := 0) dJ7_fill_53178_10 rfl rfl ?_
      refine v_iload_n (i := 2) dJ7_fill_53178_11 rfl rfl ?_
      refine v_iload_n (i := 1) dJ7_fill_53178_12 rfl rfl ?_
      obtain ⟨k2, hF⟩ := ck_some hF
      refine v_iastore t10 (by exact ltG hG (by omega)) (ixO k2) dJ7_fill_53178_13 ?_
      refine v_iinc (i := 2) (v := (l2 + 1)) dJ7_fill_53178_14 rfl rfl (by decide) (nlT rfl) ?_
      simp only [List.set_cons_zero, List.set_cons_succ]
      refine v_goto 5 dJ7_fill_53178_17 (by decide) ?_
      refine V.weak (la2 := [some (.ref b1), some (.int l1), some (.int (l2 + 1)), some (.int l3)]) (by simp [wk]) ?_
      exact (s_J7_fill_25_IH_5) _ _ _ _ _ hF hG
def F_J7_fill_25 (n : Nat) (h : Hp) (b1 : Nat) (x2 : Int32) : Option Hp := W_J7_fill_25 n 5 h b1 x2 0 25
set_option maxRecDepth 100000 in
set_option maxHeartbeats 4000000 in
theorem s_J7_fill_25 (d : Nat) {n : Nat} {h : Hp} {b1 : Nat} {x2 : Int32} {q0 : Hp} (hF : F_J7_fill_25 n h b1 x2 = some q0) (hG : G h) (ht1 : ArI 25 b1) : Kc mJ7_fill_53178 (d) [.ref b1, .int x2] h (fun r1 h1 => r1 = none ∧ h1 = q0 ∧ G q0) := by
  obtain ⟨t10, t14⟩ := id ht1
  obtain ⟨h', rfl⟩ : ∃ z, z = q0 := ⟨_, rfl⟩
  have s_J7_fill_25_IH_5 := sw_J7_fill_25 d b1 ht1 n
  unfold F_J7_fill_25 at hF
  refine Kc.of [some (.ref b1), some (.int x2), none, none] ok_J7_fill_53178 rfl (Nat.le_of_ble_eq_true rfl) ?_
  refine v_iconst (v := 0) dJ7_fill_53178_0 (by decide) ?_
  refine v_istore_n (i := 2) dJ7_fill_53178_1 rfl (by decide) (nlT rfl) ?_
  simp only [List.set_cons_zero, List.set_cons_succ]
  refine v_aload_n (i := 0) dJ7_fill_53178_2 rfl rfl ?_
  refine v_alen (v := 25) t10 (by exact ltG hG (by omega)) 0 (fun _ => rfl) rfl dJ7_fill_53178_3 ?_
  refine v_istore_n (i := 3) dJ7_fill_53178_4 rfl (by decide) (nlT rfl) ?_
  simp only [List.set_cons_zero, List.set_cons_succ]
  refine V.weak (la2 := [some (.ref b1), some (.int x2), some (.int 0), some (.int 25)]) (by simp [wk]) ?_
  exact (s_J7_fill_25_IH_5) _ _ _ _ _ hF hG
def W_J7_fill_50 : Nat → Nat → Hp → Nat → Int32 → Int32 → Int32 → Option Hp
  | 0 => fun _ _ _ _ _ _ => none
  | n + 1 => fun hd h b1 l1 l2 l3 => (if hd = 5 then (if (l3 : Int32) ≤ (l2 : Int32) then some h else (if ixOK l2 50 = true then W_J7_fill_50 n 5 (wrI h b1 (Int32.toNatClampNeg l2) l1) b1 l1 (l2 + 1) l3 else none)) else none)
set_option maxRecDepth 100000 in
set_option maxHeartbeats 4000000 in
theorem sw_J7_fill_50 (d : Nat) (b1 : Nat) (ht1 : ArI 50 b1) (n : Nat) : (∀ (l1 : Int32) (l2 : Int32) (l3 : Int32) (h : Hp), ∀ (h' : Hp), W_J7_fill_50 n 5 h b1 l1 l2 l3 = some h' → G h → V mJ7_fill_53178 (d) 5 [some (.ref b1), some (.int l1), some (.int l2), some (.int l3)] [] h (fun r1 h1 => r1 = none ∧ h1 = h' ∧ G h')) := by
  obtain ⟨t10, t14⟩ := id ht1
  induction n with
  | zero => exact by intros; contradiction
  | succ n ih =>
    have s_J7_fill_50_IH_5 := ih
    intro l1 l2 l3 h h' hF hG
    unfold W_J7_fill_50 at hF
    rw [if_pos rfl] at hF
    refine v_iload_n (i := 2) dJ7_fill_53178_5 rfl rfl ?_
    refine v_iload_n (i := 3) dJ7_fill_53178_6 rfl rfl ?_
    refine v_icmp_ge 20 dJ7_fill_53178_7 (by decide) (fun c1 => ?_) (fun c1 => ?_)
    · rw [if_pos c1] at hF
      refine v_return rfl dJ7_fill_53178_20 ?_
      obtain rfl := Option.some.inj hF
      exact ⟨rfl, rfl, hG⟩
    · rw [if_neg c1] at hF
      refine v_aload_n (i := 0) dJ7_fill_53178_10 rfl rfl ?_
      refine v_iload_n (i := 2) dJ7_fill_53178_11 rfl rfl ?_
      refine v_iload_n (i := 1) dJ7_fill_53178_12 rfl rfl ?_
      obtain ⟨k2, hF⟩ := ck_some hF
      refine v_iastore t10 (by exact ltG hG (by omega)) (ixO k2) dJ7_fill_53178_13 ?_
      refine v_iinc (i := 2) (v := (l2 + 1)) dJ7_fill_53178_14 rfl rfl (by decide) (nlT rfl) ?_
      simp only [List.set_cons_zero, List.set_cons_succ]
      refine v_goto 5 dJ7_fill_53178_17 (by decide) ?_
      refine V.weak (la2 := [some (.ref b1), some (.int l1), some (.int (l2 + 1)), some (.int l3)]) (by simp [wk]) ?_
      exact (s_J7_fill_50_IH_5) _ _ _ _ _ hF hG
def F_J7_fill_50 (n : Nat) (h : Hp) (b1 : Nat) (x2 : Int32) : Option Hp := W_J7_fill_50 n 5 h b1 x2 0 50
set_option maxRecDepth 100000 in
set_option maxHeartbeats 4000000 in
theorem s_J7_fill_50 (d : Nat) {n : Nat} {h : Hp} {b1 : Nat} {x2 : Int32} {q0 : Hp} (hF : F_J7_fill_50 n h b1 x2 = some q0) (hG : G h) (ht1 : ArI 50 b1) : Kc mJ7_fill_53178 (d) [.ref b1, .int x2] h (fun r1 h1 => r1 = none ∧ h1 = q0 ∧ G q0) := by
  obtain ⟨t10, t14⟩ := id ht1
  obtain ⟨h', rfl⟩ : ∃ z, z = q0 := ⟨_, rfl⟩
  have s_J7_fill_50_IH_5 := sw_J7_fill_50 d b1 ht1 n
  unfold F_J7_fill_50 at hF
  refine Kc.of [some (.ref b1), some (.int x2), none, none] ok_J7_fill_53178 rfl (Nat.le_of_ble_eq_true rfl) ?_
  refine v_iconst (v := 0) dJ7_fill_53178_0 (by decide) ?_
  refine v_istore_n (i := 2) dJ7_fill_53178_1 rfl (by decide) (nlT rfl) ?_
  simp only [List.set_cons_zero, List.set_cons_succ]
  refine v_aload_n (i := 0) dJ7_fill_53178_2 rfl rfl ?_
  refine v_alen (v := 50) t10 (by exact ltG hG (by omega)) 0 (fun _ => rfl) rfl dJ7_fill_53178_3 ?_
  refine v_istore_n (i := 3) dJ7_fill_53178_4 rfl (by decide) (nlT rfl) ?_
  simp only [List.set_cons_zero, List.set_cons_succ]
  refine V.weak (la2 := [some (.ref b1), some (.int x2), some (.int 0), some (.int 50)]) (by simp [wk]) ?_
  exact (s_J7_fill_50_IH_5) _ _ _ _ _ hF hG
def W_J7_fill_60 : Nat → Nat → Hp → Nat → Int32 → Int32 → Int32 → Option Hp
  | 0 => fun _ _ _ _ _ _ => none
  | n + 1 => fun hd h b1 l1 l2 l3 => (if hd = 5 then (if (l3 : Int32) ≤ (l2 : Int32) then some h else (if ixOK l2 60 = true then W_J7_fill_60 n 5 (wrI h b1 (Int32.toNatClampNeg l2) l1) b1 l1 (l2 + 1) l3 else none)) else none)
set_option maxRecDepth 100000 in
set_option maxHeartbeats 4000000 in
theorem sw_J7_fill_60 (d : Nat) (b1 : Nat) (ht1 : ArI 60 b1) (n : Nat) : (∀ (l1 : Int32) (l2 : Int32) (l3 : Int32) (h : Hp), ∀ (h' : Hp), W_J7_fill_60 n 5 h b1 l1 l2 l3 = some h' → G h → V mJ7_fill_53178 (d) 5 [some (.ref b1), some (.int l1), some (.int l2), some (.int l3)] [] h (fun r1 h1 => r1 = none ∧ h1 = h' ∧ G h')) := by
  obtain ⟨t10, t14⟩ := id ht1
  induction n with
  | zero => exact by intros; contradiction
  | succ n ih =>
    have s_J7_fill_60_IH_5 := ih
    intro l1 l2 l3 h h' hF hG
    unfold W_J7_fill_60 at hF
    rw [if_pos rfl] at hF
    refine v_iload_n (i := 2) dJ7_fill_53178_5 rfl rfl ?_
    refine v_iload_n (i := 3) dJ7_fill_53178_6 rfl rfl ?_
    refine v_icmp_ge 20 dJ7_fill_53178_7 (by decide) (fun c1 => ?_) (fun c1 => ?_)
    · rw [if_pos c1] at hF
      refine v_return rfl dJ7_fill_53178_20 ?_
      obtain rfl := Option.some.inj hF
      exact ⟨rfl, rfl, hG⟩
    · rw [if_neg c1] at hF
      refine v_aload_n (i := 0) dJ7_fill_53178_10 rfl rfl ?_
      refine v_iload_n (i := 2) dJ7_fill_53178_11 rfl rfl ?_
      refine v_iload_n (i := 1) dJ7_fill_53178_12 rfl rfl ?_
      obtain ⟨k2, hF⟩ := ck_some hF
      refine v_iastore t10 (by exact ltG hG (by omega)) (ixO k2) dJ7_fill_53178_13 ?_
      refine v_iinc (i := 2) (v := (l2 + 1)) dJ7_fill_53178_14 rfl rfl (by decide) (nlT rfl) ?_
      simp only [List.set_cons_zero, List.set_cons_succ]
      refine v_goto 5 dJ7_fill_53178_17 (by decide) ?_
      refine V.weak (la2 := [some (.ref b1), some (.int l1), some (.int (l2 + 1)), some (.int l3)]) (by simp [wk]) ?_
      exact (s_J7_fill_60_IH_5) _ _ _ _ _ hF hG
def F_J7_fill_60 (n : Nat) (h : Hp) (b1 : Nat) (x2 : Int32) : Option Hp := W_J7_fill_60 n 5 h b1 x2 0 60
set_option maxRecDepth 100000 in
set_option maxHeartbeats 4000000 in
theorem s_J7_fill_60 (d : Nat) {n : Nat} {h : Hp} {b1 : Nat} {x2 : Int32} {q0 : Hp} (hF : F_J7_fill_60 n h b1 x2 = some q0) (hG : G h) (ht1 : ArI 60 b1) : Kc mJ7_fill_53178 (d) [.ref b1, .int x2] h (fun r1 h1 => r1 = none ∧ h1 = q0 ∧ G q0) := by
  obtain ⟨t10, t14⟩ := id ht1
  obtain ⟨h', rfl⟩ : ∃ z, z = q0 := ⟨_, rfl⟩
  have s_J7_fill_60_IH_5 := sw_J7_fill_60 d b1 ht1 n
  unfold F_J7_fill_60 at hF
  refine Kc.of [some (.ref b1), some (.int x2), none, none] ok_J7_fill_53178 rfl (Nat.le_of_ble_eq_true rfl) ?_
  refine v_iconst (v := 0) dJ7_fill_53178_0 (by decide) ?_
  refine v_istore_n (i := 2) dJ7_fill_53178_1 rfl (by decide) (nlT rfl) ?_
  simp only [List.set_cons_zero, List.set_cons_succ]
  refine v_aload_n (i := 0) dJ7_fill_53178_2 rfl rfl ?_
  refine v_alen (v := 60) t10 (by exact ltG hG (by omega)) 0 (fun _ => rfl) rfl dJ7_fill_53178_3 ?_
  refine v_istore_n (i := 3) dJ7_fill_53178_4 rfl (by decide) (nlT rfl) ?_
  simp only [List.set_cons_zero, List.set_cons_succ]
  refine V.weak (la2 := [some (.ref b1), some (.int x2), some (.int 0), some (.int 60)]) (by simp [wk]) ?_
  exact (s_J7_fill_60_IH_5) _ _ _ _ _ hF hG
def F_J6_bitCount_0f7a4 (n : Nat) (h : Hp) (x1 : Int32) : Option (Int32 × Hp) := some ((((((((((((x1 - (((((x1 : Int32).toUInt32 >>> ((1 : Int32).toUInt32 &&& Int32.toUInt32 31)).toInt32) : Int32) &&& (1431655765 : Int32))) : Int32) &&& (858993459 : Int32)) + ((((((x1 - (((((x1 : Int32).toUInt32 >>> ((1 : Int32).toUInt32 &&& Int32.toUInt32 31)).toInt32) : Int32) &&& (1431655765 : Int32))) : Int32).toUInt32 >>> ((2 : Int32).toUInt32 &&& Int32.toUInt32 31)).toInt32) : Int32) &&& (858993459 : Int32))) + (((((((x1 - (((((x1 : Int32).toUInt32 >>> ((1 : Int32).toUInt32 &&& Int32.toUInt32 31)).toInt32) : Int32) &&& (1431655765 : Int32))) : Int32) &&& (858993459 : Int32)) + ((((((x1 - (((((x1 : Int32).toUInt32 >>> ((1 : Int32).toUInt32 &&& Int32.toUInt32 31)).toInt32) : Int32) &&& (1431655765 : Int32))) : Int32).toUInt32 >>> ((2 : Int32).toUInt32 &&& Int32.toUInt32 31)).toInt32) : Int32) &&& (858993459 : Int32))) : Int32).toUInt32 >>> ((4 : Int32).toUInt32 &&& Int32.toUInt32 31)).toInt32)) : Int32) &&& (252645135 : Int32)) + ((((((((((x1 - (((((x1 : Int32).toUInt32 >>> ((1 : Int32).toUInt32 &&& Int32.toUInt32 31)).toInt32) : Int32) &&& (1431655765 : Int32))) : Int32) &&& (858993459 : Int32)) + ((((((x1 - (((((x1 : Int32).toUInt32 >>> ((1 : Int32).toUInt32 &&& Int32.toUInt32 31)).toInt32) : Int32) &&& (1431655765 : Int32))) : Int32).toUInt32 >>> ((2 : Int32).toUInt32 &&& Int32.toUInt32 31)).toInt32) : Int32) &&& (858993459 : Int32))) + (((((((x1 - (((((x1 : Int32).toUInt32 >>> ((1 : Int32).toUInt32 &&& Int32.toUInt32 31)).toInt32) : Int32) &&& (1431655765 : Int32))) : Int32) &&& (858993459 : Int32)) + ((((((x1 - (((((x1 : Int32).toUInt32 >>> ((1 : Int32).toUInt32 &&& Int32.toUInt32 31)).toInt32) : Int32) &&& (1431655765 : Int32))) : Int32).toUInt32 >>> ((2 : Int32).toUInt32 &&& Int32.toUInt32 31)).toInt32) : Int32) &&& (858993459 : Int32))) : Int32).toUInt32 >>> ((4 : Int32).toUInt32 &&& Int32.toUInt32 31)).toInt32)) : Int32) &&& (252645135 : Int32)) : Int32).toUInt32 >>> ((8 : Int32).toUInt32 &&& Int32.toUInt32 31)).toInt32)) + (((((((((((x1 - (((((x1 : Int32).toUInt32 >>> ((1 : Int32).toUInt32 &&& Int32.toUInt32 31)).toInt32) : Int32) &&& (1431655765 : Int32))) : Int32) &&& (858993459 : Int32)) + ((((((x1 - (((((x1 : Int32).toUInt32 >>> ((1 : Int32).toUInt32 &&& Int32.toUInt32 31)).toInt32) : Int32) &&& (1431655765 : Int32))) : Int32).toUInt32 >>> ((2 : Int32).toUInt32 &&& Int32.toUInt32 31)).toInt32) : Int32) &&& (858993459 : Int32))) + (((((((x1 - (((((x1 : Int32).toUInt32 >>> ((1 : Int32).toUInt32 &&& Int32.toUInt32 31)).toInt32) : Int32) &&& (1431655765 : Int32))) : Int32) &&& (858993459 : Int32)) + ((((((x1 - (((((x1 : Int32).toUInt32 >>> ((1 : Int32).toUInt32 &&& Int32.toUInt32 31)).toInt32) : Int32) &&& (1431655765 : Int32))) : Int32).toUInt32 >>> ((2 : Int32).toUInt32 &&& Int32.toUInt32 31)).toInt32) : Int32) &&& (858993459 : Int32))) : Int32).toUInt32 >>> ((4 : Int32).toUInt32 &&& Int32.toUInt32 31)).toInt32)) : Int32) &&& (252645135 : Int32)) + ((((((((((x1 - (((((x1 : Int32).toUInt32 >>> ((1 : Int32).toUInt32 &&& Int32.toUInt32 31)).toInt32) : Int32) &&& (1431655765 : Int32))) : Int32) &&& (858993459 : Int32)) + ((((((x1 - (((((x1 : Int32).toUInt32 >>> ((1 : Int32).toUInt32 &&& Int32.toUInt32 31)).toInt32) : Int32) &&& (1431655765 : Int32))) : Int32).toUInt32 >>> ((2 : Int32).toUInt32 &&& Int32.toUInt32 31)).toInt32) : Int32) &&& (858993459 : Int32))) + (((((((x1 - (((((x1 : Int32).toUInt32 >>> ((1 : Int32).toUInt32 &&& Int32.toUInt32 31)).toInt32) : Int32) &&& (1431655765 : Int32))) : Int32) &&& (858993459 : Int32)) + ((((((x1 - (((((x1 : Int32).toUInt32 >>> ((1 : Int32).toUInt32 &&& Int32.toUInt32 31)).toInt32) : Int32) &&& (1431655765 : Int32))) : Int32).toUInt32 >>> ((2 : Int32).toUInt32 &&& Int32.toUInt32 31)).toInt32) : Int32) &&& (858993459 : Int32))) : Int32).toUInt32 >>> ((4 : Int32).toUInt32 &&& Int32.toUInt32 31)).toInt32)) : Int32) &&& (252645135 : Int32)) : Int32).toUInt32 >>> ((8 : Int32).toUInt32 &&& Int32.toUInt32 31)).toInt32)) : Int32).toUInt32 >>> ((16 : Int32).toUInt32 &&& Int32.toUInt32 31)).toInt32)) : Int32) &&& (63 : Int32)), h)
set_option maxRecDepth 100000 in
set_option maxHeartbeats 4000000 in
theorem s_J6_bitCount_0f7a4 (d : Nat) {n : Nat} {h : Hp} {x1 : Int32} {q0 : (Int32 × Hp)} (hF : F_J6_bitCount_0f7a4 n h x1 = some q0) (hG : G h)  : Kc mJ6_bitCount_0f7a4 (d) [.int x1] h (fun r1 h1 => r1 = some (.int q0.1) ∧ h1 = q0.2 ∧ G q0.2) := by
  obtain ⟨r, h'⟩ := q0
  unfold F_J6_bitCount_0f7a4 at hF
  refine Kc.of [some (.int x1)] ok_J6_bitCount_0f7a4 rfl (Nat.le_of_ble_eq_true rfl) ?_
  refine v_iload_n (i := 0) dJ6_bitCount_0f7a4_0 rfl rfl ?_
  refine v_iload_n (i := 0) dJ6_bitCount_0f7a4_1 rfl rfl ?_
  refine v_iconst (v := 1) dJ6_bitCount_0f7a4_2 (by decide) ?_
  refine v_iushr dJ6_bitCount_0f7a4_3 ?_
  refine v_ldcw (1431655765) kc_J6_265 dJ6_bitCount_0f7a4_4 ?_
  refine v_iand dJ6_bitCount_0f7a4_7 ?_
  refine v_isub dJ6_bitCount_0f7a4_8 ?_
  refine v_istore_n (i := 0) dJ6_bitCount_0f7a4_9 rfl (by decide) (nlT rfl) ?_
  simp only [List.set_cons_zero, List.set_cons_succ]
  refine v_iload_n (i := 0) dJ6_bitCount_0f7a4_10 rfl rfl ?_
  refine v_ldcw (858993459) kc_J6_266 dJ6_bitCount_0f7a4_11 ?_
  refine v_iand dJ6_bitCount_0f7a4_14 ?_
  refine v_iload_n (i := 0) dJ6_bitCount_0f7a4_15 rfl rfl ?_
  refine v_iconst (v := 2) dJ6_bitCount_0f7a4_16 (by decide) ?_
  refine v_iushr dJ6_bitCount_0f7a4_17 ?_
  refine v_ldcw (858993459) kc_J6_266 dJ6_bitCount_0f7a4_18 ?_
  refine v_iand dJ6_bitCount_0f7a4_21 ?_
  refine v_iadd dJ6_bitCount_0f7a4_22 ?_
  refine v_istore_n (i := 0) dJ6_bitCount_0f7a4_23 rfl (by decide) (nlT rfl) ?_
  simp only [List.set_cons_zero, List.set_cons_succ]
  refine v_iload_n (i := 0) dJ6_bitCount_0f7a4_24 rfl rfl ?_
  refine v_iload_n (i := 0) dJ6_bitCount_0f7a4_25 rfl rfl ?_
  refine v_iconst (v := 4) dJ6_bitCount_0f7a4_26 (by decide) ?_
  refine v_iushr dJ6_bitCount_0f7a4_27 ?_
  refine v_iadd dJ6_bitCount_0f7a4_28 ?_
  refine v_ldcw (252645135) kc_J6_267 dJ6_bitCount_0f7a4_29 ?_
  refine v_iand dJ6_bitCount_0f7a4_32 ?_
  refine v_istore_n (i := 0) dJ6_bitCount_0f7a4_33 rfl (by decide) (nlT rfl) ?_
  simp only [List.set_cons_zero, List.set_cons_succ]
  refine v_iload_n (i := 0) dJ6_bitCount_0f7a4_34 rfl rfl ?_
  refine v_iload_n (i := 0) dJ6_bitCount_0f7a4_35 rfl rfl ?_
  refine v_bipush (v := 8) dJ6_bitCount_0f7a4_36 (by decide) ?_
  refine v_iushr dJ6_bitCount_0f7a4_38 ?_
  refine v_iadd dJ6_bitCount_0f7a4_39 ?_
  refine v_istore_n (i := 0) dJ6_bitCount_0f7a4_40 rfl (by decide) (nlT rfl) ?_
  simp only [List.set_cons_zero, List.set_cons_succ]
  refine v_iload_n (i := 0) dJ6_bitCount_0f7a4_41 rfl rfl ?_
  refine v_iload_n (i := 0) dJ6_bitCount_0f7a4_42 rfl rfl ?_
  refine v_bipush (v := 16) dJ6_bitCount_0f7a4_43 (by decide) ?_
  refine v_iushr dJ6_bitCount_0f7a4_45 ?_
  refine v_iadd dJ6_bitCount_0f7a4_46 ?_
  refine v_istore_n (i := 0) dJ6_bitCount_0f7a4_47 rfl (by decide) (nlT rfl) ?_
  simp only [List.set_cons_zero, List.set_cons_succ]
  refine v_iload_n (i := 0) dJ6_bitCount_0f7a4_48 rfl rfl ?_
  refine v_bipush (v := 63) dJ6_bitCount_0f7a4_49 (by decide) ?_
  refine v_iand dJ6_bitCount_0f7a4_51 ?_
  refine v_ireturn rfl dJ6_bitCount_0f7a4_52 ?_
  obtain ⟨rfl, rfl⟩ := Prod.mk.inj (Option.some.inj hF)
  exact ⟨rfl, rfl, hG⟩
def F_X0_hasGoer (n : Nat) (h : Hp) (a : Nat) (x1 : Int32) : Option (Int32 × Hp) := (if (x1 : Int32) < 0 then some (0, h) else (if ((hi h a 2) : Int32) ≤ (x1 : Int32) then some (0, h) else (if (5 : Int32) ≤ (x1 : Int32) then some (0, h) else some (1, h))))
set_option maxRecDepth 100000 in
set_option maxHeartbeats 4000000 in
theorem s_X0_hasGoer (d : Nat) {n : Nat} {h : Hp} {a : Nat} {x1 : Int32} {q0 : (Int32 × Hp)} (hF : F_X0_hasGoer n h a x1 = some q0) (hG : G h) (hs : IsBd a) : Kc mX0_hasGoer (d) [.ref a, .int x1] h (fun r1 h1 => r1 = some (.int q0.1) ∧ h1 = q0.2 ∧ G q0.2) := by
  obtain ⟨s0, sF, sL, s3, s4, s5, s6, s7⟩ := id hs
  obtain ⟨sf0, sf4⟩ := id sF
  obtain ⟨sl0, sl1, sl2, sl3, sl4, sl5, sl6, sl7⟩ := id sL
  obtain ⟨r, h'⟩ := q0
  unfold F_X0_hasGoer at hF
  refine Kc.of [some (.ref a), some (.int x1)] ok_X0_hasGoer rfl (Nat.le_of_ble_eq_true rfl) ?_
  refine v_iload_n (i := 1) dX0_hasGoer_0 rfl rfl ?_
  refine v_if_lt 21 dX0_hasGoer_1 (by decide) (fun c1 => ?_) (fun c1 => ?_)
  · rw [if_pos c1] at hF
    refine v_iconst (v := 0) dX0_hasGoer_21 (by decide) ?_
    refine v_zreturn rfl (by decide) dX0_hasGoer_22 ?_
    obtain ⟨rfl, rfl⟩ := Prod.mk.inj (Option.some.inj hF)
    exact ⟨rfl, rfl, hG⟩
  · rw [if_neg c1] at hF
    refine v_iload_n (i := 1) dX0_hasGoer_4 rfl rfl ?_
    refine v_aload_n (i := 0) dX0_hasGoer_5 rfl rfl ?_
    refine g_X0_25 rfl s0 (by exact ltG hG (by omega)) dX0_hasGoer_6 ?_
    refine v_icmp_ge 21 dX0_hasGoer_9 (by decide) (fun c2 => ?_) (fun c2 => ?_)
    · rw [if_pos c2] at hF
      refine v_iconst (v := 0) dX0_hasGoer_21 (by decide) ?_
      refine v_zreturn rfl (by decide) dX0_hasGoer_22 ?_
      obtain ⟨rfl, rfl⟩ := Prod.mk.inj (Option.some.inj hF)
      exact ⟨rfl, rfl, hG⟩
    · rw [if_neg c2] at hF
      refine v_iload_n (i := 1) dX0_hasGoer_12 rfl rfl ?_
      refine v_iconst (v := 5) dX0_hasGoer_13 (by decide) ?_
      refine v_icmp_ge 21 dX0_hasGoer_14 (by decide) (fun c3 => ?_) (fun c3 => ?_)
      · rw [if_pos c3] at hF
        refine v_iconst (v := 0) dX0_hasGoer_21 (by decide) ?_
        refine v_zreturn rfl (by decide) dX0_hasGoer_22 ?_
        obtain ⟨rfl, rfl⟩ := Prod.mk.inj (Option.some.inj hF)
        exact ⟨rfl, rfl, hG⟩
      · rw [if_neg c3] at hF
        refine v_iconst (v := 1) dX0_hasGoer_17 (by decide) ?_
        refine v_goto 22 dX0_hasGoer_18 (by decide) ?_
        refine v_zreturn rfl (by decide) dX0_hasGoer_22 ?_
        obtain ⟨rfl, rfl⟩ := Prod.mk.inj (Option.some.inj hF)
        exact ⟨rfl, rfl, hG⟩
def F_X0_stirred (n : Nat) (h : Hp) (x1 : Int32) (x2 : Int32) : Option (Int32 × Hp) := some (((((((x1 : Int32) ^^^ (x2 : Int32)) * 1103515245) + 12345) : Int32) ^^^ ((((((((x1 : Int32) ^^^ (x2 : Int32)) * 1103515245) + 12345) : Int32).toUInt32 >>> ((15 : Int32).toUInt32 &&& Int32.toUInt32 31)).toInt32) : Int32)), h)
set_option maxRecDepth 100000 in
set_option maxHeartbeats 4000000 in
theorem s_X0_stirred (d : Nat) {n : Nat} {h : Hp} {x1 : Int32} {x2 : Int32} {q0 : (Int32 × Hp)} (hF : F_X0_stirred n h x1 x2 = some q0) (hG : G h)  : Kc mX0_stirred (d) [.int x1, .int x2] h (fun r1 h1 => r1 = some (.int q0.1) ∧ h1 = q0.2 ∧ G q0.2) := by
  obtain ⟨r, h'⟩ := q0
  unfold F_X0_stirred at hF
  refine Kc.of [some (.int x1), some (.int x2), none] ok_X0_stirred rfl (Nat.le_of_ble_eq_true rfl) ?_
  refine v_iload_n (i := 0) dX0_stirred_0 rfl rfl ?_
  refine v_iload_n (i := 1) dX0_stirred_1 rfl rfl ?_
  refine v_ixor dX0_stirred_2 ?_
  refine v_ldc (1103515245) kc_X0_156 dX0_stirred_3 ?_
  refine v_imul dX0_stirred_5 ?_
  refine v_sipush (v := 12345) dX0_stirred_6 (by decide) ?_
  refine v_iadd dX0_stirred_9 ?_
  refine v_istore_n (i := 2) dX0_stirred_10 rfl (by decide) (nlT rfl) ?_
  simp only [List.set_cons_zero, List.set_cons_succ]
  refine v_iload_n (i := 2) dX0_stirred_11 rfl rfl ?_
  refine v_iload_n (i := 2) dX0_stirred_12 rfl rfl ?_
  refine v_bipush (v := 15) dX0_stirred_13 (by decide) ?_
  refine v_iushr dX0_stirred_15 ?_
  refine v_ixor dX0_stirred_16 ?_
  refine v_ireturn rfl dX0_stirred_17 ?_
  obtain ⟨rfl, rfl⟩ := Prod.mk.inj (Option.some.inj hF)
  exact ⟨rfl, rfl, hG⟩
def F_X11_back (n : Nat) (h : Hp) (x1 : Int32) : Option (Int32 × Hp) := (if (x1 : Int32) < 0 then some ((-1), h) else (if (x1 : Int32) ≤ ((hi h 0 1) : Int32) then some ((hi (wrI h 0 1 ((hi h 0 1) - x1)) 0 1), (wrI h 0 1 ((hi h 0 1) - x1))) else some ((-1), h)))
set_option maxRecDepth 100000 in
set_option maxHeartbeats 4000000 in
theorem s_X11_back (d : Nat) {n : Nat} {h : Hp} {x1 : Int32} {q0 : (Int32 × Hp)} (hF : F_X11_back n h x1 = some q0) (hG : G h)  : Kc mX11_back (d) [.ref 0, .int x1] h (fun r1 h1 => r1 = some (.int q0.1) ∧ h1 = q0.2 ∧ G q0.2) := by
  obtain ⟨r, h'⟩ := q0
  unfold F_X11_back at hF
  refine Kc.of [some (.ref 0), some (.int x1)] ok_X11_back rfl (Nat.le_of_ble_eq_true rfl) ?_
  refine v_iload_n (i := 1) dX11_back_0 rfl rfl ?_
  refine v_if_lt 12 dX11_back_1 (by decide) (fun c1 => ?_) (fun c1 => ?_)
  · rw [if_pos c1] at hF
    refine v_iconst (v := (-1)) dX11_back_12 (by decide) ?_
    refine v_ireturn rfl dX11_back_13 ?_
    obtain ⟨rfl, rfl⟩ := Prod.mk.inj (Option.some.inj hF)
    exact ⟨rfl, rfl, hG⟩
  · rw [if_neg c1] at hF
    refine v_iload_n (i := 1) dX11_back_4 rfl rfl ?_
    refine v_aload_n (i := 0) dX11_back_5 rfl rfl ?_
    refine g_X11_13 rfl sh_0 (by exact ltG hG (by decide)) dX11_back_6 ?_
    refine v_icmp_le 14 dX11_back_9 (by decide) (fun c2 => ?_) (fun c2 => ?_)
    · rw [if_pos c2] at hF
      refine v_aload_n (i := 0) dX11_back_14 rfl rfl ?_
      refine v_dup dX11_back_15 rfl ?_
      refine g_X11_13 rfl sh_0 (by exact ltG hG (by decide)) dX11_back_16 ?_
      refine v_iload_n (i := 1) dX11_back_19 rfl rfl ?_
      refine v_isub dX11_back_20 ?_
      refine p_X11_13 rfl sh_0 (by exact ltG hG (by decide)) dX11_back_21 ?_
      refine v_aload_n (i := 0) dX11_back_24 rfl rfl ?_
      refine g_X11_13 rfl sh_0 (by exact ltG hG (by decide)) dX11_back_25 ?_
      refine v_ireturn rfl dX11_back_28 ?_
      obtain ⟨rfl, rfl⟩ := Prod.mk.inj (Option.some.inj hF)
      exact ⟨rfl, rfl, hG⟩
    · rw [if_neg c2] at hF
      refine v_iconst (v := (-1)) dX11_back_12 (by decide) ?_
      refine v_ireturn rfl dX11_back_13 ?_
      obtain ⟨rfl, rfl⟩ := Prod.mk.inj (Option.some.inj hF)
      exact ⟨rfl, rfl, hG⟩
def W_X11_everMoved : Nat → Nat → Hp → Int32 → Int32 → Option (Int32 × Hp)
  | 0 => fun _ _ _ _ => none
  | n + 1 => fun hd h l1 l2 => (if hd = 4 then (if ((hi h 23 2) : Int32) ≤ (l2 : Int32) then some (l1, h) else (if (5 : Int32) ≤ (l2 : Int32) then some (l1, h) else (if ixOK l2 5 = true then (if ((hi h 33 (Int32.toNatClampNeg l2)) : Int32) ≤ 0 then W_X11_everMoved n 4 h  l1 (l2 + 1) else W_X11_everMoved n 4 h  ((l1 : Int32) ||| (((1 : Int32) <<< ((l2 : Int32) &&& 31)) : Int32)) (l2 + 1)) else none))) else none)
set_option maxRecDepth 100000 in
set_option maxHeartbeats 4000000 in
theorem sw_X11_everMoved (d : Nat)  (n : Nat) : (∀ (l1 : Int32) (l2 : Int32) (h : Hp), ∀ (r : Int32) (h' : Hp), W_X11_everMoved n 4 h  l1 l2 = some (r, h') → G h → V mX11_everMoved (d) 4 [some (.ref 0), some (.int l1), some (.int l2)] [] h (fun r1 h1 => r1 = some (.int r) ∧ h1 = h' ∧ G h')) := by
  induction n with
  | zero => exact by intros; contradiction
  | succ n ih =>
    have s_X11_everMoved_IH_4 := ih
    intro l1 l2 h r h' hF hG
    unfold W_X11_everMoved at hF
    rw [if_pos rfl] at hF
    refine v_iload_n (i := 2) dX11_everMoved_4 rfl rfl ?_
    refine v_aload_n (i := 0) dX11_everMoved_5 rfl rfl ?_
    refine g_X11_32 (q := 23) rfl sh_0 (by exact ltG hG (by decide)) (by exact rG hG r0_0_4) dX11_everMoved_6 ?_
    refine g_X11_149 rfl sh_23 (by exact ltG hG (by decide)) dX11_everMoved_9 ?_
    refine v_icmp_ge 44 dX11_everMoved_12 (by decide) (fun c1 => ?_) (fun c1 => ?_)
    · rw [if_pos c1] at hF
      refine v_iload_n (i := 1) dX11_everMoved_44 rfl rfl ?_
      refine v_ireturn rfl dX11_everMoved_45 ?_
      obtain ⟨rfl, rfl⟩ := Prod.mk.inj (Option.some.inj hF)
      exact ⟨rfl, rfl, hG⟩
    · rw [if_neg c1] at hF
      refine v_iload_n (i := 2) dX11_everMoved_15 rfl rfl ?_
      refine v_iconst (v := 5) dX11_everMoved_16 (by decide) ?_
      refine v_icmp_ge 44 dX11_everMoved_17 (by decide) (fun c2 => ?_) (fun c2 => ?_)
      · rw [if_pos c2] at hF
        refine v_iload_n (i := 1) dX11_everMoved_44 rfl rfl ?_
        refine v_ireturn rfl dX11_everMoved_45 ?_
        obtain ⟨rfl, rfl⟩ := Prod.mk.inj (Option.some.inj hF)
        exact ⟨rfl, rfl, hG⟩
      · rw [if_neg c2] at hF
        refine v_aload_n (i := 0) dX11_everMoved_20 rfl rfl ?_
        refine g_X11_44 (q := 30) rfl sh_0 (by exact ltG hG (by decide)) (by exact rG hG r0_0_6) dX11_everMoved_21 ?_
        refine g_X11_167 (q := 33) rfl sh_30 (by exact ltG hG (by decide)) (by exact rG hG r0_30_6) dX11_everMoved_24 ?_
        refine v_iload_n (i := 2) dX11_everMoved_27 rfl rfl ?_
        obtain ⟨k3, hF⟩ := ck_some hF
        refine v_iaload sh_33 (by exact ltG hG (by decide)) (ixO k3) dX11_everMoved_28 ?_
        refine v_if_le 38 dX11_everMoved_29 (by decide) (fun c4 => ?_) (fun c4 => ?_)
        · rw [if_pos c4] at hF
          refine v_iinc (i := 2) (v := (l2 + 1)) dX11_everMoved_38 rfl rfl (by decide) (nlT rfl) ?_
          simp only [List.set_cons_zero, List.set_cons_succ]
          refine v_goto 4 dX11_everMoved_41 (by decide) ?_
          refine V.weak (la2 := [some (.ref 0), some (.int l1), some (.int (l2 + 1))]) (by simp [wk]) ?_
          exact (s_X11_everMoved_IH_4) _ _ _ _ _ hF hG
        · rw [if_neg c4] at hF
          refine v_iload_n (i := 1) dX11_everMoved_32 rfl rfl ?_
          refine v_iconst (v := 1) dX11_everMoved_33 (by decide) ?_
          refine v_iload_n (i := 2) dX11_everMoved_34 rfl rfl ?_
          refine v_ishl dX11_everMoved_35 ?_
          refine v_ior dX11_everMoved_36 ?_
          refine v_istore_n (i := 1) dX11_everMoved_37 rfl (by decide) (nlT rfl) ?_
          simp only [List.set_cons_zero, List.set_cons_succ]
          refine v_iinc (i := 2) (v := (l2 + 1)) dX11_everMoved_38 rfl rfl (by decide) (nlT rfl) ?_
          simp only [List.set_cons_zero, List.set_cons_succ]
          refine v_goto 4 dX11_everMoved_41 (by decide) ?_
          refine V.weak (la2 := [some (.ref 0), some (.int ((l1 : Int32) ||| (((1 : Int32) <<< ((l2 : Int32) &&& 31)) : Int32))), some (.int (l2 + 1))]) (by simp [wk]) ?_
          exact (s_X11_everMoved_IH_4) _ _ _ _ _ hF hG
def F_X11_everMoved (n : Nat) (h : Hp) : Option (Int32 × Hp) := W_X11_everMoved n 4 h  0 0
set_option maxRecDepth 100000 in
set_option maxHeartbeats 4000000 in
theorem s_X11_everMoved (d : Nat) {n : Nat} {h : Hp}  {q0 : (Int32 × Hp)} (hF : F_X11_everMoved n h  = some q0) (hG : G h)  : Kc mX11_everMoved (d) [.ref 0] h (fun r1 h1 => r1 = some (.int q0.1) ∧ h1 = q0.2 ∧ G q0.2) := by
  obtain ⟨r, h'⟩ := q0
  have s_X11_everMoved_IH_4 := sw_X11_everMoved d   n
  unfold F_X11_everMoved at hF
  refine Kc.of [some (.ref 0), none, none] ok_X11_everMoved rfl (Nat.le_of_ble_eq_true rfl) ?_
  refine v_iconst (v := 0) dX11_everMoved_0 (by decide) ?_
  refine v_istore_n (i := 1) dX11_everMoved_1 rfl (by decide) (nlT rfl) ?_
  simp only [List.set_cons_zero, List.set_cons_succ]
  refine v_iconst (v := 0) dX11_everMoved_2 (by decide) ?_
  refine v_istore_n (i := 2) dX11_everMoved_3 rfl (by decide) (nlT rfl) ?_
  simp only [List.set_cons_zero, List.set_cons_succ]
  refine V.weak (la2 := [some (.ref 0), some (.int 0), some (.int 0)]) (by simp [wk]) ?_
  exact (s_X11_everMoved_IH_4) _ _ _ _ _ hF hG
def F_X11_isNoughtOrOne (n : Nat) (h : Hp) (x1 : Int32) : Option (Int32 × Hp) := (if (x1 : Int32) = 0 then some (1, h) else (if (x1 : Int32) = (1 : Int32) then some (1, h) else some (0, h)))
set_option maxRecDepth 100000 in
set_option maxHeartbeats 4000000 in
theorem s_X11_isNoughtOrOne (d : Nat) {n : Nat} {h : Hp} {x1 : Int32} {q0 : (Int32 × Hp)} (hF : F_X11_isNoughtOrOne n h x1 = some q0) (hG : G h)  : Kc mX11_isNoughtOrOne (d) [.int x1] h (fun r1 h1 => r1 = some (.int q0.1) ∧ h1 = q0.2 ∧ G q0.2) := by
  obtain ⟨r, h'⟩ := q0
  unfold F_X11_isNoughtOrOne at hF
  refine Kc.of [some (.int x1)] ok_X11_isNoughtOrOne rfl (Nat.le_of_ble_eq_true rfl) ?_
  refine v_iload_n (i := 0) dX11_isNoughtOrOne_0 rfl rfl ?_
  refine v_if_eq 9 dX11_isNoughtOrOne_1 (by decide) (fun c1 => ?_) (fun c1 => ?_)
  · rw [if_pos c1] at hF
    refine v_iconst (v := 1) dX11_isNoughtOrOne_9 (by decide) ?_
    refine v_goto 14 dX11_isNoughtOrOne_10 (by decide) ?_
    refine v_zreturn rfl (by decide) dX11_isNoughtOrOne_14 ?_
    obtain ⟨rfl, rfl⟩ := Prod.mk.inj (Option.some.inj hF)
    exact ⟨rfl, rfl, hG⟩
  · rw [if_neg c1] at hF
    refine v_iload_n (i := 0) dX11_isNoughtOrOne_4 rfl rfl ?_
    refine v_iconst (v := 1) dX11_isNoughtOrOne_5 (by decide) ?_
    refine v_icmp_ne 13 dX11_isNoughtOrOne_6 (by decide) (fun c2 => ?_) (fun c2 => ?_)
    · rw [if_neg c2] at hF
      refine v_iconst (v := 0) dX11_isNoughtOrOne_13 (by decide) ?_
      refine v_zreturn rfl (by decide) dX11_isNoughtOrOne_14 ?_
      obtain ⟨rfl, rfl⟩ := Prod.mk.inj (Option.some.inj hF)
      exact ⟨rfl, rfl, hG⟩
    · rw [if_pos c2] at hF
      refine v_iconst (v := 1) dX11_isNoughtOrOne_9 (by decide) ?_
      refine v_goto 14 dX11_isNoughtOrOne_10 (by decide) ?_
      refine v_zreturn rfl (by decide) dX11_isNoughtOrOne_14 ?_
      obtain ⟨rfl, rfl⟩ := Prod.mk.inj (Option.some.inj hF)
      exact ⟨rfl, rfl, hG⟩
def F_X11_isSpan (n : Nat) (h : Hp) (x1 : Int32) : Option (Int32 × Hp) := (if (x1 : Int32) < 0 then some (0, h) else (if (100 : Int32) < (x1 : Int32) then some (0, h) else some (1, h)))
set_option maxRecDepth 100000 in
set_option maxHeartbeats 4000000 in
theorem s_X11_isSpan (d : Nat) {n : Nat} {h : Hp} {x1 : Int32} {q0 : (Int32 × Hp)} (hF : F_X11_isSpan n h x1 = some q0) (hG : G h)  : Kc mX11_isSpan (d) [.int x1] h (fun r1 h1 => r1 = some (.int q0.1) ∧ h1 = q0.2 ∧ G q0.2) := by
  obtain ⟨r, h'⟩ := q0
  unfold F_X11_isSpan at hF
  refine Kc.of [some (.int x1)] ok_X11_isSpan rfl (Nat.le_of_ble_eq_true rfl) ?_
  refine v_iload_n (i := 0) dX11_isSpan_0 rfl rfl ?_
  refine v_if_lt 14 dX11_isSpan_1 (by decide) (fun c1 => ?_) (fun c1 => ?_)
  · rw [if_pos c1] at hF
    refine v_iconst (v := 0) dX11_isSpan_14 (by decide) ?_
    refine v_zreturn rfl (by decide) dX11_isSpan_15 ?_
    obtain ⟨rfl, rfl⟩ := Prod.mk.inj (Option.some.inj hF)
    exact ⟨rfl, rfl, hG⟩
  · rw [if_neg c1] at hF
    refine v_iload_n (i := 0) dX11_isSpan_4 rfl rfl ?_
    refine v_bipush (v := 100) dX11_isSpan_5 (by decide) ?_
    refine v_icmp_gt 14 dX11_isSpan_7 (by decide) (fun c2 => ?_) (fun c2 => ?_)
    · rw [if_pos c2] at hF
      refine v_iconst (v := 0) dX11_isSpan_14 (by decide) ?_
      refine v_zreturn rfl (by decide) dX11_isSpan_15 ?_
      obtain ⟨rfl, rfl⟩ := Prod.mk.inj (Option.some.inj hF)
      exact ⟨rfl, rfl, hG⟩
    · rw [if_neg c2] at hF
      refine v_iconst (v := 1) dX11_isSpan_10 (by decide) ?_
      refine v_goto 15 dX11_isSpan_11 (by decide) ?_
      refine v_zreturn rfl (by decide) dX11_isSpan_15 ?_
      obtain ⟨rfl, rfl⟩ := Prod.mk.inj (Option.some.inj hF)
      exact ⟨rfl, rfl, hG⟩
def F_X11_lowest (n : Nat) (h : Hp) (x1 : Int32) : Option (Int32 × Hp) := ((F_J6_bitCount_0f7a4 n h (((x1 : Int32) &&& ((-x1) : Int32)) - 1)).bind (fun q1 => some (q1.1, q1.2)))
set_option maxRecDepth 100000 in
set_option maxHeartbeats 4000000 in
theorem s_X11_lowest (d : Nat) {n : Nat} {h : Hp} {x1 : Int32} {q0 : (Int32 × Hp)} (hF : F_X11_lowest n h x1 = some q0) (hG : G h)  : Kc mX11_lowest (d + 1) [.int x1] h (fun r1 h1 => r1 = some (.int q0.1) ∧ h1 = q0.2 ∧ G q0.2) := by
  obtain ⟨r, h'⟩ := q0
  unfold F_X11_lowest at hF
  refine Kc.of [some (.int x1)] ok_X11_lowest rfl (Nat.le_of_ble_eq_true rfl) ?_
  refine v_iload_n (i := 0) dX11_lowest_0 rfl rfl ?_
  refine v_iload_n (i := 0) dX11_lowest_1 rfl rfl ?_
  refine v_ineg dX11_lowest_2 ?_
  refine v_iand dX11_lowest_3 ?_
  refine v_iconst (v := 1) dX11_lowest_4 (by decide) ?_
  refine v_isub dX11_lowest_5 ?_
  obtain ⟨q1, q1_e, hF⟩ := Option.bind_eq_some_iff.mp hF
  refine c_X11_196 rfl (Nat.le_of_ble_eq_true rfl) dX11_lowest_6 (s_J6_bitCount_0f7a4 _ q1_e hG) (fun r1 h1 hq => ?_)
  obtain ⟨rfl, hq, hG⟩ := hq
  replace hq := hq.symm
  subst hq
  show V _ _ _ _ (_ :: _) _ _
  refine v_ireturn rfl dX11_lowest_9 ?_
  obtain ⟨rfl, rfl⟩ := Prod.mk.inj (Option.some.inj hF)
  exact ⟨rfl, rfl, hG⟩
def W_X11_movedInAll : Nat → Nat → Hp → Int32 → Int32 → Option (Int32 × Hp)
  | 0 => fun _ _ _ _ => none
  | n + 1 => fun hd h l1 l2 => (if hd = 4 then (if ((hi h 23 2) : Int32) ≤ (l2 : Int32) then some (l1, h) else (if (5 : Int32) ≤ (l2 : Int32) then some (l1, h) else (if ixOK l2 5 = true then W_X11_movedInAll n 4 h  (l1 + (hi h 33 (Int32.toNatClampNeg l2))) (l2 + 1) else none))) else none)
set_option maxRecDepth 100000 in
set_option maxHeartbeats 4000000 in
theorem sw_X11_movedInAll (d : Nat)  (n : Nat) : (∀ (l1 : Int32) (l2 : Int32) (h : Hp), ∀ (r : Int32) (h' : Hp), W_X11_movedInAll n 4 h  l1 l2 = some (r, h') → G h → V mX11_movedInAll (d) 4 [some (.ref 0), some (.int l1), some (.int l2)] [] h (fun r1 h1 => r1 = some (.int r) ∧ h1 = h' ∧ G h')) := by
  induction n with
  | zero => exact by intros; contradiction
  | succ n ih =>
    have s_X11_movedInAll_IH_4 := ih
    intro l1 l2 h r h' hF hG
    unfold W_X11_movedInAll at hF
    rw [if_pos rfl] at hF
    refine v_iload_n (i := 2) dX11_movedInAll_4 rfl rfl ?_
    refine v_aload_n (i := 0) dX11_movedInAll_5 rfl rfl ?_
    refine g_X11_32 (q := 23) rfl sh_0 (by exact ltG hG (by decide)) (by exact rG hG r0_0_4) dX11_movedInAll_6 ?_
    refine g_X11_149 rfl sh_23 (by exact ltG hG (by decide)) dX11_movedInAll_9 ?_
    refine v_icmp_ge 38 dX11_movedInAll_12 (by decide) (fun c1 => ?_) (fun c1 => ?_)
    · rw [if_pos c1] at hF
      refine v_iload_n (i := 1) dX11_movedInAll_38 rfl rfl ?_
      refine v_ireturn rfl dX11_movedInAll_39 ?_
      obtain ⟨rfl, rfl⟩ := Prod.mk.inj (Option.some.inj hF)
      exact ⟨rfl, rfl, hG⟩
    · rw [if_neg c1] at hF
      refine v_iload_n (i := 2) dX11_movedInAll_15 rfl rfl ?_
      refine v_iconst (v := 5) dX11_movedInAll_16 (by decide) ?_
      refine v_icmp_ge 38 dX11_movedInAll_17 (by decide) (fun c2 => ?_) (fun c2 => ?_)
      · rw [if_pos c2] at hF
        refine v_iload_n (i := 1) dX11_movedInAll_38 rfl rfl ?_
        refine v_ireturn rfl dX11_movedInAll_39 ?_
        obtain ⟨rfl, rfl⟩ := Prod.mk.inj (Option.some.inj hF)
        exact ⟨rfl, rfl, hG⟩
      · rw [if_neg c2] at hF
        refine v_iload_n (i := 1) dX11_movedInAll_20 rfl rfl ?_
        refine v_aload_n (i := 0) dX11_movedInAll_21 rfl rfl ?_
        refine g_X11_44 (q := 30) rfl sh_0 (by exact ltG hG (by decide)) (by exact rG hG r0_0_6) dX11_movedInAll_22 ?_
        refine g_X11_167 (q := 33) rfl sh_30 (by exact ltG hG (by decide)) (by exact rG hG r0_30_6) dX11_movedInAll_25 ?_
        refine v_iload_n (i := 2) dX11_movedInAll_28 rfl rfl ?_
        obtain ⟨k3, hF⟩ := ck_some hF
        refine v_iaload sh_33 (by exact ltG hG (by decide)) (ixO k3) dX11_movedInAll_29 ?_
        refine v_iadd dX11_movedInAll_30 ?_
        refine v_istore_n (i := 1) dX11_movedInAll_31 rfl (by decide) (nlT rfl) ?_
        simp only [List.set_cons_zero, List.set_cons_succ]
        refine v_iinc (i := 2) (v := (l2 + 1)) dX11_movedInAll_32 rfl rfl (by decide) (nlT rfl) ?_
        simp only [List.set_cons_zero, List.set_cons_succ]
        refine v_goto 4 dX11_movedInAll_35 (by decide) ?_
        refine V.weak (la2 := [some (.ref 0), some (.int (l1 + (hi h 33 (Int32.toNatClampNeg l2)))), some (.int (l2 + 1))]) (by simp [wk]) ?_
        exact (s_X11_movedInAll_IH_4) _ _ _ _ _ hF hG
def F_X11_movedInAll (n : Nat) (h : Hp) : Option (Int32 × Hp) := W_X11_movedInAll n 4 h  0 0
set_option maxRecDepth 100000 in
set_option maxHeartbeats 4000000 in
theorem s_X11_movedInAll (d : Nat) {n : Nat} {h : Hp}  {q0 : (Int32 × Hp)} (hF : F_X11_movedInAll n h  = some q0) (hG : G h)  : Kc mX11_movedInAll (d) [.ref 0] h (fun r1 h1 => r1 = some (.int q0.1) ∧ h1 = q0.2 ∧ G q0.2) := by
  obtain ⟨r, h'⟩ := q0
  have s_X11_movedInAll_IH_4 := sw_X11_movedInAll d   n
  unfold F_X11_movedInAll at hF
  refine Kc.of [some (.ref 0), none, none] ok_X11_movedInAll rfl (Nat.le_of_ble_eq_true rfl) ?_
  refine v_iconst (v := 0) dX11_movedInAll_0 (by decide) ?_
  refine v_istore_n (i := 1) dX11_movedInAll_1 rfl (by decide) (nlT rfl) ?_
  simp only [List.set_cons_zero, List.set_cons_succ]
  refine v_iconst (v := 0) dX11_movedInAll_2 (by decide) ?_
  refine v_istore_n (i := 2) dX11_movedInAll_3 rfl (by decide) (nlT rfl) ?_
  simp only [List.set_cons_zero, List.set_cons_succ]
  refine V.weak (la2 := [some (.ref 0), some (.int 0), some (.int 0)]) (by simp [wk]) ?_
  exact (s_X11_movedInAll_IH_4) _ _ _ _ _ hF hG
def F_X11_place (n : Nat) (h : Hp) : Option (Int32 × Hp) := some ((hi h 0 2), h)
set_option maxRecDepth 100000 in
set_option maxHeartbeats 4000000 in
theorem s_X11_place (d : Nat) {n : Nat} {h : Hp}  {q0 : (Int32 × Hp)} (hF : F_X11_place n h  = some q0) (hG : G h)  : Kc mX11_place (d) [.ref 0] h (fun r1 h1 => r1 = some (.int q0.1) ∧ h1 = q0.2 ∧ G q0.2) := by
  obtain ⟨r, h'⟩ := q0
  unfold F_X11_place at hF
  refine Kc.of [some (.ref 0)] ok_X11_place rfl (Nat.le_of_ble_eq_true rfl) ?_
  refine v_aload_n (i := 0) dX11_place_0 rfl rfl ?_
  refine g_X11_17 rfl sh_0 (by exact ltG hG (by decide)) dX11_place_1 ?_
  refine v_ireturn rfl dX11_place_4 ?_
  obtain ⟨rfl, rfl⟩ := Prod.mk.inj (Option.some.inj hF)
  exact ⟨rfl, rfl, hG⟩
def W_X11_putOnTape : Nat → Nat → Hp → Int32 → Int32 → Option Hp
  | 0 => fun _ _ _ _ => none
  | n + 1 => fun hd h l1 l2 => (if hd = 3 then (if (l2 : Int32) < 0 then some h else (if (2000 : Int32) ≤ ((hi h 0 1) : Int32) then some h else (if ixOK (hi h 0 1) 2000 = true then W_X11_putOnTape n 3 (wrI (wrI h 1 (Int32.toNatClampNeg (hi h 0 1)) ((((l1 : Int32).toUInt32 >>> ((l2 : Int32).toUInt32 &&& Int32.toUInt32 31)).toInt32) : Int32).toInt8.toInt32) 0 1 ((hi (wrI h 1 (Int32.toNatClampNeg (hi h 0 1)) ((((l1 : Int32).toUInt32 >>> ((l2 : Int32).toUInt32 &&& Int32.toUInt32 31)).toInt32) : Int32).toInt8.toInt32) 0 1) + 1))  l1 (l2 + (-8)) else none))) else none)
set_option maxRecDepth 100000 in
set_option maxHeartbeats 4000000 in
theorem sw_X11_putOnTape (d : Nat)  (n : Nat) : (∀ (l1 : Int32) (l2 : Int32) (h : Hp), ∀ (h' : Hp), W_X11_putOnTape n 3 h  l1 l2 = some h' → G h → V mX11_putOnTape (d) 3 [some (.ref 0), some (.int l1), some (.int l2)] [] h (fun r1 h1 => r1 = none ∧ h1 = h' ∧ G h')) := by
  induction n with
  | zero => exact by intros; contradiction
  | succ n ih =>
    have s_X11_putOnTape_IH_3 := ih
    intro l1 l2 h h' hF hG
    unfold W_X11_putOnTape at hF
    rw [if_pos rfl] at hF
    refine v_iload_n (i := 2) dX11_putOnTape_3 rfl rfl ?_
    refine v_if_lt 46 dX11_putOnTape_4 (by decide) (fun c1 => ?_) (fun c1 => ?_)
    · rw [if_pos c1] at hF
      refine v_return rfl dX11_putOnTape_46 ?_
      obtain rfl := Option.some.inj hF
      exact ⟨rfl, rfl, hG⟩
    · rw [if_neg c1] at hF
      refine v_aload_n (i := 0) dX11_putOnTape_7 rfl rfl ?_
      refine g_X11_13 rfl sh_0 (by exact ltG hG (by decide)) dX11_putOnTape_8 ?_
      refine v_sipush (v := 2000) dX11_putOnTape_11 (by decide) ?_
      refine v_icmp_ge 46 dX11_putOnTape_14 (by decide) (fun c2 => ?_) (fun c2 => ?_)
      · rw [if_pos c2] at hF
        refine v_return rfl dX11_putOnTape_46 ?_
        obtain rfl := Option.some.inj hF
        exact ⟨rfl, rfl, hG⟩
      · rw [if_neg c2] at hF
        refine v_aload_n (i := 0) dX11_putOnTape_17 rfl rfl ?_
        refine g_X11_9 (q := 1) rfl sh_0 (by exact ltG hG (by decide)) (by exact rG hG r0_0_0) dX11_putOnTape_18 ?_
        refine v_aload_n (i := 0) dX11_putOnTape_21 rfl rfl ?_
        refine g_X11_13 rfl sh_0 (by exact ltG hG (by decide)) dX11_putOnTape_22 ?_
        refine v_iload_n (i := 1) dX11_putOnTape_25 rfl rfl ?_
        refine v_iload_n (i := 2) dX11_putOnTape_26 rfl rfl ?_
        refine v_iushr dX11_putOnTape_27 ?_
        refine v_i2b dX11_putOnTape_28 ?_
        obtain ⟨k3, hF⟩ := ck_some hF
        refine v_bastore sh_1 (by exact ltG hG (by decide)) (ixO k3) dX11_putOnTape_29 ?_
        refine v_aload_n (i := 0) dX11_putOnTape_30 rfl rfl ?_
        refine v_dup dX11_putOnTape_31 rfl ?_
        refine g_X11_13 rfl sh_0 (by exact ltG hG (by decide)) dX11_putOnTape_32 ?_
        refine v_iconst (v := 1) dX11_putOnTape_35 (by decide) ?_
        refine v_iadd dX11_putOnTape_36 ?_
        refine p_X11_13 rfl sh_0 (by exact ltG hG (by decide)) dX11_putOnTape_37 ?_
        refine v_iinc (i := 2) (v := (l2 + (-8))) dX11_putOnTape_40 rfl rfl (by decide) (nlT rfl) ?_
        simp only [List.set_cons_zero, List.set_cons_succ]
        refine v_goto 3 dX11_putOnTape_43 (by decide) ?_
        refine V.weak (la2 := [some (.ref 0), some (.int l1), some (.int (l2 + (-8)))]) (by simp [wk]) ?_
        exact (s_X11_putOnTape_IH_3) _ _ _ _ hF hG
def F_X11_putOnTape (n : Nat) (h : Hp) (x1 : Int32) : Option Hp := W_X11_putOnTape n 3 h  x1 24
set_option maxRecDepth 100000 in
set_option maxHeartbeats 4000000 in
theorem s_X11_putOnTape (d : Nat) {n : Nat} {h : Hp} {x1 : Int32} {q0 : Hp} (hF : F_X11_putOnTape n h x1 = some q0) (hG : G h)  : Kc mX11_putOnTape (d) [.ref 0, .int x1] h (fun r1 h1 => r1 = none ∧ h1 = q0 ∧ G q0) := by
  obtain ⟨h', rfl⟩ : ∃ z, z = q0 := ⟨_, rfl⟩
  have s_X11_putOnTape_IH_3 := sw_X11_putOnTape d   n
  unfold F_X11_putOnTape at hF
  refine Kc.of [some (.ref 0), some (.int x1), none] ok_X11_putOnTape rfl (Nat.le_of_ble_eq_true rfl) ?_
  refine v_bipush (v := 24) dX11_putOnTape_0 (by decide) ?_
  refine v_istore_n (i := 2) dX11_putOnTape_2 rfl (by decide) (nlT rfl) ?_
  simp only [List.set_cons_zero, List.set_cons_succ]
  refine V.weak (la2 := [some (.ref 0), some (.int x1), some (.int 24)]) (by simp [wk]) ?_
  exact (s_X11_putOnTape_IH_3) _ _ _ _ hF hG
def F_X12_appends (n : Nat) (h : Hp) (x1 : Int64) (x2 : Int32) : Option (Int64 × Hp) := (if (x2 : Int32) = 0 then some (x1, h) else some (((27 * x1) + (((x2 - 97) + 1) : Int32).toInt64), h))
set_option maxRecDepth 100000 in
set_option maxHeartbeats 4000000 in
theorem s_X12_appends (d : Nat) {n : Nat} {h : Hp} {x1 : Int64} {x2 : Int32} {q0 : (Int64 × Hp)} (hF : F_X12_appends n h x1 x2 = some q0) (hG : G h)  : Kc mX12_appends (d) [.long x1, .int x2] h (fun r1 h1 => r1 = some (.long q0.1) ∧ h1 = q0.2 ∧ G q0.2) := by
  obtain ⟨r, h'⟩ := q0
  unfold F_X12_appends at hF
  refine Kc.of [some (.long x1), none, some (.int x2)] ok_X12_appends rfl (Nat.le_of_ble_eq_true rfl) ?_
  refine v_iload_n (i := 2) dX12_appends_0 rfl rfl ?_
  refine v_if_ne 8 dX12_appends_1 (by decide) (fun c1 => ?_) (fun c1 => ?_)
  · rw [if_neg c1] at hF
    refine v_ldc2 (27) kl_X12_187 dX12_appends_8 ?_
    refine v_lload_n (i := 0) dX12_appends_11 rfl rfl ?_
    refine v_lmul dX12_appends_12 ?_
    refine v_iload_n (i := 2) dX12_appends_13 rfl rfl ?_
    refine v_bipush (v := 97) dX12_appends_14 (by decide) ?_
    refine v_isub dX12_appends_16 ?_
    refine v_iconst (v := 1) dX12_appends_17 (by decide) ?_
    refine v_iadd dX12_appends_18 ?_
    refine v_i2l dX12_appends_19 ?_
    refine v_ladd dX12_appends_20 ?_
    refine v_lreturn rfl dX12_appends_21 ?_
    obtain ⟨rfl, rfl⟩ := Prod.mk.inj (Option.some.inj hF)
    exact ⟨rfl, rfl, hG⟩
  · rw [if_pos c1] at hF
    refine v_lload_n (i := 0) dX12_appends_4 rfl rfl ?_
    refine v_goto 21 dX12_appends_5 (by decide) ?_
    refine v_lreturn rfl dX12_appends_21 ?_
    obtain ⟨rfl, rfl⟩ := Prod.mk.inj (Option.some.inj hF)
    exact ⟨rfl, rfl, hG⟩
def F_X12_back (n : Nat) (h : Hp) (x1 : Int32) : Option (Int32 × Hp) := (if (x1 : Int32) < 0 then some ((-1), h) else (if (x1 : Int32) ≤ ((hi h 226 2) : Int32) then some ((hi (wrI h 226 2 ((hi h 226 2) - x1)) 226 2), (wrI h 226 2 ((hi h 226 2) - x1))) else some ((-1), h)))
set_option maxRecDepth 100000 in
set_option maxHeartbeats 4000000 in
theorem s_X12_back (d : Nat) {n : Nat} {h : Hp} {x1 : Int32} {q0 : (Int32 × Hp)} (hF : F_X12_back n h x1 = some q0) (hG : G h)  : Kc mX12_back (d) [.ref 226, .int x1] h (fun r1 h1 => r1 = some (.int q0.1) ∧ h1 = q0.2 ∧ G q0.2) := by
  obtain ⟨r, h'⟩ := q0
  unfold F_X12_back at hF
  refine Kc.of [some (.ref 226), some (.int x1)] ok_X12_back rfl (Nat.le_of_ble_eq_true rfl) ?_
  refine v_iload_n (i := 1) dX12_back_0 rfl rfl ?_
  refine v_if_lt 12 dX12_back_1 (by decide) (fun c1 => ?_) (fun c1 => ?_)
  · rw [if_pos c1] at hF
    refine v_iconst (v := (-1)) dX12_back_12 (by decide) ?_
    refine v_ireturn rfl dX12_back_13 ?_
    obtain ⟨rfl, rfl⟩ := Prod.mk.inj (Option.some.inj hF)
    exact ⟨rfl, rfl, hG⟩
  · rw [if_neg c1] at hF
    refine v_iload_n (i := 1) dX12_back_4 rfl rfl ?_
    refine v_aload_n (i := 0) dX12_back_5 rfl rfl ?_
    refine g_X12_178 rfl sh_226 (by exact ltG hG (by decide)) dX12_back_6 ?_
    refine v_icmp_le 14 dX12_back_9 (by decide) (fun c2 => ?_) (fun c2 => ?_)
    · rw [if_pos c2] at hF
      refine v_aload_n (i := 0) dX12_back_14 rfl rfl ?_
      refine v_dup dX12_back_15 rfl ?_
      refine g_X12_178 rfl sh_226 (by exact ltG hG (by decide)) dX12_back_16 ?_
      refine v_iload_n (i := 1) dX12_back_19 rfl rfl ?_
      refine v_isub dX12_back_20 ?_
      refine p_X12_178 rfl sh_226 (by exact ltG hG (by decide)) dX12_back_21 ?_
      refine v_aload_n (i := 0) dX12_back_24 rfl rfl ?_
      refine g_X12_178 rfl sh_226 (by exact ltG hG (by decide)) dX12_back_25 ?_
      refine v_ireturn rfl dX12_back_28 ?_
      obtain ⟨rfl, rfl⟩ := Prod.mk.inj (Option.some.inj hF)
      exact ⟨rfl, rfl, hG⟩
    · rw [if_neg c2] at hF
      refine v_iconst (v := (-1)) dX12_back_12 (by decide) ?_
      refine v_ireturn rfl dX12_back_13 ?_
      obtain ⟨rfl, rfl⟩ := Prod.mk.inj (Option.some.inj hF)
      exact ⟨rfl, rfl, hG⟩
def W_X12_bits : Nat → Nat → Hp → Int32 → Int32 → Int32 → Option (Int32 × Hp)
  | 0 => fun _ _ _ _ _ => none
  | n + 1 => fun hd h l0 l1 l2 => (if hd = 4 then (if (25 : Int32) ≤ (l2 : Int32) then some (l1, h) else W_X12_bits n 4 h  l0 (l1 + ((((l0 : Int32) >>> ((l2 : Int32) &&& 31)) : Int32) &&& (1 : Int32))) (l2 + 1)) else none)
set_option maxRecDepth 100000 in
set_option maxHeartbeats 4000000 in
theorem sw_X12_bits (d : Nat)  (n : Nat) : (∀ (l0 : Int32) (l1 : Int32) (l2 : Int32) (h : Hp), ∀ (r : Int32) (h' : Hp), W_X12_bits n 4 h  l0 l1 l2 = some (r, h') → G h → V mX12_bits (d) 4 [some (.int l0), some (.int l1), some (.int l2)] [] h (fun r1 h1 => r1 = some (.int r) ∧ h1 = h' ∧ G h')) := by
  induction n with
  | zero => exact by intros; contradiction
  | succ n ih =>
    have s_X12_bits_IH_4 := ih
    intro l0 l1 l2 h r h' hF hG
    unfold W_X12_bits at hF
    rw [if_pos rfl] at hF
    refine v_iload_n (i := 2) dX12_bits_4 rfl rfl ?_
    refine v_bipush (v := 25) dX12_bits_5 (by decide) ?_
    refine v_icmp_ge 24 dX12_bits_7 (by decide) (fun c1 => ?_) (fun c1 => ?_)
    · rw [if_pos c1] at hF
      refine v_iload_n (i := 1) dX12_bits_24 rfl rfl ?_
      refine v_ireturn rfl dX12_bits_25 ?_
      obtain ⟨rfl, rfl⟩ := Prod.mk.inj (Option.some.inj hF)
      exact ⟨rfl, rfl, hG⟩
    · rw [if_neg c1] at hF
      refine v_iload_n (i := 1) dX12_bits_10 rfl rfl ?_
      refine v_iload_n (i := 0) dX12_bits_11 rfl rfl ?_
      refine v_iload_n (i := 2) dX12_bits_12 rfl rfl ?_
      refine v_ishr dX12_bits_13 ?_
      refine v_iconst (v := 1) dX12_bits_14 (by decide) ?_
      refine v_iand dX12_bits_15 ?_
      refine v_iadd dX12_bits_16 ?_
      refine v_istore_n (i := 1) dX12_bits_17 rfl (by decide) (nlT rfl) ?_
      simp only [List.set_cons_zero, List.set_cons_succ]
      refine v_iinc (i := 2) (v := (l2 + 1)) dX12_bits_18 rfl rfl (by decide) (nlT rfl) ?_
      simp only [List.set_cons_zero, List.set_cons_succ]
      refine v_goto 4 dX12_bits_21 (by decide) ?_
      refine V.weak (la2 := [some (.int l0), some (.int (l1 + ((((l0 : Int32) >>> ((l2 : Int32) &&& 31)) : Int32) &&& (1 : Int32)))), some (.int (l2 + 1))]) (by simp [wk]) ?_
      exact (s_X12_bits_IH_4) _ _ _ _ _ _ hF hG
def F_X12_bits (n : Nat) (h : Hp) (x1 : Int32) : Option (Int32 × Hp) := W_X12_bits n 4 h  x1 0 0
set_option maxRecDepth 100000 in
set_option maxHeartbeats 4000000 in
theorem s_X12_bits (d : Nat) {n : Nat} {h : Hp} {x1 : Int32} {q0 : (Int32 × Hp)} (hF : F_X12_bits n h x1 = some q0) (hG : G h)  : Kc mX12_bits (d) [.int x1] h (fun r1 h1 => r1 = some (.int q0.1) ∧ h1 = q0.2 ∧ G q0.2) := by
  obtain ⟨r, h'⟩ := q0
  have s_X12_bits_IH_4 := sw_X12_bits d   n
  unfold F_X12_bits at hF
  refine Kc.of [some (.int x1), none, none] ok_X12_bits rfl (Nat.le_of_ble_eq_true rfl) ?_
  refine v_iconst (v := 0) dX12_bits_0 (by decide) ?_
  refine v_istore_n (i := 1) dX12_bits_1 rfl (by decide) (nlT rfl) ?_
  simp only [List.set_cons_zero, List.set_cons_succ]
  refine v_iconst (v := 0) dX12_bits_2 (by decide) ?_
  refine v_istore_n (i := 2) dX12_bits_3 rfl (by decide) (nlT rfl) ?_
  simp only [List.set_cons_zero, List.set_cons_succ]
  refine V.weak (la2 := [some (.int x1), some (.int 0), some (.int 0)]) (by simp [wk]) ?_
  exact (s_X12_bits_IH_4) _ _ _ _ _ _ hF hG
def F_X12_byteAt (n : Nat) (h : Hp) (x1 : Int32) : Option (Int32 × Hp) := (if ((hi h 226 4) : Int32) ≤ (x1 : Int32) then some (0, h) else (if ixOK x1 2000 = true then some ((((vp_nar .byte (hi h 228 (Int32.toNatClampNeg x1))) : Int32) &&& (255 : Int32)), h) else none))
set_option maxRecDepth 100000 in
set_option maxHeartbeats 4000000 in
theorem s_X12_byteAt (d : Nat) {n : Nat} {h : Hp} {x1 : Int32} {q0 : (Int32 × Hp)} (hF : F_X12_byteAt n h x1 = some q0) (hG : G h)  : Kc mX12_byteAt (d) [.ref 226, .int x1] h (fun r1 h1 => r1 = some (.int q0.1) ∧ h1 = q0.2 ∧ G q0.2) := by
  obtain ⟨r, h'⟩ := q0
  unfold F_X12_byteAt at hF
  refine Kc.of [some (.ref 226), some (.int x1)] ok_X12_byteAt rfl (Nat.le_of_ble_eq_true rfl) ?_
  refine v_iload_n (i := 1) dX12_byteAt_0 rfl rfl ?_
  refine v_aload_n (i := 0) dX12_byteAt_1 rfl rfl ?_
  refine g_X12_184 rfl sh_226 (by exact ltG hG (by decide)) dX12_byteAt_2 ?_
  refine v_icmp_ge 21 dX12_byteAt_5 (by decide) (fun c1 => ?_) (fun c1 => ?_)
  · rw [if_pos c1] at hF
    refine v_iconst (v := 0) dX12_byteAt_21 (by decide) ?_
    refine v_ireturn rfl dX12_byteAt_22 ?_
    obtain ⟨rfl, rfl⟩ := Prod.mk.inj (Option.some.inj hF)
    exact ⟨rfl, rfl, hG⟩
  · rw [if_neg c1] at hF
    refine v_aload_n (i := 0) dX12_byteAt_8 rfl rfl ?_
    refine g_X12_17 (q := 228) rfl sh_226 (by exact ltG hG (by decide)) (by exact rG hG r0_226_3) dX12_byteAt_9 ?_
    refine v_iload_n (i := 1) dX12_byteAt_12 rfl rfl ?_
    obtain ⟨k2, hF⟩ := ck_some hF
    refine v_baload sh_228 (by exact ltG hG (by decide)) (ixO k2) dX12_byteAt_13 ?_
    refine v_sipush (v := 255) dX12_byteAt_14 (by decide) ?_
    refine v_iand dX12_byteAt_17 ?_
    refine v_goto 22 dX12_byteAt_18 (by decide) ?_
    refine v_ireturn rfl dX12_byteAt_22 ?_
    obtain ⟨rfl, rfl⟩ := Prod.mk.inj (Option.some.inj hF)
    exact ⟨rfl, rfl, hG⟩
def F_X12_cellAt (n : Nat) (h : Hp) (x1 : Int32) (x2 : Int32) : Option (Int32 × Hp) := (if ixOK (hi h 226 18) 2 = true then some ((((hi h 235 (Int32.toNatClampNeg (hi h 226 18))) * x2) + x1), h) else none)
set_option maxRecDepth 100000 in
set_option maxHeartbeats 4000000 in
theorem s_X12_cellAt (d : Nat) {n : Nat} {h : Hp} {x1 : Int32} {x2 : Int32} {q0 : (Int32 × Hp)} (hF : F_X12_cellAt n h x1 x2 = some q0) (hG : G h)  : Kc mX12_cellAt (d) [.ref 226, .int x1, .int x2] h (fun r1 h1 => r1 = some (.int q0.1) ∧ h1 = q0.2 ∧ G q0.2) := by
  obtain ⟨r, h'⟩ := q0
  unfold F_X12_cellAt at hF
  refine Kc.of [some (.ref 226), some (.int x1), some (.int x2)] ok_X12_cellAt rfl (Nat.le_of_ble_eq_true rfl) ?_
  refine v_aload_n (i := 0) dX12_cellAt_0 rfl rfl ?_
  refine g_X12_43 (q := 235) rfl sh_226 (by exact ltG hG (by decide)) (by exact rG hG r0_226_22) dX12_cellAt_1 ?_
  refine v_aload_n (i := 0) dX12_cellAt_4 rfl rfl ?_
  refine g_X12_245 rfl sh_226 (by exact ltG hG (by decide)) dX12_cellAt_5 ?_
  obtain ⟨k1, hF⟩ := ck_some hF
  refine v_iaload sh_235 (by exact ltG hG (by decide)) (ixO k1) dX12_cellAt_8 ?_
  refine v_iload_n (i := 2) dX12_cellAt_9 rfl rfl ?_
  refine v_imul dX12_cellAt_10 ?_
  refine v_iload_n (i := 1) dX12_cellAt_11 rfl rfl ?_
  refine v_iadd dX12_cellAt_12 ?_
  refine v_ireturn rfl dX12_cellAt_13 ?_
  obtain ⟨rfl, rfl⟩ := Prod.mk.inj (Option.some.inj hF)
  exact ⟨rfl, rfl, hG⟩
def F_X12_cells (n : Nat) (h : Hp) : Option (Int32 × Hp) := (if ixOK (hi h 226 18) 2 = true then (if ixOK (hi h 226 18) 2 = true then some (((hi h 235 (Int32.toNatClampNeg (hi h 226 18))) * (hi h 236 (Int32.toNatClampNeg (hi h 226 18)))), h) else none) else none)
set_option maxRecDepth 100000 in
set_option maxHeartbeats 4000000 in
theorem s_X12_cells (d : Nat) {n : Nat} {h : Hp}  {q0 : (Int32 × Hp)} (hF : F_X12_cells n h  = some q0) (hG : G h)  : Kc mX12_cells (d) [.ref 226] h (fun r1 h1 => r1 = some (.int q0.1) ∧ h1 = q0.2 ∧ G q0.2) := by
  obtain ⟨r, h'⟩ := q0
  unfold F_X12_cells at hF
  refine Kc.of [some (.ref 226)] ok_X12_cells rfl (Nat.le_of_ble_eq_true rfl) ?_
  refine v_aload_n (i := 0) dX12_cells_0 rfl rfl ?_
  refine g_X12_43 (q := 235) rfl sh_226 (by exact ltG hG (by decide)) (by exact rG hG r0_226_22) dX12_cells_1 ?_
  refine v_aload_n (i := 0) dX12_cells_4 rfl rfl ?_
  refine g_X12_245 rfl sh_226 (by exact ltG hG (by decide)) dX12_cells_5 ?_
  obtain ⟨k1, hF⟩ := ck_some hF
  refine v_iaload sh_235 (by exact ltG hG (by decide)) (ixO k1) dX12_cells_8 ?_
  refine v_aload_n (i := 0) dX12_cells_9 rfl rfl ?_
  refine g_X12_46 (q := 236) rfl sh_226 (by exact ltG hG (by decide)) (by exact rG hG r0_226_23) dX12_cells_10 ?_
  refine v_aload_n (i := 0) dX12_cells_13 rfl rfl ?_
  refine g_X12_245 rfl sh_226 (by exact ltG hG (by decide)) dX12_cells_14 ?_
  obtain ⟨k2, hF⟩ := ck_some hF
  refine v_iaload sh_236 (by exact ltG hG (by decide)) (ixO k2) dX12_cells_17 ?_
  refine v_imul dX12_cells_18 ?_
  refine v_ireturn rfl dX12_cells_19 ?_
  obtain ⟨rfl, rfl⟩ := Prod.mk.inj (Option.some.inj hF)
  exact ⟨rfl, rfl, hG⟩
def W_X12_copies : Nat → Nat → Hp → Int32 → Option Hp
  | 0 => fun _ _ _ => none
  | n + 1 => fun hd h l1 => (if hd = 2 then (if (63 : Int32) ≤ (l1 : Int32) then (if ixOK (hi h 226 18) 2 = true then some (wrI (wrI h 226 55 (hi h 249 (Int32.toNatClampNeg (hi h 226 18)))) 226 56 0) else none) else (if ixOK l1 63 = true then (if ixOK l1 63 = true then W_X12_copies n 2 (wrI h 263 (Int32.toNatClampNeg l1) (hi h 262 (Int32.toNatClampNeg l1)))  (l1 + 1) else none) else none)) else none)
set_option maxRecDepth 100000 in
set_option maxHeartbeats 4000000 in
theorem sw_X12_copies (d : Nat)  (n : Nat) : (∀ (l1 : Int32) (h : Hp), ∀ (h' : Hp), W_X12_copies n 2 h  l1 = some h' → G h → V mX12_copies (d) 2 [some (.ref 226), some (.int l1)] [] h (fun r1 h1 => r1 = none ∧ h1 = h' ∧ G h')) := by
  induction n with
  | zero => exact by intros; contradiction
  | succ n ih =>
    have s_X12_copies_IH_2 := ih
    intro l1 h h' hF hG
    unfold W_X12_copies at hF
    rw [if_pos rfl] at hF
    refine v_iload_n (i := 1) dX12_copies_2 rfl rfl ?_
    refine v_bipush (v := 63) dX12_copies_3 (by decide) ?_
    refine v_icmp_ge 26 dX12_copies_5 (by decide) (fun c1 => ?_) (fun c1 => ?_)
    · rw [if_pos c1] at hF
      refine v_aload_n (i := 0) dX12_copies_26 rfl rfl ?_
      refine v_aload_n (i := 0) dX12_copies_27 rfl rfl ?_
      refine g_X12_85 (q := 249) rfl sh_226 (by exact ltG hG (by decide)) (by exact rG hG r0_226_36) dX12_copies_28 ?_
      refine v_aload_n (i := 0) dX12_copies_31 rfl rfl ?_
      refine g_X12_245 rfl sh_226 (by exact ltG hG (by decide)) dX12_copies_32 ?_
      obtain ⟨k2, hF⟩ := ck_some hF
      refine v_iaload sh_249 (by exact ltG hG (by decide)) (ixO k2) dX12_copies_35 ?_
      refine p_X12_337 rfl sh_226 (by exact ltG hG (by decide)) dX12_copies_36 ?_
      refine v_aload_n (i := 0) dX12_copies_39 rfl rfl ?_
      refine v_iconst (v := 0) dX12_copies_40 (by decide) ?_
      refine p_X12_340 rfl sh_226 (by exact ltG hG (by decide)) (by decide) dX12_copies_41 ?_
      refine v_return rfl dX12_copies_44 ?_
      obtain rfl := Option.some.inj hF
      exact ⟨rfl, rfl, hG⟩
    · rw [if_neg c1] at hF
      refine v_aload_n (i := 0) dX12_copies_8 rfl rfl ?_
      refine g_X12_128 (q := 263) rfl sh_226 (by exact ltG hG (by decide)) (by exact rG hG r0_226_54) dX12_copies_9 ?_
      refine v_iload_n (i := 1) dX12_copies_12 rfl rfl ?_
      refine v_aload_n (i := 0) dX12_copies_13 rfl rfl ?_
      refine g_X12_125 (q := 262) rfl sh_226 (by exact ltG hG (by decide)) (by exact rG hG r0_226_53) dX12_copies_14 ?_
      refine v_iload_n (i := 1) dX12_copies_17 rfl rfl ?_
      obtain ⟨k3, hF⟩ := ck_some hF
      refine v_iaload sh_262 (by exact ltG hG (by decide)) (ixO k3) dX12_copies_18 ?_
      obtain ⟨k4, hF⟩ := ck_some hF
      refine v_iastore sh_263 (by exact ltG hG (by decide)) (ixO k4) dX12_copies_19 ?_
      refine v_iinc (i := 1) (v := (l1 + 1)) dX12_copies_20 rfl rfl (by decide) (nlT rfl) ?_
      simp only [List.set_cons_zero, List.set_cons_succ]
      refine v_goto 2 dX12_copies_23 (by decide) ?_
      refine V.weak (la2 := [some (.ref 226), some (.int (l1 + 1))]) (by simp [wk]) ?_
      exact (s_X12_copies_IH_2) _ _ _ hF hG
def F_X12_copies (n : Nat) (h : Hp) : Option Hp := W_X12_copies n 2 h  0
set_option maxRecDepth 100000 in
set_option maxHeartbeats 4000000 in
theorem s_X12_copies (d : Nat) {n : Nat} {h : Hp}  {q0 : Hp} (hF : F_X12_copies n h  = some q0) (hG : G h)  : Kc mX12_copies (d) [.ref 226] h (fun r1 h1 => r1 = none ∧ h1 = q0 ∧ G q0) := by
  obtain ⟨h', rfl⟩ : ∃ z, z = q0 := ⟨_, rfl⟩
  have s_X12_copies_IH_2 := sw_X12_copies d   n
  unfold F_X12_copies at hF
  refine Kc.of [some (.ref 226), none] ok_X12_copies rfl (Nat.le_of_ble_eq_true rfl) ?_
  refine v_iconst (v := 0) dX12_copies_0 (by decide) ?_
  refine v_istore_n (i := 1) dX12_copies_1 rfl (by decide) (nlT rfl) ?_
  simp only [List.set_cons_zero, List.set_cons_succ]
  refine V.weak (la2 := [some (.ref 226), some (.int 0)]) (by simp [wk]) ?_
  exact (s_X12_copies_IH_2) _ _ _ hF hG
def F_X12_copiesStill (n : Nat) (h : Hp) : Option Hp := ((F_X12_copies n h).bind (fun q1 => some (wrI q1 226 56 1)))
set_option maxRecDepth 100000 in
set_option maxHeartbeats 4000000 in
theorem s_X12_copiesStill (d : Nat) {n : Nat} {h : Hp}  {q0 : Hp} (hF : F_X12_copiesStill n h  = some q0) (hG : G h)  : Kc mX12_copiesStill (d + 1) [.ref 226] h (fun r1 h1 => r1 = none ∧ h1 = q0 ∧ G q0) := by
  obtain ⟨h', rfl⟩ : ∃ z, z = q0 := ⟨_, rfl⟩
  unfold F_X12_copiesStill at hF
  refine Kc.of [some (.ref 226)] ok_X12_copiesStill rfl (Nat.le_of_ble_eq_true rfl) ?_
  refine v_aload_n (i := 0) dX12_copiesStill_0 rfl rfl ?_
  obtain ⟨q1, q1_e, hF⟩ := Option.bind_eq_some_iff.mp hF
  refine c_X12_346 rfl sh_226 (by exact ltG hG (by decide)) (Nat.le_of_ble_eq_true rfl) dX12_copiesStill_1 (s_X12_copies _ q1_e hG) (fun r1 h1 hq => ?_)
  obtain ⟨rfl, hq, hG⟩ := hq
  replace hq := hq.symm
  subst hq
  simp only [Option.toList, List.nil_append]
  refine v_aload_n (i := 0) dX12_copiesStill_4 rfl rfl ?_
  refine v_iconst (v := 1) dX12_copiesStill_5 (by decide) ?_
  refine p_X12_340 rfl sh_226 (by exact ltG hG (by decide)) (by decide) dX12_copiesStill_6 ?_
  refine v_return rfl dX12_copiesStill_9 ?_
  obtain rfl := Option.some.inj hF
  exact ⟨rfl, rfl, hG⟩
def W_X12_doesFit : Nat → Nat → Hp → Int32 → Int32 → Int32 → Int32 → Option (Int32 × Hp)
  | 0 => fun _ _ _ _ _ _ => none
  | n + 1 => fun hd h l1 l2 l3 l4 => (if hd = 3 then (if (l3 : Int32) ≤ (l4 : Int32) then some (1, h) else (if ixOK l4 20 = true then (if l1 = 0 then none else (if (((hi h 271 (Int32.toNatClampNeg l4)) - (hi h 271 (Int32.toNatClampNeg l4)) / l1 * l1) : Int32) = (l2 : Int32) then (if ixOK l4 20 = true then (if (1 : Int32) = ((vp_nar .boolean (hi h 272 (Int32.toNatClampNeg l4))) : Int32) then W_X12_doesFit n 3 h  l1 l2 l3 (l4 + 1) else some (0, h)) else none) else (if ixOK l4 20 = true then (if (0 : Int32) = ((vp_nar .boolean (hi h 272 (Int32.toNatClampNeg l4))) : Int32) then W_X12_doesFit n 3 h  l1 l2 l3 (l4 + 1) else some (0, h)) else none))) else none)) else none)
set_option maxRecDepth 100000 in
set_option maxHeartbeats 4000000 in
theorem sw_X12_doesFit (d : Nat)  (n : Nat) : (∀ (l1 : Int32) (l2 : Int32) (l3 : Int32) (l4 : Int32) (h : Hp), ∀ (r : Int32) (h' : Hp), W_X12_doesFit n 3 h  l1 l2 l3 l4 = some (r, h') → G h → V mX12_doesFit (d) 3 [some (.ref 226), some (.int l1), some (.int l2), some (.int l3), some (.int l4)] [] h (fun r1 h1 => r1 = some (.int r) ∧ h1 = h' ∧ G h')) := by
  induction n with
  | zero => exact by intros; contradiction
  | succ n ih =>
    have s_X12_doesFit_IH_3 := ih
    intro l1 l2 l3 l4 h r h' hF hG
    unfold W_X12_doesFit at hF
    rw [if_pos rfl] at hF
    refine v_iload (i := 4) dX12_doesFit_3 rfl ?_
    refine v_iload_n (i := 3) dX12_doesFit_5 rfl rfl ?_
    refine v_icmp_ge 45 dX12_doesFit_6 (by decide) (fun c1 => ?_) (fun c1 => ?_)
    · rw [if_pos c1] at hF
      refine v_iconst (v := 1) dX12_doesFit_45 (by decide) ?_
      refine v_zreturn rfl (by decide) dX12_doesFit_46 ?_
      obtain ⟨rfl, rfl⟩ := Prod.mk.inj (Option.some.inj hF)
      exact ⟨rfl, rfl, hG⟩
    · rw [if_neg c1] at hF
      refine v_aload_n (i := 0) dX12_doesFit_9 rfl rfl ?_
      refine g_X12_152 (q := 271) rfl sh_226 (by exact ltG hG (by decide)) (by exact rG hG r0_226_66) dX12_doesFit_10 ?_
      refine v_iload (i := 4) dX12_doesFit_13 rfl ?_
      obtain ⟨k2, hF⟩ := ck_some hF
      refine v_iaload sh_271 (by exact ltG hG (by decide)) (ixO k2) dX12_doesFit_15 ?_
      refine v_iload_n (i := 1) dX12_doesFit_16 rfl rfl ?_
      obtain ⟨k3, hF⟩ := ck_none hF
      refine v_irem dX12_doesFit_17 k3 ?_
      refine v_iload_n (i := 2) dX12_doesFit_18 rfl rfl ?_
      refine v_icmp_ne 26 dX12_doesFit_19 (by decide) (fun c4 => ?_) (fun c4 => ?_)
      · rw [if_neg c4] at hF
        refine v_iconst (v := 0) dX12_doesFit_26 (by decide) ?_
        refine v_aload_n (i := 0) dX12_doesFit_27 rfl rfl ?_
        refine g_X12_155 (q := 272) rfl sh_226 (by exact ltG hG (by decide)) (by exact rG hG r0_226_67) dX12_doesFit_28 ?_
        refine v_iload (i := 4) dX12_doesFit_31 rfl ?_
        obtain ⟨k5, hF⟩ := ck_some hF
        refine v_zaload sh_272 (by exact ltG hG (by decide)) (ixO k5) dX12_doesFit_33 ?_
        refine v_icmp_eq 39 dX12_doesFit_34 (by decide) (fun c6 => ?_) (fun c6 => ?_)
        · rw [if_pos c6] at hF
          refine v_iinc (i := 4) (v := (l4 + 1)) dX12_doesFit_39 rfl rfl (by decide) (nlT rfl) ?_
          simp only [List.set_cons_zero, List.set_cons_succ]
          refine v_goto 3 dX12_doesFit_42 (by decide) ?_
          refine V.weak (la2 := [some (.ref 226), some (.int l1), some (.int l2), some (.int l3), some (.int (l4 + 1))]) (by simp [wk]) ?_
          exact (s_X12_doesFit_IH_3) _ _ _ _ _ _ _ hF hG
        · rw [if_neg c6] at hF
          refine v_iconst (v := 0) dX12_doesFit_37 (by decide) ?_
          refine v_zreturn rfl (by decide) dX12_doesFit_38 ?_
          obtain ⟨rfl, rfl⟩ := Prod.mk.inj (Option.some.inj hF)
          exact ⟨rfl, rfl, hG⟩
      · rw [if_pos c4] at hF
        refine v_iconst (v := 1) dX12_doesFit_22 (by decide) ?_
        refine v_goto 27 dX12_doesFit_23 (by decide) ?_
        refine v_aload_n (i := 0) dX12_doesFit_27 rfl rfl ?_
        refine g_X12_155 (q := 272) rfl sh_226 (by exact ltG hG (by decide)) (by exact rG hG r0_226_67) dX12_doesFit_28 ?_
        refine v_iload (i := 4) dX12_doesFit_31 rfl ?_
        obtain ⟨k7, hF⟩ := ck_some hF
        refine v_zaload sh_272 (by exact ltG hG (by decide)) (ixO k7) dX12_doesFit_33 ?_
        refine v_icmp_eq 39 dX12_doesFit_34 (by decide) (fun c8 => ?_) (fun c8 => ?_)
        · rw [if_pos c8] at hF
          refine v_iinc (i := 4) (v := (l4 + 1)) dX12_doesFit_39 rfl rfl (by decide) (nlT rfl) ?_
          simp only [List.set_cons_zero, List.set_cons_succ]
          refine v_goto 3 dX12_doesFit_42 (by decide) ?_
          refine V.weak (la2 := [some (.ref 226), some (.int l1), some (.int l2), some (.int l3), some (.int (l4 + 1))]) (by simp [wk]) ?_
          exact (s_X12_doesFit_IH_3) _ _ _ _ _ _ _ hF hG
        · rw [if_neg c8] at hF
          refine v_iconst (v := 0) dX12_doesFit_37 (by decide) ?_
          refine v_zreturn rfl (by decide) dX12_doesFit_38 ?_
          obtain ⟨rfl, rfl⟩ := Prod.mk.inj (Option.some.inj hF)
          exact ⟨rfl, rfl, hG⟩
def F_X12_doesFit (n : Nat) (h : Hp) (x1 : Int32) (x2 : Int32) (x3 : Int32) : Option (Int32 × Hp) := W_X12_doesFit n 3 h  x1 x2 x3 0
set_option maxRecDepth 100000 in
set_option maxHeartbeats 4000000 in
theorem s_X12_doesFit (d : Nat) {n : Nat} {h : Hp} {x1 : Int32} {x2 : Int32} {x3 : Int32} {q0 : (Int32 × Hp)} (hF : F_X12_doesFit n h x1 x2 x3 = some q0) (hG : G h)  : Kc mX12_doesFit (d) [.ref 226, .int x1, .int x2, .int x3] h (fun r1 h1 => r1 = some (.int q0.1) ∧ h1 = q0.2 ∧ G q0.2) := by
  obtain ⟨r, h'⟩ := q0
  have s_X12_doesFit_IH_3 := sw_X12_doesFit d   n
  unfold F_X12_doesFit at hF
  refine Kc.of [some (.ref 226), some (.int x1), some (.int x2), some (.int x3), none] ok_X12_doesFit rfl (Nat.le_of_ble_eq_true rfl) ?_
  refine v_iconst (v := 0) dX12_doesFit_0 (by decide) ?_
  refine v_istore (i := 4) dX12_doesFit_1 (by decide) (nlT rfl) ?_
  simp only [List.set_cons_zero, List.set_cons_succ]
  refine V.weak (la2 := [some (.ref 226), some (.int x1), some (.int x2), some (.int x3), some (.int 0)]) (by simp [wk]) ?_
  exact (s_X12_doesFit_IH_3) _ _ _ _ _ _ _ hF hG
def F_X12_emit (n : Nat) (h : Hp) (x1 : Int32) (x2 : Int32) : Option Hp := (if ixOK (hi h 226 45) 840 = true then (if ixOK (hi (wrI h 257 (Int32.toNatClampNeg (hi h 226 45)) x1) 226 45) 840 = true then some (wrI (wrI (wrI h 257 (Int32.toNatClampNeg (hi h 226 45)) x1) 258 (Int32.toNatClampNeg (hi (wrI h 257 (Int32.toNatClampNeg (hi h 226 45)) x1) 226 45)) x2) 226 45 ((hi (wrI (wrI h 257 (Int32.toNatClampNeg (hi h 226 45)) x1) 258 (Int32.toNatClampNeg (hi (wrI h 257 (Int32.toNatClampNeg (hi h 226 45)) x1) 226 45)) x2) 226 45) + 1)) else none) else none)
set_option maxRecDepth 100000 in
set_option maxHeartbeats 4000000 in
theorem s_X12_emit (d : Nat) {n : Nat} {h : Hp} {x1 : Int32} {x2 : Int32} {q0 : Hp} (hF : F_X12_emit n h x1 x2 = some q0) (hG : G h)  : Kc mX12_emit (d) [.ref 226, .int x1, .int x2] h (fun r1 h1 => r1 = none ∧ h1 = q0 ∧ G q0) := by
  obtain ⟨h', rfl⟩ : ∃ z, z = q0 := ⟨_, rfl⟩
  unfold F_X12_emit at hF
  refine Kc.of [some (.ref 226), some (.int x1), some (.int x2)] ok_X12_emit rfl (Nat.le_of_ble_eq_true rfl) ?_
  refine v_aload_n (i := 0) dX12_emit_0 rfl rfl ?_
  refine g_X12_110 (q := 257) rfl sh_226 (by exact ltG hG (by decide)) (by exact rG hG r0_226_46) dX12_emit_1 ?_
  refine v_aload_n (i := 0) dX12_emit_4 rfl rfl ?_
  refine g_X12_257 rfl sh_226 (by exact ltG hG (by decide)) dX12_emit_5 ?_
  refine v_iload_n (i := 1) dX12_emit_8 rfl rfl ?_
  obtain ⟨k1, hF⟩ := ck_some hF
  refine v_iastore sh_257 (by exact ltG hG (by decide)) (ixO k1) dX12_emit_9 ?_
  refine v_aload_n (i := 0) dX12_emit_10 rfl rfl ?_
  refine g_X12_113 (q := 258) rfl sh_226 (by exact ltG hG (by decide)) (by exact rG hG r0_226_47) dX12_emit_11 ?_
  refine v_aload_n (i := 0) dX12_emit_14 rfl rfl ?_
  refine g_X12_257 rfl sh_226 (by exact ltG hG (by decide)) dX12_emit_15 ?_
  refine v_iload_n (i := 2) dX12_emit_18 rfl rfl ?_
  obtain ⟨k2, hF⟩ := ck_some hF
  refine v_iastore sh_258 (by exact ltG hG (by decide)) (ixO k2) dX12_emit_19 ?_
  refine v_aload_n (i := 0) dX12_emit_20 rfl rfl ?_
  refine v_dup dX12_emit_21 rfl ?_
  refine g_X12_257 rfl sh_226 (by exact ltG hG (by decide)) dX12_emit_22 ?_
  refine v_iconst (v := 1) dX12_emit_25 (by decide) ?_
  refine v_iadd dX12_emit_26 ?_
  refine p_X12_257 rfl sh_226 (by exact ltG hG (by decide)) dX12_emit_27 ?_
  refine v_return rfl dX12_emit_30 ?_
  obtain rfl := Option.some.inj hF
  exact ⟨rfl, rfl, hG⟩
def F_X12_fail (n : Nat) (h : Hp) (x1 : Int32) : Option Hp := (if ((hi h 226 13) : Int32) ≤ 0 then (if ixOK (hi (wrI h 226 13 x1) 226 11) 403 = true then some (wrI (wrI h 226 13 x1) 226 14 (hi (wrI h 226 13 x1) 230 (Int32.toNatClampNeg (hi (wrI h 226 13 x1) 226 11)))) else none) else some h)
set_option maxRecDepth 100000 in
set_option maxHeartbeats 4000000 in
theorem s_X12_fail (d : Nat) {n : Nat} {h : Hp} {x1 : Int32} {q0 : Hp} (hF : F_X12_fail n h x1 = some q0) (hG : G h)  : Kc mX12_fail (d) [.ref 226, .int x1] h (fun r1 h1 => r1 = none ∧ h1 = q0 ∧ G q0) := by
  obtain ⟨h', rfl⟩ : ∃ z, z = q0 := ⟨_, rfl⟩
  unfold F_X12_fail at hF
  refine Kc.of [some (.ref 226), some (.int x1)] ok_X12_fail rfl (Nat.le_of_ble_eq_true rfl) ?_
  refine v_aload_n (i := 0) dX12_fail_0 rfl rfl ?_
  refine g_X12_215 rfl sh_226 (by exact ltG hG (by decide)) dX12_fail_1 ?_
  refine v_if_le 8 dX12_fail_4 (by decide) (fun c1 => ?_) (fun c1 => ?_)
  · rw [if_pos c1] at hF
    refine v_aload_n (i := 0) dX12_fail_8 rfl rfl ?_
    refine v_iload_n (i := 1) dX12_fail_9 rfl rfl ?_
    refine p_X12_215 rfl sh_226 (by exact ltG hG (by decide)) dX12_fail_10 ?_
    refine v_aload_n (i := 0) dX12_fail_13 rfl rfl ?_
    refine v_aload_n (i := 0) dX12_fail_14 rfl rfl ?_
    refine g_X12_24 (q := 230) rfl sh_226 (by exact ltG hG (by decide)) (by exact rG hG r0_226_6) dX12_fail_15 ?_
    refine v_aload_n (i := 0) dX12_fail_18 rfl rfl ?_
    refine g_X12_218 rfl sh_226 (by exact ltG hG (by decide)) dX12_fail_19 ?_
    obtain ⟨k2, hF⟩ := ck_some hF
    refine v_iaload sh_230 (by exact ltG hG (by decide)) (ixO k2) dX12_fail_22 ?_
    refine p_X12_221 rfl sh_226 (by exact ltG hG (by decide)) dX12_fail_23 ?_
    refine v_return rfl dX12_fail_26 ?_
    obtain rfl := Option.some.inj hF
    exact ⟨rfl, rfl, hG⟩
  · rw [if_neg c1] at hF
    refine v_return rfl dX12_fail_7 ?_
    obtain rfl := Option.some.inj hF
    exact ⟨rfl, rfl, hG⟩
def W_X12_fillsSides : Nat → Nat → Hp → Int32 → Int32 → Int32 → Option Hp
  | 0 => fun _ _ _ _ _ => none
  | n + 1 => fun hd h l1 l2 l3 => (if hd = 12 then ((F_X12_cells n h).bind (fun q1 => (if (q1.1 : Int32) ≤ (l2 : Int32) then some q1.2 else W_X12_fillsSides n 22 q1.2  l1 l2 0))) else (if hd = 22 then (if (5 : Int32) ≤ (l3 : Int32) then (if l1 = 0 then none else (if ((l1 - 1) : Int32) ≤ ((l2 - l2 / l1 * l1) : Int32) then ((F_X12_cells n h).bind (fun q7 => (if (q7.1 : Int32) ≤ ((l2 + l1) : Int32) then (if l1 = 0 then none else (if ((l2 - l2 / l1 * l1) : Int32) ≤ 0 then (if (l2 : Int32) < (l1 : Int32) then W_X12_fillsSides n 12 q7.2  l1 (l2 + 1) 0 else (if ixOK ((5 * l2) + 4) 125 = true then W_X12_fillsSides n 12 (wrI q7.2 264 (Int32.toNatClampNeg ((5 * l2) + 4)) (l2 - l1))  l1 (l2 + 1) 0 else none)) else (if ixOK ((5 * l2) + 3) 125 = true then (if (l2 : Int32) < (l1 : Int32) then W_X12_fillsSides n 12 (wrI q7.2 264 (Int32.toNatClampNeg ((5 * l2) + 3)) (l2 - 1))  l1 (l2 + 1) 0 else (if ixOK ((5 * l2) + 4) 125 = true then W_X12_fillsSides n 12 (wrI (wrI q7.2 264 (Int32.toNatClampNeg ((5 * l2) + 3)) (l2 - 1)) 264 (Int32.toNatClampNeg ((5 * l2) + 4)) (l2 - l1))  l1 (l2 + 1) 0 else none)) else none))) else (if ixOK ((5 * l2) + 2) 125 = true then (if l1 = 0 then none else (if ((l2 - l2 / l1 * l1) : Int32) ≤ 0 then (if (l2 : Int32) < (l1 : Int32) then W_X12_fillsSides n 12 (wrI q7.2 264 (Int32.toNatClampNeg ((5 * l2) + 2)) (l2 + l1))  l1 (l2 + 1) 0 else (if ixOK ((5 * l2) + 4) 125 = true then W_X12_fillsSides n 12 (wrI (wrI q7.2 264 (Int32.toNatClampNeg ((5 * l2) + 2)) (l2 + l1)) 264 (Int32.toNatClampNeg ((5 * l2) + 4)) (l2 - l1))  l1 (l2 + 1) 0 else none)) else (if ixOK ((5 * l2) + 3) 125 = true then (if (l2 : Int32) < (l1 : Int32) then W_X12_fillsSides n 12 (wrI (wrI q7.2 264 (Int32.toNatClampNeg ((5 * l2) + 2)) (l2 + l1)) 264 (Int32.toNatClampNeg ((5 * l2) + 3)) (l2 - 1))  l1 (l2 + 1) 0 else (if ixOK ((5 * l2) + 4) 125 = true then W_X12_fillsSides n 12 (wrI (wrI (wrI q7.2 264 (Int32.toNatClampNeg ((5 * l2) + 2)) (l2 + l1)) 264 (Int32.toNatClampNeg ((5 * l2) + 3)) (l2 - 1)) 264 (Int32.toNatClampNeg ((5 * l2) + 4)) (l2 - l1))  l1 (l2 + 1) 0 else none)) else none))) else none)))) else (if ixOK ((5 * l2) + 1) 125 = true then ((F_X12_cells n (wrI h 264 (Int32.toNatClampNeg ((5 * l2) + 1)) (l2 + 1))).bind (fun q26 => (if (q26.1 : Int32) ≤ ((l2 + l1) : Int32) then (if l1 = 0 then none else (if ((l2 - l2 / l1 * l1) : Int32) ≤ 0 then (if (l2 : Int32) < (l1 : Int32) then W_X12_fillsSides n 12 q26.2  l1 (l2 + 1) 0 else (if ixOK ((5 * l2) + 4) 125 = true then W_X12_fillsSides n 12 (wrI q26.2 264 (Int32.toNatClampNeg ((5 * l2) + 4)) (l2 - l1))  l1 (l2 + 1) 0 else none)) else (if ixOK ((5 * l2) + 3) 125 = true then (if (l2 : Int32) < (l1 : Int32) then W_X12_fillsSides n 12 (wrI q26.2 264 (Int32.toNatClampNeg ((5 * l2) + 3)) (l2 - 1))  l1 (l2 + 1) 0 else (if ixOK ((5 * l2) + 4) 125 = true then W_X12_fillsSides n 12 (wrI (wrI q26.2 264 (Int32.toNatClampNeg ((5 * l2) + 3)) (l2 - 1)) 264 (Int32.toNatClampNeg ((5 * l2) + 4)) (l2 - l1))  l1 (l2 + 1) 0 else none)) else none))) else (if ixOK ((5 * l2) + 2) 125 = true then (if l1 = 0 then none else (if ((l2 - l2 / l1 * l1) : Int32) ≤ 0 then (if (l2 : Int32) < (l1 : Int32) then W_X12_fillsSides n 12 (wrI q26.2 264 (Int32.toNatClampNeg ((5 * l2) + 2)) (l2 + l1))  l1 (l2 + 1) 0 else (if ixOK ((5 * l2) + 4) 125 = true then W_X12_fillsSides n 12 (wrI (wrI q26.2 264 (Int32.toNatClampNeg ((5 * l2) + 2)) (l2 + l1)) 264 (Int32.toNatClampNeg ((5 * l2) + 4)) (l2 - l1))  l1 (l2 + 1) 0 else none)) else (if ixOK ((5 * l2) + 3) 125 = true then (if (l2 : Int32) < (l1 : Int32) then W_X12_fillsSides n 12 (wrI (wrI q26.2 264 (Int32.toNatClampNeg ((5 * l2) + 2)) (l2 + l1)) 264 (Int32.toNatClampNeg ((5 * l2) + 3)) (l2 - 1))  l1 (l2 + 1) 0 else (if ixOK ((5 * l2) + 4) 125 = true then W_X12_fillsSides n 12 (wrI (wrI (wrI q26.2 264 (Int32.toNatClampNeg ((5 * l2) + 2)) (l2 + l1)) 264 (Int32.toNatClampNeg ((5 * l2) + 3)) (l2 - 1)) 264 (Int32.toNatClampNeg ((5 * l2) + 4)) (l2 - l1))  l1 (l2 + 1) 0 else none)) else none))) else none)))) else none))) else (if ixOK ((5 * l2) + l3) 125 = true then W_X12_fillsSides n 22 (wrI h 264 (Int32.toNatClampNeg ((5 * l2) + l3)) l2)  l1 l2 (l3 + 1) else none)) else none))
set_option maxRecDepth 100000 in
set_option maxHeartbeats 4000000 in
theorem sw_X12_fillsSides (d : Nat)  (n : Nat) : (∀ (l1 : Int32) (l2 : Int32) (h : Hp), ∀ (h' : Hp), W_X12_fillsSides n 12 h  l1 l2 0 = some h' → G h → V mX12_fillsSides (d + 1) 12 [some (.ref 226), some (.int l1), some (.int l2), none] [] h (fun r1 h1 => r1 = none ∧ h1 = h' ∧ G h')) ∧ (∀ (l1 : Int32) (l2 : Int32) (l3 : Int32) (h : Hp), ∀ (h' : Hp), W_X12_fillsSides n 22 h  l1 l2 l3 = some h' → G h → V mX12_fillsSides (d + 1) 22 [some (.ref 226), some (.int l1), some (.int l2), some (.int l3)] [] h (fun r1 h1 => r1 = none ∧ h1 = h' ∧ G h')) := by
  induction n with
  | zero => exact ⟨by intros; contradiction, by intros; contradiction⟩
  | succ n ih =>
    obtain ⟨s_X12_fillsSides_IH_12, s_X12_fillsSides_IH_22⟩ := ih
    refine ⟨?_, ?_⟩
    · intro l1 l2 h h' hF hG
      unfold W_X12_fillsSides at hF
      rw [if_pos rfl] at hF
      refine v_iload_n (i := 2) dX12_fillsSides_12 rfl rfl ?_
      refine v_aload_n (i := 0) dX12_fillsSides_13 rfl rfl ?_
      obtain ⟨q1, q1_e, hF⟩ := Option.bind_eq_some_iff.mp hF
      refine c_X12_326 rfl sh_226 (by exact ltG hG (by decide)) (Nat.le_of_ble_eq_true rfl) dX12_fillsSides_14 (s_X12_cells _ q1_e hG) (fun r1 h1 hq => ?_)
      obtain ⟨rfl, hq, hG⟩ := hq
      replace hq := hq.symm
      subst hq
      show V _ _ _ _ (_ :: _) _ _
      refine v_icmp_ge 132 dX12_fillsSides_17 (by decide) (fun c3 => ?_) (fun c3 => ?_)
      · rw [if_pos c3] at hF
        refine v_return rfl dX12_fillsSides_132 ?_
        obtain rfl := Option.some.inj hF
        exact ⟨rfl, rfl, hG⟩
      · rw [if_neg c3] at hF
        refine v_iconst (v := 0) dX12_fillsSides_20 (by decide) ?_
        refine v_istore_n (i := 3) dX12_fillsSides_21 rfl (by decide) (nlT rfl) ?_
        simp only [List.set_cons_zero, List.set_cons_succ]
        refine V.weak (la2 := [some (.ref 226), some (.int l1), some (.int l2), some (.int 0)]) (by simp [wk]) ?_
        exact (s_X12_fillsSides_IH_22) _ _ _ _ _ hF hG
    · intro l1 l2 l3 h h' hF hG
      unfold W_X12_fillsSides at hF
      rw [if_neg (by decide)] at hF
      rw [if_pos rfl] at hF
      refine v_iload_n (i := 3) dX12_fillsSides_22 rfl rfl ?_
      refine v_iconst (v := 5) dX12_fillsSides_23 (by decide) ?_
      refine v_icmp_ge 44 dX12_fillsSides_24 (by decide) (fun c4 => ?_) (fun c4 => ?_)
      · rw [if_pos c4] at hF
        refine v_iload_n (i := 2) dX12_fillsSides_44 rfl rfl ?_
        refine v_iload_n (i := 1) dX12_fillsSides_45 rfl rfl ?_
        obtain ⟨k5, hF⟩ := ck_none hF
        refine v_irem dX12_fillsSides_46 k5 ?_
        refine v_iload_n (i := 1) dX12_fillsSides_47 rfl rfl ?_
        refine v_iconst (v := 1) dX12_fillsSides_48 (by decide) ?_
        refine v_isub dX12_fillsSides_49 ?_
        refine v_icmp_ge 66 dX12_fillsSides_50 (by decide) (fun c6 => ?_) (fun c6 => ?_)
        · rw [if_pos c6] at hF
          refine v_iload_n (i := 2) dX12_fillsSides_66 rfl rfl ?_
          refine v_iload_n (i := 1) dX12_fillsSides_67 rfl rfl ?_
          refine v_iadd dX12_fillsSides_68 ?_
          refine v_aload_n (i := 0) dX12_fillsSides_69 rfl rfl ?_
          obtain ⟨q7, q7_e, hF⟩ := Option.bind_eq_some_iff.mp hF
          refine c_X12_326 rfl sh_226 (by exact ltG hG (by decide)) (Nat.le_of_ble_eq_true rfl) dX12_fillsSides_70 (s_X12_cells _ q7_e hG) (fun r1 h1 hq => ?_)
          obtain ⟨rfl, hq, hG⟩ := hq
          replace hq := hq.symm
          subst hq
          show V _ _ _ _ (_ :: _) _ _
          refine v_icmp_ge 89 dX12_fillsSides_73 (by decide) (fun c9 => ?_) (fun c9 => ?_)
          · rw [if_pos c9] at hF
            refine v_iload_n (i := 2) dX12_fillsSides_89 rfl rfl ?_
            refine v_iload_n (i := 1) dX12_fillsSides_90 rfl rfl ?_
            obtain ⟨k10, hF⟩ := ck_none hF
            refine v_irem dX12_fillsSides_91 k10 ?_
            refine v_if_le 108 dX12_fillsSides_92 (by decide) (fun c11 => ?_) (fun c11 => ?_)
            · rw [if_pos c11] at hF
              refine v_iload_n (i := 2) dX12_fillsSides_108 rfl rfl ?_
              refine v_iload_n (i := 1) dX12_fillsSides_109 rfl rfl ?_
              refine v_icmp_lt 126 dX12_fillsSides_110 (by decide) (fun c12 => ?_) (fun c12 => ?_)
              · rw [if_pos c12] at hF
                refine v_iinc (i := 2) (v := (l2 + 1)) dX12_fillsSides_126 rfl rfl (by decide) (nlT rfl) ?_
                simp only [List.set_cons_zero, List.set_cons_succ]
                refine v_goto 12 dX12_fillsSides_129 (by decide) ?_
                refine V.weak (la2 := [some (.ref 226), some (.int l1), some (.int (l2 + 1)), none]) (by simp [wk]) ?_
                exact (s_X12_fillsSides_IH_12) _ _ _ _ hF hG
              · rw [if_neg c12] at hF
                refine v_aload_n (i := 0) dX12_fillsSides_113 rfl rfl ?_
                refine g_X12_131 (q := 264) rfl sh_226 (by exact ltG hG (by decide)) (by exact rG hG r0_226_57) dX12_fillsSides_114 ?_
                refine v_iconst (v := 5) dX12_fillsSides_117 (by decide) ?_
                refine v_iload_n (i := 2) dX12_fillsSides_118 rfl rfl ?_
                refine v_imul dX12_fillsSides_119 ?_
                refine v_iconst (v := 4) dX12_fillsSides_120 (by decide) ?_
                refine v_iadd dX12_fillsSides_121 ?_
                refine v_iload_n (i := 2) dX12_fillsSides_122 rfl rfl ?_
                refine v_iload_n (i := 1) dX12_fillsSides_123 rfl rfl ?_
                refine v_isub dX12_fillsSides_124 ?_
                obtain ⟨k13, hF⟩ := ck_some hF
                refine v_iastore sh_264 (by exact ltG hG (by decide)) (ixO k13) dX12_fillsSides_125 ?_
                refine v_iinc (i := 2) (v := (l2 + 1)) dX12_fillsSides_126 rfl rfl (by decide) (nlT rfl) ?_
                simp only [List.set_cons_zero, List.set_cons_succ]
                refine v_goto 12 dX12_fillsSides_129 (by decide) ?_
                refine V.weak (la2 := [some (.ref 226), some (.int l1), some (.int (l2 + 1)), none]) (by simp [wk]) ?_
                exact (s_X12_fillsSides_IH_12) _ _ _ _ hF hG
            · rw [if_neg c11] at hF
              refine v_aload_n (i := 0) dX12_fillsSides_95 rfl rfl ?_
              refine g_X12_131 (q := 264) rfl sh_226 (by exact ltG hG (by decide)) (by exact rG hG r0_226_57) dX12_fillsSides_96 ?_
              refine v_iconst (v := 5) dX12_fillsSides_99 (by decide) ?_
              refine v_iload_n (i := 2) dX12_fillsSides_100 rfl rfl ?_
              refine v_imul dX12_fillsSides_101 ?_
              refine v_iconst (v := 3) dX12_fillsSides_102 (by decide) ?_
              refine v_iadd dX12_fillsSides_103 ?_
              refine v_iload_n (i := 2) dX12_fillsSides_104 rfl rfl ?_
              refine v_iconst (v := 1) dX12_fillsSides_105 (by decide) ?_
              refine v_isub dX12_fillsSides_106 ?_
              obtain ⟨k14, hF⟩ := ck_some hF
              refine v_iastore sh_264 (by exact ltG hG (by decide)) (ixO k14) dX12_fillsSides_107 ?_
              refine v_iload_n (i := 2) dX12_fillsSides_108 rfl rfl ?_
              refine v_iload_n (i := 1) dX12_fillsSides_109 rfl rfl ?_
              refine v_icmp_lt 126 dX12_fillsSides_110 (by decide) (fun c15 => ?_) (fun c15 => ?_)
              · rw [if_pos c15] at hF
                refine v_iinc (i := 2) (v := (l2 + 1)) dX12_fillsSides_126 rfl rfl (by decide) (nlT rfl) ?_
                simp only [List.set_cons_zero, List.set_cons_succ]
                refine v_goto 12 dX12_fillsSides_129 (by decide) ?_
                refine V.weak (la2 := [some (.ref 226), some (.int l1), some (.int (l2 + 1)), none]) (by simp [wk]) ?_
                exact (s_X12_fillsSides_IH_12) _ _ _ _ hF hG
              · rw [if_neg c15] at hF
                refine v_aload_n (i := 0) dX12_fillsSides_113 rfl rfl ?_
                refine g_X12_131 (q := 264) rfl sh_226 (by exact ltG hG (by decide)) (by exact rG hG r0_226_57) dX12_fillsSides_114 ?_
                refine v_iconst (v := 5) dX12_fillsSides_117 (by decide) ?_
                refine v_iload_n (i := 2) dX12_fillsSides_118 rfl rfl ?_
                refine v_imul dX12_fillsSides_119 ?_
                refine v_iconst (v := 4) dX12_fillsSides_120 (by decide) ?_
                refine v_iadd dX12_fillsSides_121 ?_
                refine v_iload_n (i := 2) dX12_fillsSides_122 rfl rfl ?_
                refine v_iload_n (i := 1) dX12_fillsSides_123 rfl rfl ?_
                refine v_isub dX12_fillsSides_124 ?_
                obtain ⟨k16, hF⟩ := ck_some hF
                refine v_iastore sh_264 (by exact ltG hG (by decide)) (ixO k16) dX12_fillsSides_125 ?_
                refine v_iinc (i := 2) (v := (l2 + 1)) dX12_fillsSides_126 rfl rfl (by decide) (nlT rfl) ?_
                simp only [List.set_cons_zero, List.set_cons_succ]
                refine v_goto 12 dX12_fillsSides_129 (by decide) ?_
                refine V.weak (la2 := [some (.ref 226), some (.int l1), some (.int (l2 + 1)), none]) (by simp [wk]) ?_
                exact (s_X12_fillsSides_IH_12) _ _ _ _ hF hG
          · rw [if_neg c9] at hF
            refine v_aload_n (i := 0) dX12_fillsSides_76 rfl rfl ?_
            refine g_X12_131 (q := 264) rfl sh_226 (by exact ltG hG (by decide)) (by exact rG hG r0_226_57) dX12_fillsSides_77 ?_
            refine v_iconst (v := 5) dX12_fillsSides_80 (by decide) ?_
            refine v_iload_n (i := 2) dX12_fillsSides_81 rfl rfl ?_
            refine v_imul dX12_fillsSides_82 ?_
            refine v_iconst (v := 2) dX12_fillsSides_83 (by decide) ?_
            refine v_iadd dX12_fillsSides_84 ?_
            refine v_iload_n (i := 2) dX12_fillsSides_85 rfl rfl ?_
            refine v_iload_n (i := 1) dX12_fillsSides_86 rfl rfl ?_
            refine v_iadd dX12_fillsSides_87 ?_
            obtain ⟨k17, hF⟩ := ck_some hF
            refine v_iastore sh_264 (by exact ltG hG (by decide)) (ixO k17) dX12_fillsSides_88 ?_
            refine v_iload_n (i := 2) dX12_fillsSides_89 rfl rfl ?_
            refine v_iload_n (i := 1) dX12_fillsSides_90 rfl rfl ?_
            obtain ⟨k18, hF⟩ := ck_none hF
            refine v_irem dX12_fillsSides_91 k18 ?_
            refine v_if_le 108 dX12_fillsSides_92 (by decide) (fun c19 => ?_) (fun c19 => ?_)
            · rw [if_pos c19] at hF
              refine v_iload_n (i := 2) dX12_fillsSides_108 rfl rfl ?_
              refine v_iload_n (i := 1) dX12_fillsSides_109 rfl rfl ?_
              refine v_icmp_lt 126 dX12_fillsSides_110 (by decide) (fun c20 => ?_) (fun c20 => ?_)
              · rw [if_pos c20] at hF
                refine v_iinc (i := 2) (v := (l2 + 1)) dX12_fillsSides_126 rfl rfl (by decide) (nlT rfl) ?_
                simp only [List.set_cons_zero, List.set_cons_succ]
                refine v_goto 12 dX12_fillsSides_129 (by decide) ?_
                refine V.weak (la2 := [some (.ref 226), some (.int l1), some (.int (l2 + 1)), none]) (by simp [wk]) ?_
                exact (s_X12_fillsSides_IH_12) _ _ _ _ hF hG
              · rw [if_neg c20] at hF
                refine v_aload_n (i := 0) dX12_fillsSides_113 rfl rfl ?_
                refine g_X12_131 (q := 264) rfl sh_226 (by exact ltG hG (by decide)) (by exact rG hG r0_226_57) dX12_fillsSides_114 ?_
                refine v_iconst (v := 5) dX12_fillsSides_117 (by decide) ?_
                refine v_iload_n (i := 2) dX12_fillsSides_118 rfl rfl ?_
                refine v_imul dX12_fillsSides_119 ?_
                refine v_iconst (v := 4) dX12_fillsSides_120 (by decide) ?_
                refine v_iadd dX12_fillsSides_121 ?_
                refine v_iload_n (i := 2) dX12_fillsSides_122 rfl rfl ?_
                refine v_iload_n (i := 1) dX12_fillsSides_123 rfl rfl ?_
                refine v_isub dX12_fillsSides_124 ?_
                obtain ⟨k21, hF⟩ := ck_some hF
                refine v_iastore sh_264 (by exact ltG hG (by decide)) (ixO k21) dX12_fillsSides_125 ?_
                refine v_iinc (i := 2) (v := (l2 + 1)) dX12_fillsSides_126 rfl rfl (by decide) (nlT rfl) ?_
                simp only [List.set_cons_zero, List.set_cons_succ]
                refine v_goto 12 dX12_fillsSides_129 (by decide) ?_
                refine V.weak (la2 := [some (.ref 226), some (.int l1), some (.int (l2 + 1)), none]) (by simp [wk]) ?_
                exact (s_X12_fillsSides_IH_12) _ _ _ _ hF hG
            · rw [if_neg c19] at hF
              refine v_aload_n (i := 0) dX12_fillsSides_95 rfl rfl ?_
              refine g_X12_131 (q := 264) rfl sh_226 (by exact ltG hG (by decide)) (by exact rG hG r0_226_57) dX12_fillsSides_96 ?_
              refine v_iconst (v := 5) dX12_fillsSides_99 (by decide) ?_
              refine v_iload_n (i := 2) dX12_fillsSides_100 rfl rfl ?_
              refine v_imul dX12_fillsSides_101 ?_
              refine v_iconst (v := 3) dX12_fillsSides_102 (by decide) ?_
              refine v_iadd dX12_fillsSides_103 ?_
              refine v_iload_n (i := 2) dX12_fillsSides_104 rfl rfl ?_
              refine v_iconst (v := 1) dX12_fillsSides_105 (by decide) ?_
              refine v_isub dX12_fillsSides_106 ?_
              obtain ⟨k22, hF⟩ := ck_some hF
              refine v_iastore sh_264 (by exact ltG hG (by decide)) (ixO k22) dX12_fillsSides_107 ?_
              refine v_iload_n (i := 2) dX12_fillsSides_108 rfl rfl ?_
              refine v_iload_n (i := 1) dX12_fillsSides_109 rfl rfl ?_
              refine v_icmp_lt 126 dX12_fillsSides_110 (by decide) (fun c23 => ?_) (fun c23 => ?_)
              · rw [if_pos c23] at hF
                refine v_iinc (i := 2) (v := (l2 + 1)) dX12_fillsSides_126 rfl rfl (by decide) (nlT rfl) ?_
                simp only [List.set_cons_zero, List.set_cons_succ]
                refine v_goto 12 dX12_fillsSides_129 (by decide) ?_
                refine V.weak (la2 := [some (.ref 226), some (.int l1), some (.int (l2 + 1)), none]) (by simp [wk]) ?_
                exact (s_X12_fillsSides_IH_12) _ _ _ _ hF hG
              · rw [if_neg c23] at hF
                refine v_aload_n (i := 0) dX12_fillsSides_113 rfl rfl ?_
                refine g_X12_131 (q := 264) rfl sh_226 (by exact ltG hG (by decide)) (by exact rG hG r0_226_57) dX12_fillsSides_114 ?_
                refine v_iconst (v := 5) dX12_fillsSides_117 (by decide) ?_
                refine v_iload_n (i := 2) dX12_fillsSides_118 rfl rfl ?_
                refine v_imul dX12_fillsSides_119 ?_
                refine v_iconst (v := 4) dX12_fillsSides_120 (by decide) ?_
                refine v_iadd dX12_fillsSides_121 ?_
                refine v_iload_n (i := 2) dX12_fillsSides_122 rfl rfl ?_
                refine v_iload_n (i := 1) dX12_fillsSides_123 rfl rfl ?_
                refine v_isub dX12_fillsSides_124 ?_
                obtain ⟨k24, hF⟩ := ck_some hF
                refine v_iastore sh_264 (by exact ltG hG (by decide)) (ixO k24) dX12_fillsSides_125 ?_
                refine v_iinc (i := 2) (v := (l2 + 1)) dX12_fillsSides_126 rfl rfl (by decide) (nlT rfl) ?_
                simp only [List.set_cons_zero, List.set_cons_succ]
                refine v_goto 12 dX12_fillsSides_129 (by decide) ?_
                refine V.weak (la2 := [some (.ref 226), some (.int l1), some (.int (l2 + 1)), none]) (by simp [wk]) ?_
                exact (s_X12_fillsSides_IH_12) _ _ _ _ hF hG
        · rw [if_neg c6] at hF
          refine v_aload_n (i := 0) dX12_fillsSides_53 rfl rfl ?_
          refine g_X12_131 (q := 264) rfl sh_226 (by exact ltG hG (by decide)) (by exact rG hG r0_226_57) dX12_fillsSides_54 ?_
          refine v_iconst (v := 5) dX12_fillsSides_57 (by decide) ?_
          refine v_iload_n (i := 2) dX12_fillsSides_58 rfl rfl ?_
          refine v_imul dX12_fillsSides_59 ?_
          refine v_iconst (v := 1) dX12_fillsSides_60 (by decide) ?_
          refine v_iadd dX12_fillsSides_61 ?_
          refine v_iload_n (i := 2) dX12_fillsSides_62 rfl rfl ?_
          refine v_iconst (v := 1) dX12_fillsSides_63 (by decide) ?_
          refine v_iadd dX12_fillsSides_64 ?_
          obtain ⟨k25, hF⟩ := ck_some hF
          refine v_iastore sh_264 (by exact ltG hG (by decide)) (ixO k25) dX12_fillsSides_65 ?_
          refine v_iload_n (i := 2) dX12_fillsSides_66 rfl rfl ?_
          refine v_iload_n (i := 1) dX12_fillsSides_67 rfl rfl ?_
          refine v_iadd dX12_fillsSides_68 ?_
          refine v_aload_n (i := 0) dX12_fillsSides_69 rfl rfl ?_
          obtain ⟨q26, q26_e, hF⟩ := Option.bind_eq_some_iff.mp hF
          refine c_X12_326 rfl sh_226 (by exact ltG hG (by decide)) (Nat.le_of_ble_eq_true rfl) dX12_fillsSides_70 (s_X12_cells _ q26_e hG) (fun r1 h1 hq => ?_)
          obtain ⟨rfl, hq, hG⟩ := hq
          replace hq := hq.symm
          subst hq
          show V _ _ _ _ (_ :: _) _ _
          refine v_icmp_ge 89 dX12_fillsSides_73 (by decide) (fun c28 => ?_) (fun c28 => ?_)
          · rw [if_pos c28] at hF
            refine v_iload_n (i := 2) dX12_fillsSides_89 rfl rfl ?_
            refine v_iload_n (i := 1) dX12_fillsSides_90 rfl rfl ?_
            obtain ⟨k29, hF⟩ := ck_none hF
            refine v_irem dX12_fillsSides_91 k29 ?_
            refine v_if_le 108 dX12_fillsSides_92 (by decide) (fun c30 => ?_) (fun c30 => ?_)
            · rw [if_pos c30] at hF
              refine v_iload_n (i := 2) dX12_fillsSides_108 rfl rfl ?_
              refine v_iload_n (i := 1) dX12_fillsSides_109 rfl rfl ?_
              refine v_icmp_lt 126 dX12_fillsSides_110 (by decide) (fun c31 => ?_) (fun c31 => ?_)
              · rw [if_pos c31] at hF
                refine v_iinc (i := 2) (v := (l2 + 1)) dX12_fillsSides_126 rfl rfl (by decide) (nlT rfl) ?_
                simp only [List.set_cons_zero, List.set_cons_succ]
                refine v_goto 12 dX12_fillsSides_129 (by decide) ?_
                refine V.weak (la2 := [some (.ref 226), some (.int l1), some (.int (l2 + 1)), none]) (by simp [wk]) ?_
                exact (s_X12_fillsSides_IH_12) _ _ _ _ hF hG
              · rw [if_neg c31] at hF
                refine v_aload_n (i := 0) dX12_fillsSides_113 rfl rfl ?_
                refine g_X12_131 (q := 264) rfl sh_226 (by exact ltG hG (by decide)) (by exact rG hG r0_226_57) dX12_fillsSides_114 ?_
                refine v_iconst (v := 5) dX12_fillsSides_117 (by decide) ?_
                refine v_iload_n (i := 2) dX12_fillsSides_118 rfl rfl ?_
                refine v_imul dX12_fillsSides_119 ?_
                refine v_iconst (v := 4) dX12_fillsSides_120 (by decide) ?_
                refine v_iadd dX12_fillsSides_121 ?_
                refine v_iload_n (i := 2) dX12_fillsSides_122 rfl rfl ?_
                refine v_iload_n (i := 1) dX12_fillsSides_123 rfl rfl ?_
                refine v_isub dX12_fillsSides_124 ?_
                obtain ⟨k32, hF⟩ := ck_some hF
                refine v_iastore sh_264 (by exact ltG hG (by decide)) (ixO k32) dX12_fillsSides_125 ?_
                refine v_iinc (i := 2) (v := (l2 + 1)) dX12_fillsSides_126 rfl rfl (by decide) (nlT rfl) ?_
                simp only [List.set_cons_zero, List.set_cons_succ]
                refine v_goto 12 dX12_fillsSides_129 (by decide) ?_
                refine V.weak (la2 := [some (.ref 226), some (.int l1), some (.int (l2 + 1)), none]) (by simp [wk]) ?_
                exact (s_X12_fillsSides_IH_12) _ _ _ _ hF hG
            · rw [if_neg c30] at hF
              refine v_aload_n (i := 0) dX12_fillsSides_95 rfl rfl ?_
              refine g_X12_131 (q := 264) rfl sh_226 (by exact ltG hG (by decide)) (by exact rG hG r0_226_57) dX12_fillsSides_96 ?_
              refine v_iconst (v := 5) dX12_fillsSides_99 (by decide) ?_
              refine v_iload_n (i := 2) dX12_fillsSides_100 rfl rfl ?_
              refine v_imul dX12_fillsSides_101 ?_
              refine v_iconst (v := 3) dX12_fillsSides_102 (by decide) ?_
              refine v_iadd dX12_fillsSides_103 ?_
              refine v_iload_n (i := 2) dX12_fillsSides_104 rfl rfl ?_
              refine v_iconst (v := 1) dX12_fillsSides_105 (by decide) ?_
              refine v_isub dX12_fillsSides_106 ?_
              obtain ⟨k33, hF⟩ := ck_some hF
              refine v_iastore sh_264 (by exact ltG hG (by decide)) (ixO k33) dX12_fillsSides_107 ?_
              refine v_iload_n (i := 2) dX12_fillsSides_108 rfl rfl ?_
              refine v_iload_n (i := 1) dX12_fillsSides_109 rfl rfl ?_
              refine v_icmp_lt 126 dX12_fillsSides_110 (by decide) (fun c34 => ?_) (fun c34 => ?_)
              · rw [if_pos c34] at hF
                refine v_iinc (i := 2) (v := (l2 + 1)) dX12_fillsSides_126 rfl rfl (by decide) (nlT rfl) ?_
                simp only [List.set_cons_zero, List.set_cons_succ]
                refine v_goto 12 dX12_fillsSides_129 (by decide) ?_
                refine V.weak (la2 := [some (.ref 226), some (.int l1), some (.int (l2 + 1)), none]) (by simp [wk]) ?_
                exact (s_X12_fillsSides_IH_12) _ _ _ _ hF hG
              · rw [if_neg c34] at hF
                refine v_aload_n (i := 0) dX12_fillsSides_113 rfl rfl ?_
                refine g_X12_131 (q := 264) rfl sh_226 (by exact ltG hG (by decide)) (by exact rG hG r0_226_57) dX12_fillsSides_114 ?_
                refine v_iconst (v := 5) dX12_fillsSides_117 (by decide) ?_
                refine v_iload_n (i := 2) dX12_fillsSides_118 rfl rfl ?_
                refine v_imul dX12_fillsSides_119 ?_
                refine v_iconst (v := 4) dX12_fillsSides_120 (by decide) ?_
                refine v_iadd dX12_fillsSides_121 ?_
                refine v_iload_n (i := 2) dX12_fillsSides_122 rfl rfl ?_
                refine v_iload_n (i := 1) dX12_fillsSides_123 rfl rfl ?_
                refine v_isub dX12_fillsSides_124 ?_
                obtain ⟨k35, hF⟩ := ck_some hF
                refine v_iastore sh_264 (by exact ltG hG (by decide)) (ixO k35) dX12_fillsSides_125 ?_
                refine v_iinc (i := 2) (v := (l2 + 1)) dX12_fillsSides_126 rfl rfl (by decide) (nlT rfl) ?_
                simp only [List.set_cons_zero, List.set_cons_succ]
                refine v_goto 12 dX12_fillsSides_129 (by decide) ?_
                refine V.weak (la2 := [some (.ref 226), some (.int l1), some (.int (l2 + 1)), none]) (by simp [wk]) ?_
                exact (s_X12_fillsSides_IH_12) _ _ _ _ hF hG
          · rw [if_neg c28] at hF
            refine v_aload_n (i := 0) dX12_fillsSides_76 rfl rfl ?_
            refine g_X12_131 (q := 264) rfl sh_226 (by exact ltG hG (by decide)) (by exact rG hG r0_226_57) dX12_fillsSides_77 ?_
            refine v_iconst (v := 5) dX12_fillsSides_80 (by decide) ?_
            refine v_iload_n (i := 2) dX12_fillsSides_81 rfl rfl ?_
            refine v_imul dX12_fillsSides_82 ?_
            refine v_iconst (v := 2) dX12_fillsSides_83 (by decide) ?_
            refine v_iadd dX12_fillsSides_84 ?_
            refine v_iload_n (i := 2) dX12_fillsSides_85 rfl rfl ?_
            refine v_iload_n (i := 1) dX12_fillsSides_86 rfl rfl ?_
            refine v_iadd dX12_fillsSides_87 ?_
            obtain ⟨k36, hF⟩ := ck_some hF
            refine v_iastore sh_264 (by exact ltG hG (by decide)) (ixO k36) dX12_fillsSides_88 ?_
            refine v_iload_n (i := 2) dX12_fillsSides_89 rfl rfl ?_
            refine v_iload_n (i := 1) dX12_fillsSides_90 rfl rfl ?_
            obtain ⟨k37, hF⟩ := ck_none hF
            refine v_irem dX12_fillsSides_91 k37 ?_
            refine v_if_le 108 dX12_fillsSides_92 (by decide) (fun c38 => ?_) (fun c38 => ?_)
            · rw [if_pos c38] at hF
              refine v_iload_n (i := 2) dX12_fillsSides_108 rfl rfl ?_
              refine v_iload_n (i := 1) dX12_fillsSides_109 rfl rfl ?_
              refine v_icmp_lt 126 dX12_fillsSides_110 (by decide) (fun c39 => ?_) (fun c39 => ?_)
              · rw [if_pos c39] at hF
                refine v_iinc (i := 2) (v := (l2 + 1)) dX12_fillsSides_126 rfl rfl (by decide) (nlT rfl) ?_
                simp only [List.set_cons_zero, List.set_cons_succ]
                refine v_goto 12 dX12_fillsSides_129 (by decide) ?_
                refine V.weak (la2 := [some (.ref 226), some (.int l1), some (.int (l2 + 1)), none]) (by simp [wk]) ?_
                exact (s_X12_fillsSides_IH_12) _ _ _ _ hF hG
              · rw [if_neg c39] at hF
                refine v_aload_n (i := 0) dX12_fillsSides_113 rfl rfl ?_
                refine g_X12_131 (q := 264) rfl sh_226 (by exact ltG hG (by decide)) (by exact rG hG r0_226_57) dX12_fillsSides_114 ?_
                refine v_iconst (v := 5) dX12_fillsSides_117 (by decide) ?_
                refine v_iload_n (i := 2) dX12_fillsSides_118 rfl rfl ?_
                refine v_imul dX12_fillsSides_119 ?_
                refine v_iconst (v := 4) dX12_fillsSides_120 (by decide) ?_
                refine v_iadd dX12_fillsSides_121 ?_
                refine v_iload_n (i := 2) dX12_fillsSides_122 rfl rfl ?_
                refine v_iload_n (i := 1) dX12_fillsSides_123 rfl rfl ?_
                refine v_isub dX12_fillsSides_124 ?_
                obtain ⟨k40, hF⟩ := ck_some hF
                refine v_iastore sh_264 (by exact ltG hG (by decide)) (ixO k40) dX12_fillsSides_125 ?_
                refine v_iinc (i := 2) (v := (l2 + 1)) dX12_fillsSides_126 rfl rfl (by decide) (nlT rfl) ?_
                simp only [List.set_cons_zero, List.set_cons_succ]
                refine v_goto 12 dX12_fillsSides_129 (by decide) ?_
                refine V.weak (la2 := [some (.ref 226), some (.int l1), some (.int (l2 + 1)), none]) (by simp [wk]) ?_
                exact (s_X12_fillsSides_IH_12) _ _ _ _ hF hG
            · rw [if_neg c38] at hF
              refine v_aload_n (i := 0) dX12_fillsSides_95 rfl rfl ?_
              refine g_X12_131 (q := 264) rfl sh_226 (by exact ltG hG (by decide)) (by exact rG hG r0_226_57) dX12_fillsSides_96 ?_
              refine v_iconst (v := 5) dX12_fillsSides_99 (by decide) ?_
              refine v_iload_n (i := 2) dX12_fillsSides_100 rfl rfl ?_
              refine v_imul dX12_fillsSides_101 ?_
              refine v_iconst (v := 3) dX12_fillsSides_102 (by decide) ?_
              refine v_iadd dX12_fillsSides_103 ?_
              refine v_iload_n (i := 2) dX12_fillsSides_104 rfl rfl ?_
              refine v_iconst (v := 1) dX12_fillsSides_105 (by decide) ?_
              refine v_isub dX12_fillsSides_106 ?_
              obtain ⟨k41, hF⟩ := ck_some hF
              refine v_iastore sh_264 (by exact ltG hG (by decide)) (ixO k41) dX12_fillsSides_107 ?_
              refine v_iload_n (i := 2) dX12_fillsSides_108 rfl rfl ?_
              refine v_iload_n (i := 1) dX12_fillsSides_109 rfl rfl ?_
              refine v_icmp_lt 126 dX12_fillsSides_110 (by decide) (fun c42 => ?_) (fun c42 => ?_)
              · rw [if_pos c42] at hF
                refine v_iinc (i := 2) (v := (l2 + 1)) dX12_fillsSides_126 rfl rfl (by decide) (nlT rfl) ?_
                simp only [List.set_cons_zero, List.set_cons_succ]
                refine v_goto 12 dX12_fillsSides_129 (by decide) ?_
                refine V.weak (la2 := [some (.ref 226), some (.int l1), some (.int (l2 + 1)), none]) (by simp [wk]) ?_
                exact (s_X12_fillsSides_IH_12) _ _ _ _ hF hG
              · rw [if_neg c42] at hF
                refine v_aload_n (i := 0) dX12_fillsSides_113 rfl rfl ?_
                refine g_X12_131 (q := 264) rfl sh_226 (by exact ltG hG (by decide)) (by exact rG hG r0_226_57) dX12_fillsSides_114 ?_
                refine v_iconst (v := 5) dX12_fillsSides_117 (by decide) ?_
                refine v_iload_n (i := 2) dX12_fillsSides_118 rfl rfl ?_
                refine v_imul dX12_fillsSides_119 ?_
                refine v_iconst (v := 4) dX12_fillsSides_120 (by decide) ?_
                refine v_iadd dX12_fillsSides_121 ?_
                refine v_iload_n (i := 2) dX12_fillsSides_122 rfl rfl ?_
                refine v_iload_n (i := 1) dX12_fillsSides_123 rfl rfl ?_
                refine v_isub dX12_fillsSides_124 ?_
                obtain ⟨k43, hF⟩ := ck_some hF
                refine v_iastore sh_264 (by exact ltG hG (by decide)) (ixO k43) dX12_fillsSides_125 ?_
                refine v_iinc (i := 2) (v := (l2 + 1)) dX12_fillsSides_126 rfl rfl (by decide) (nlT rfl) ?_
                simp only [List.set_cons_zero, List.set_cons_succ]
                refine v_goto 12 dX12_fillsSides_129 (by decide) ?_
                refine V.weak (la2 := [some (.ref 226), some (.int l1), some (.int (l2 + 1)), none]) (by simp [wk]) ?_
                exact (s_X12_fillsSides_IH_12) _ _ _ _ hF hG
      · rw [if_neg c4] at hF
        refine v_aload_n (i := 0) dX12_fillsSides_27 rfl rfl ?_
        refine g_X12_131 (q := 264) rfl sh_226 (by exact ltG hG (by decide)) (by exact rG hG r0_226_57) dX12_fillsSides_28 ?_
        refine v_iconst (v := 5) dX12_fillsSides_31 (by decide) ?_
        refine v_iload_n (i := 2) dX12_fillsSides_32 rfl rfl ?_
        refine v_imul dX12_fillsSides_33 ?_
        refine v_iload_n (i := 3) dX12_fillsSides_34 rfl rfl ?_
        refine v_iadd dX12_fillsSides_35 ?_
        refine v_iload_n (i := 2) dX12_fillsSides_36 rfl rfl ?_
        obtain ⟨k44, hF⟩ := ck_some hF
        refine v_iastore sh_264 (by exact ltG hG (by decide)) (ixO k44) dX12_fillsSides_37 ?_
        refine v_iinc (i := 3) (v := (l3 + 1)) dX12_fillsSides_38 rfl rfl (by decide) (nlT rfl) ?_
        simp only [List.set_cons_zero, List.set_cons_succ]
        refine v_goto 22 dX12_fillsSides_41 (by decide) ?_
        refine V.weak (la2 := [some (.ref 226), some (.int l1), some (.int l2), some (.int (l3 + 1))]) (by simp [wk]) ?_
        exact (s_X12_fillsSides_IH_22) _ _ _ _ _ hF hG
def F_X12_fillsSides (n : Nat) (h : Hp) : Option Hp := (if ixOK (hi h 226 18) 2 = true then W_X12_fillsSides n 12 h  (hi h 235 (Int32.toNatClampNeg (hi h 226 18))) 0 0 else none)
set_option maxRecDepth 100000 in
set_option maxHeartbeats 4000000 in
theorem s_X12_fillsSides (d : Nat) {n : Nat} {h : Hp}  {q0 : Hp} (hF : F_X12_fillsSides n h  = some q0) (hG : G h)  : Kc mX12_fillsSides (d + 1) [.ref 226] h (fun r1 h1 => r1 = none ∧ h1 = q0 ∧ G q0) := by
  obtain ⟨h', rfl⟩ : ∃ z, z = q0 := ⟨_, rfl⟩
  obtain ⟨s_X12_fillsSides_IH_12, s_X12_fillsSides_IH_22⟩ := sw_X12_fillsSides d   n
  unfold F_X12_fillsSides at hF
  refine Kc.of [some (.ref 226), none, none, none] ok_X12_fillsSides rfl (Nat.le_of_ble_eq_true rfl) ?_
  refine v_aload_n (i := 0) dX12_fillsSides_0 rfl rfl ?_
  refine g_X12_43 (q := 235) rfl sh_226 (by exact ltG hG (by decide)) (by exact rG hG r0_226_22) dX12_fillsSides_1 ?_
  refine v_aload_n (i := 0) dX12_fillsSides_4 rfl rfl ?_
  refine g_X12_245 rfl sh_226 (by exact ltG hG (by decide)) dX12_fillsSides_5 ?_
  obtain ⟨k45, hF⟩ := ck_some hF
  refine v_iaload sh_235 (by exact ltG hG (by decide)) (ixO k45) dX12_fillsSides_8 ?_
  refine v_istore_n (i := 1) dX12_fillsSides_9 rfl (by decide) (nlT rfl) ?_
  simp only [List.set_cons_zero, List.set_cons_succ]
  refine v_iconst (v := 0) dX12_fillsSides_10 (by decide) ?_
  refine v_istore_n (i := 2) dX12_fillsSides_11 rfl (by decide) (nlT rfl) ?_
  simp only [List.set_cons_zero, List.set_cons_succ]
  refine V.weak (la2 := [some (.ref 226), some (.int (hi h 235 (Int32.toNatClampNeg (hi h 226 18)))), some (.int 0), none]) (by simp [wk]) ?_
  exact (s_X12_fillsSides_IH_12) _ _ _ _ hF hG
def W_X12_firstAt : Nat → Nat → Hp → Int32 → Int32 → Int32 → Option (Int32 × Hp)
  | 0 => fun _ _ _ _ _ => none
  | n + 1 => fun hd h l1 l2 l3 => (if hd = 2 then (if (l2 : Int32) < (l3 : Int32) then some ((-2), h) else (if ixOK l3 101 = true then (if ((((((hi h 267 (Int32.toNatClampNeg l3)) : Int32) >>> ((l1 : Int32) &&& 31)) : Int32) &&& (1 : Int32)) : Int32) = (1 : Int32) then some (l3, h) else W_X12_firstAt n 2 h  l1 l2 (l3 + 1)) else none)) else none)
set_option maxRecDepth 100000 in
set_option maxHeartbeats 4000000 in
theorem sw_X12_firstAt (d : Nat)  (n : Nat) : (∀ (l1 : Int32) (l2 : Int32) (l3 : Int32) (h : Hp), ∀ (r : Int32) (h' : Hp), W_X12_firstAt n 2 h  l1 l2 l3 = some (r, h') → G h → V mX12_firstAt (d) 2 [some (.ref 226), some (.int l1), some (.int l2), some (.int l3)] [] h (fun r1 h1 => r1 = some (.int r) ∧ h1 = h' ∧ G h')) := by
  induction n with
  | zero => exact by intros; contradiction
  | succ n ih =>
    have s_X12_firstAt_IH_2 := ih
    intro l1 l2 l3 h r h' hF hG
    unfold W_X12_firstAt at hF
    rw [if_pos rfl] at hF
    refine v_iload_n (i := 3) dX12_firstAt_2 rfl rfl ?_
    refine v_iload_n (i := 2) dX12_firstAt_3 rfl rfl ?_
    refine v_icmp_gt 29 dX12_firstAt_4 (by decide) (fun c1 => ?_) (fun c1 => ?_)
    · rw [if_pos c1] at hF
      refine v_bipush (v := (-2)) dX12_firstAt_29 (by decide) ?_
      refine v_ireturn rfl dX12_firstAt_31 ?_
      obtain ⟨rfl, rfl⟩ := Prod.mk.inj (Option.some.inj hF)
      exact ⟨rfl, rfl, hG⟩
    · rw [if_neg c1] at hF
      refine v_aload_n (i := 0) dX12_firstAt_7 rfl rfl ?_
      refine g_X12_140 (q := 267) rfl sh_226 (by exact ltG hG (by decide)) (by exact rG hG r0_226_61) dX12_firstAt_8 ?_
      refine v_iload_n (i := 3) dX12_firstAt_11 rfl rfl ?_
      obtain ⟨k2, hF⟩ := ck_some hF
      refine v_iaload sh_267 (by exact ltG hG (by decide)) (ixO k2) dX12_firstAt_12 ?_
      refine v_iload_n (i := 1) dX12_firstAt_13 rfl rfl ?_
      refine v_ishr dX12_firstAt_14 ?_
      refine v_iconst (v := 1) dX12_firstAt_15 (by decide) ?_
      refine v_iand dX12_firstAt_16 ?_
      refine v_iconst (v := 1) dX12_firstAt_17 (by decide) ?_
      refine v_icmp_ne 23 dX12_firstAt_18 (by decide) (fun c3 => ?_) (fun c3 => ?_)
      · rw [if_neg c3] at hF
        refine v_iinc (i := 3) (v := (l3 + 1)) dX12_firstAt_23 rfl rfl (by decide) (nlT rfl) ?_
        simp only [List.set_cons_zero, List.set_cons_succ]
        refine v_goto 2 dX12_firstAt_26 (by decide) ?_
        refine V.weak (la2 := [some (.ref 226), some (.int l1), some (.int l2), some (.int (l3 + 1))]) (by simp [wk]) ?_
        exact (s_X12_firstAt_IH_2) _ _ _ _ _ _ hF hG
      · rw [if_pos c3] at hF
        refine v_iload_n (i := 3) dX12_firstAt_21 rfl rfl ?_
        refine v_ireturn rfl dX12_firstAt_22 ?_
        obtain ⟨rfl, rfl⟩ := Prod.mk.inj (Option.some.inj hF)
        exact ⟨rfl, rfl, hG⟩
def F_X12_firstAt (n : Nat) (h : Hp) (x1 : Int32) (x2 : Int32) : Option (Int32 × Hp) := W_X12_firstAt n 2 h  x1 x2 0
set_option maxRecDepth 100000 in
set_option maxHeartbeats 4000000 in
theorem s_X12_firstAt (d : Nat) {n : Nat} {h : Hp} {x1 : Int32} {x2 : Int32} {q0 : (Int32 × Hp)} (hF : F_X12_firstAt n h x1 x2 = some q0) (hG : G h)  : Kc mX12_firstAt (d) [.ref 226, .int x1, .int x2] h (fun r1 h1 => r1 = some (.int q0.1) ∧ h1 = q0.2 ∧ G q0.2) := by
  obtain ⟨r, h'⟩ := q0
  have s_X12_firstAt_IH_2 := sw_X12_firstAt d   n
  unfold F_X12_firstAt at hF
  refine Kc.of [some (.ref 226), some (.int x1), some (.int x2), none] ok_X12_firstAt rfl (Nat.le_of_ble_eq_true rfl) ?_
  refine v_iconst (v := 0) dX12_firstAt_0 (by decide) ?_
  refine v_istore_n (i := 3) dX12_firstAt_1 rfl (by decide) (nlT rfl) ?_
  simp only [List.set_cons_zero, List.set_cons_succ]
  refine V.weak (la2 := [some (.ref 226), some (.int x1), some (.int x2), some (.int 0)]) (by simp [wk]) ?_
  exact (s_X12_firstAt_IH_2) _ _ _ _ _ _ hF hG
def W_X12_firstFit : Nat → Nat → Hp → Int32 → Int32 → Int32 → Option (Int32 × Hp)
  | 0 => fun _ _ _ _ _ => none
  | n + 1 => fun hd h l1 l2 l3 => (if hd = 2 then (if (6 : Int32) < (l2 : Int32) then some ((-2), h) else W_X12_firstFit n 10 h  l1 l2 0) else (if hd = 10 then (if (l2 : Int32) ≤ (l3 : Int32) then W_X12_firstFit n 2 h  l1 (l2 + 1) 0 else ((F_X12_doesFit n h l2 l3 l1).bind (fun q3 => (if (q3.1 : Int32) = 0 then W_X12_firstFit n 10 q3.2  l1 l2 (l3 + 1) else some (((10 * l2) + l3), q3.2))))) else none))
set_option maxRecDepth 100000 in
set_option maxHeartbeats 4000000 in
theorem sw_X12_firstFit (d : Nat)  (n : Nat) : (∀ (l1 : Int32) (l2 : Int32) (h : Hp), ∀ (r : Int32) (h' : Hp), W_X12_firstFit n 2 h  l1 l2 0 = some (r, h') → G h → V mX12_firstFit (d + 1) 2 [some (.ref 226), some (.int l1), some (.int l2), none] [] h (fun r1 h1 => r1 = some (.int r) ∧ h1 = h' ∧ G h')) ∧ (∀ (l1 : Int32) (l2 : Int32) (l3 : Int32) (h : Hp), ∀ (r : Int32) (h' : Hp), W_X12_firstFit n 10 h  l1 l2 l3 = some (r, h') → G h → V mX12_firstFit (d + 1) 10 [some (.ref 226), some (.int l1), some (.int l2), some (.int l3)] [] h (fun r1 h1 => r1 = some (.int r) ∧ h1 = h' ∧ G h')) := by
  induction n with
  | zero => exact ⟨by intros; contradiction, by intros; contradiction⟩
  | succ n ih =>
    obtain ⟨s_X12_firstFit_IH_2, s_X12_firstFit_IH_10⟩ := ih
    refine ⟨?_, ?_⟩
    · intro l1 l2 h r h' hF hG
      unfold W_X12_firstFit at hF
      rw [if_pos rfl] at hF
      refine v_iload_n (i := 2) dX12_firstFit_2 rfl rfl ?_
      refine v_bipush (v := 6) dX12_firstFit_3 (by decide) ?_
      refine v_icmp_gt 44 dX12_firstFit_5 (by decide) (fun c1 => ?_) (fun c1 => ?_)
      · rw [if_pos c1] at hF
        refine v_bipush (v := (-2)) dX12_firstFit_44 (by decide) ?_
        refine v_ireturn rfl dX12_firstFit_46 ?_
        obtain ⟨rfl, rfl⟩ := Prod.mk.inj (Option.some.inj hF)
        exact ⟨rfl, rfl, hG⟩
      · rw [if_neg c1] at hF
        refine v_iconst (v := 0) dX12_firstFit_8 (by decide) ?_
        refine v_istore_n (i := 3) dX12_firstFit_9 rfl (by decide) (nlT rfl) ?_
        simp only [List.set_cons_zero, List.set_cons_succ]
        refine V.weak (la2 := [some (.ref 226), some (.int l1), some (.int l2), some (.int 0)]) (by simp [wk]) ?_
        exact (s_X12_firstFit_IH_10) _ _ _ _ _ _ hF hG
    · intro l1 l2 l3 h r h' hF hG
      unfold W_X12_firstFit at hF
      rw [if_neg (by decide)] at hF
      rw [if_pos rfl] at hF
      refine v_iload_n (i := 3) dX12_firstFit_10 rfl rfl ?_
      refine v_iload_n (i := 2) dX12_firstFit_11 rfl rfl ?_
      refine v_icmp_ge 38 dX12_firstFit_12 (by decide) (fun c2 => ?_) (fun c2 => ?_)
      · rw [if_pos c2] at hF
        refine v_iinc (i := 2) (v := (l2 + 1)) dX12_firstFit_38 rfl rfl (by decide) (nlT rfl) ?_
        simp only [List.set_cons_zero, List.set_cons_succ]
        refine v_goto 2 dX12_firstFit_41 (by decide) ?_
        refine V.weak (la2 := [some (.ref 226), some (.int l1), some (.int (l2 + 1)), none]) (by simp [wk]) ?_
        exact (s_X12_firstFit_IH_2) _ _ _ _ _ hF hG
      · rw [if_neg c2] at hF
        refine v_aload_n (i := 0) dX12_firstFit_15 rfl rfl ?_
        refine v_iload_n (i := 2) dX12_firstFit_16 rfl rfl ?_
        refine v_iload_n (i := 3) dX12_firstFit_17 rfl rfl ?_
        refine v_iload_n (i := 1) dX12_firstFit_18 rfl rfl ?_
        obtain ⟨q3, q3_e, hF⟩ := Option.bind_eq_some_iff.mp hF
        refine c_X12_498 rfl sh_226 (by exact ltG hG (by decide)) (Nat.le_of_ble_eq_true rfl) dX12_firstFit_19 (s_X12_doesFit _ q3_e hG) (fun r1 h1 hq => ?_)
        obtain ⟨rfl, hq, hG⟩ := hq
        replace hq := hq.symm
        subst hq
        show V _ _ _ _ (_ :: _) _ _
        refine v_if_eq 32 dX12_firstFit_22 (by decide) (fun c5 => ?_) (fun c5 => ?_)
        · rw [if_pos c5] at hF
          refine v_iinc (i := 3) (v := (l3 + 1)) dX12_firstFit_32 rfl rfl (by decide) (nlT rfl) ?_
          simp only [List.set_cons_zero, List.set_cons_succ]
          refine v_goto 10 dX12_firstFit_35 (by decide) ?_
          refine V.weak (la2 := [some (.ref 226), some (.int l1), some (.int l2), some (.int (l3 + 1))]) (by simp [wk]) ?_
          exact (s_X12_firstFit_IH_10) _ _ _ _ _ _ hF hG
        · rw [if_neg c5] at hF
          refine v_bipush (v := 10) dX12_firstFit_25 (by decide) ?_
          refine v_iload_n (i := 2) dX12_firstFit_27 rfl rfl ?_
          refine v_imul dX12_firstFit_28 ?_
          refine v_iload_n (i := 3) dX12_firstFit_29 rfl rfl ?_
          refine v_iadd dX12_firstFit_30 ?_
          refine v_ireturn rfl dX12_firstFit_31 ?_
          obtain ⟨rfl, rfl⟩ := Prod.mk.inj (Option.some.inj hF)
          exact ⟨rfl, rfl, hG⟩
def F_X12_firstFit (n : Nat) (h : Hp) (x1 : Int32) : Option (Int32 × Hp) := W_X12_firstFit n 2 h  x1 2 0
set_option maxRecDepth 100000 in
set_option maxHeartbeats 4000000 in
theorem s_X12_firstFit (d : Nat) {n : Nat} {h : Hp} {x1 : Int32} {q0 : (Int32 × Hp)} (hF : F_X12_firstFit n h x1 = some q0) (hG : G h)  : Kc mX12_firstFit (d + 1) [.ref 226, .int x1] h (fun r1 h1 => r1 = some (.int q0.1) ∧ h1 = q0.2 ∧ G q0.2) := by
  obtain ⟨r, h'⟩ := q0
  obtain ⟨s_X12_firstFit_IH_2, s_X12_firstFit_IH_10⟩ := sw_X12_firstFit d   n
  unfold F_X12_firstFit at hF
  refine Kc.of [some (.ref 226), some (.int x1), none, none] ok_X12_firstFit rfl (Nat.le_of_ble_eq_true rfl) ?_
  refine v_iconst (v := 2) dX12_firstFit_0 (by decide) ?_
  refine v_istore_n (i := 2) dX12_firstFit_1 rfl (by decide) (nlT rfl) ?_
  simp only [List.set_cons_zero, List.set_cons_succ]
  refine V.weak (la2 := [some (.ref 226), some (.int x1), some (.int 2), none]) (by simp [wk]) ?_
  exact (s_X12_firstFit_IH_2) _ _ _ _ _ hF hG
def W_X12_fitting : Nat → Nat → Hp → Int32 → Int32 → Int32 → Int32 → Int32 → Option (Int32 × Hp)
  | 0 => fun _ _ _ _ _ _ _ => none
  | n + 1 => fun hd h l1 l2 l3 l4 l5 => (if hd = 5 then (if (6 : Int32) < (l4 : Int32) then some (l3, h) else W_X12_fitting n 15 h  l1 l2 l3 l4 0) else (if hd = 15 then (if (l4 : Int32) ≤ (l5 : Int32) then W_X12_fitting n 5 h  l1 l2 l3 (l4 + 1) 0 else (if (l2 : Int32) < 0 then ((F_X12_doesFit n h l4 l5 l1).bind (fun q4 => (if (q4.1 : Int32) = 0 then W_X12_fitting n 15 q4.2  l1 l2 l3 l4 (l5 + 1) else W_X12_fitting n 15 q4.2  l1 l2 (l3 + 1) l4 (l5 + 1)))) else (if l4 = 0 then none else (if ((l2 - l2 / l4 * l4) : Int32) = (l5 : Int32) then ((F_X12_doesFit n h l4 l5 l1).bind (fun q9 => (if (q9.1 : Int32) = 0 then W_X12_fitting n 15 q9.2  l1 l2 l3 l4 (l5 + 1) else W_X12_fitting n 15 q9.2  l1 l2 (l3 + 1) l4 (l5 + 1)))) else W_X12_fitting n 15 h  l1 l2 l3 l4 (l5 + 1))))) else none))
set_option maxRecDepth 100000 in
set_option maxHeartbeats 4000000 in
theorem sw_X12_fitting (d : Nat)  (n : Nat) : (∀ (l1 : Int32) (l2 : Int32) (l3 : Int32) (l4 : Int32) (h : Hp), ∀ (r : Int32) (h' : Hp), W_X12_fitting n 5 h  l1 l2 l3 l4 0 = some (r, h') → G h → V mX12_fitting (d + 1) 5 [some (.ref 226), some (.int l1), some (.int l2), some (.int l3), some (.int l4), none] [] h (fun r1 h1 => r1 = some (.int r) ∧ h1 = h' ∧ G h')) ∧ (∀ (l1 : Int32) (l2 : Int32) (l3 : Int32) (l4 : Int32) (l5 : Int32) (h : Hp), ∀ (r : Int32) (h' : Hp), W_X12_fitting n 15 h  l1 l2 l3 l4 l5 = some (r, h') → G h → V mX12_fitting (d + 1) 15 [some (.ref 226), some (.int l1), some (.int l2), some (.int l3), some (.int l4), some (.int l5)] [] h (fun r1 h1 => r1 = some (.int r) ∧ h1 = h' ∧ G h')) := by
  induction n with
  | zero => exact ⟨by intros; contradiction, by intros; contradiction⟩
  | succ n ih =>
    obtain ⟨s_X12_fitting_IH_5, s_X12_fitting_IH_15⟩ := ih
    refine ⟨?_, ?_⟩
    · intro l1 l2 l3 l4 h r h' hF hG
      unfold W_X12_fitting at hF
      rw [if_pos rfl] at hF
      refine v_iload (i := 4) dX12_fitting_5 rfl ?_
      refine v_bipush (v := 6) dX12_fitting_7 (by decide) ?_
      refine v_icmp_gt 62 dX12_fitting_9 (by decide) (fun c1 => ?_) (fun c1 => ?_)
      · rw [if_pos c1] at hF
        refine v_iload_n (i := 3) dX12_fitting_62 rfl rfl ?_
        refine v_ireturn rfl dX12_fitting_63 ?_
        obtain ⟨rfl, rfl⟩ := Prod.mk.inj (Option.some.inj hF)
        exact ⟨rfl, rfl, hG⟩
      · rw [if_neg c1] at hF
        refine v_iconst (v := 0) dX12_fitting_12 (by decide) ?_
        refine v_istore (i := 5) dX12_fitting_13 (by decide) (nlT rfl) ?_
        simp only [List.set_cons_zero, List.set_cons_succ]
        refine V.weak (la2 := [some (.ref 226), some (.int l1), some (.int l2), some (.int l3), some (.int l4), some (.int 0)]) (by simp [wk]) ?_
        exact (s_X12_fitting_IH_15) _ _ _ _ _ _ _ _ hF hG
    · intro l1 l2 l3 l4 l5 h r h' hF hG
      unfold W_X12_fitting at hF
      rw [if_neg (by decide)] at hF
      rw [if_pos rfl] at hF
      refine v_iload (i := 5) dX12_fitting_15 rfl ?_
      refine v_iload (i := 4) dX12_fitting_17 rfl ?_
      refine v_icmp_ge 56 dX12_fitting_19 (by decide) (fun c2 => ?_) (fun c2 => ?_)
      · rw [if_pos c2] at hF
        refine v_iinc (i := 4) (v := (l4 + 1)) dX12_fitting_56 rfl rfl (by decide) (nlT rfl) ?_
        simp only [List.set_cons_zero, List.set_cons_succ]
        refine v_goto 5 dX12_fitting_59 (by decide) ?_
        refine V.weak (la2 := [some (.ref 226), some (.int l1), some (.int l2), some (.int l3), some (.int (l4 + 1)), none]) (by simp [wk]) ?_
        exact (s_X12_fitting_IH_5) _ _ _ _ _ _ _ hF hG
      · rw [if_neg c2] at hF
        refine v_iload_n (i := 2) dX12_fitting_22 rfl rfl ?_
        refine v_if_lt 35 dX12_fitting_23 (by decide) (fun c3 => ?_) (fun c3 => ?_)
        · rw [if_pos c3] at hF
          refine v_aload_n (i := 0) dX12_fitting_35 rfl rfl ?_
          refine v_iload (i := 4) dX12_fitting_36 rfl ?_
          refine v_iload (i := 5) dX12_fitting_38 rfl ?_
          refine v_iload_n (i := 1) dX12_fitting_40 rfl rfl ?_
          obtain ⟨q4, q4_e, hF⟩ := Option.bind_eq_some_iff.mp hF
          refine c_X12_498 rfl sh_226 (by exact ltG hG (by decide)) (Nat.le_of_ble_eq_true rfl) dX12_fitting_41 (s_X12_doesFit _ q4_e hG) (fun r1 h1 hq => ?_)
          obtain ⟨rfl, hq, hG⟩ := hq
          replace hq := hq.symm
          subst hq
          show V _ _ _ _ (_ :: _) _ _
          refine v_if_eq 50 dX12_fitting_44 (by decide) (fun c6 => ?_) (fun c6 => ?_)
          · rw [if_pos c6] at hF
            refine v_iinc (i := 5) (v := (l5 + 1)) dX12_fitting_50 rfl rfl (by decide) (nlT rfl) ?_
            simp only [List.set_cons_zero, List.set_cons_succ]
            refine v_goto 15 dX12_fitting_53 (by decide) ?_
            refine V.weak (la2 := [some (.ref 226), some (.int l1), some (.int l2), some (.int l3), some (.int l4), some (.int (l5 + 1))]) (by simp [wk]) ?_
            exact (s_X12_fitting_IH_15) _ _ _ _ _ _ _ _ hF hG
          · rw [if_neg c6] at hF
            refine v_iinc (i := 3) (v := (l3 + 1)) dX12_fitting_47 rfl rfl (by decide) (nlT rfl) ?_
            simp only [List.set_cons_zero, List.set_cons_succ]
            refine v_iinc (i := 5) (v := (l5 + 1)) dX12_fitting_50 rfl rfl (by decide) (nlT rfl) ?_
            simp only [List.set_cons_zero, List.set_cons_succ]
            refine v_goto 15 dX12_fitting_53 (by decide) ?_
            refine V.weak (la2 := [some (.ref 226), some (.int l1), some (.int l2), some (.int (l3 + 1)), some (.int l4), some (.int (l5 + 1))]) (by simp [wk]) ?_
            exact (s_X12_fitting_IH_15) _ _ _ _ _ _ _ _ hF hG
        · rw [if_neg c3] at hF
          refine v_iload_n (i := 2) dX12_fitting_26 rfl rfl ?_
          refine v_iload (i := 4) dX12_fitting_27 rfl ?_
          obtain ⟨k7, hF⟩ := ck_none hF
          refine v_irem dX12_fitting_29 k7 ?_
          refine v_iload (i := 5) dX12_fitting_30 rfl ?_
          refine v_icmp_ne 50 dX12_fitting_32 (by decide) (fun c8 => ?_) (fun c8 => ?_)
          · rw [if_neg c8] at hF
            refine v_iinc (i := 5) (v := (l5 + 1)) dX12_fitting_50 rfl rfl (by decide) (nlT rfl) ?_
            simp only [List.set_cons_zero, List.set_cons_succ]
            refine v_goto 15 dX12_fitting_53 (by decide) ?_
            refine V.weak (la2 := [some (.ref 226), some (.int l1), some (.int l2), some (.int l3), some (.int l4), some (.int (l5 + 1))]) (by simp [wk]) ?_
            exact (s_X12_fitting_IH_15) _ _ _ _ _ _ _ _ hF hG
          · rw [if_pos c8] at hF
            refine v_aload_n (i := 0) dX12_fitting_35 rfl rfl ?_
            refine v_iload (i := 4) dX12_fitting_36 rfl ?_
            refine v_iload (i := 5) dX12_fitting_38 rfl ?_
            refine v_iload_n (i := 1) dX12_fitting_40 rfl rfl ?_
            obtain ⟨q9, q9_e, hF⟩ := Option.bind_eq_some_iff.mp hF
            refine c_X12_498 rfl sh_226 (by exact ltG hG (by decide)) (Nat.le_of_ble_eq_true rfl) dX12_fitting_41 (s_X12_doesFit _ q9_e hG) (fun r1 h1 hq => ?_)
            obtain ⟨rfl, hq, hG⟩ := hq
            replace hq := hq.symm
            subst hq
            show V _ _ _ _ (_ :: _) _ _
            refine v_if_eq 50 dX12_fitting_44 (by decide) (fun c11 => ?_) (fun c11 => ?_)
            · rw [if_pos c11] at hF
              refine v_iinc (i := 5) (v := (l5 + 1)) dX12_fitting_50 rfl rfl (by decide) (nlT rfl) ?_
              simp only [List.set_cons_zero, List.set_cons_succ]
              refine v_goto 15 dX12_fitting_53 (by decide) ?_
              refine V.weak (la2 := [some (.ref 226), some (.int l1), some (.int l2), some (.int l3), some (.int l4), some (.int (l5 + 1))]) (by simp [wk]) ?_
              exact (s_X12_fitting_IH_15) _ _ _ _ _ _ _ _ hF hG
            · rw [if_neg c11] at hF
              refine v_iinc (i := 3) (v := (l3 + 1)) dX12_fitting_47 rfl rfl (by decide) (nlT rfl) ?_
              simp only [List.set_cons_zero, List.set_cons_succ]
              refine v_iinc (i := 5) (v := (l5 + 1)) dX12_fitting_50 rfl rfl (by decide) (nlT rfl) ?_
              simp only [List.set_cons_zero, List.set_cons_succ]
              refine v_goto 15 dX12_fitting_53 (by decide) ?_
              refine V.weak (la2 := [some (.ref 226), some (.int l1), some (.int l2), some (.int (l3 + 1)), some (.int l4), some (.int (l5 + 1))]) (by simp [wk]) ?_
              exact (s_X12_fitting_IH_15) _ _ _ _ _ _ _ _ hF hG
def F_X12_fitting (n : Nat) (h : Hp) (x1 : Int32) (x2 : Int32) : Option (Int32 × Hp) := W_X12_fitting n 5 h  x1 x2 0 2 0
set_option maxRecDepth 100000 in
set_option maxHeartbeats 4000000 in
theorem s_X12_fitting (d : Nat) {n : Nat} {h : Hp} {x1 : Int32} {x2 : Int32} {q0 : (Int32 × Hp)} (hF : F_X12_fitting n h x1 x2 = some q0) (hG : G h)  : Kc mX12_fitting (d + 1) [.ref 226, .int x1, .int x2] h (fun r1 h1 => r1 = some (.int q0.1) ∧ h1 = q0.2 ∧ G q0.2) := by
  obtain ⟨r, h'⟩ := q0
  obtain ⟨s_X12_fitting_IH_5, s_X12_fitting_IH_15⟩ := sw_X12_fitting d   n
  unfold F_X12_fitting at hF
  refine Kc.of [some (.ref 226), some (.int x1), some (.int x2), none, none, none] ok_X12_fitting rfl (Nat.le_of_ble_eq_true rfl) ?_
  refine v_iconst (v := 0) dX12_fitting_0 (by decide) ?_
  refine v_istore_n (i := 3) dX12_fitting_1 rfl (by decide) (nlT rfl) ?_
  simp only [List.set_cons_zero, List.set_cons_succ]
  refine v_iconst (v := 2) dX12_fitting_2 (by decide) ?_
  refine v_istore (i := 4) dX12_fitting_3 (by decide) (nlT rfl) ?_
  simp only [List.set_cons_zero, List.set_cons_succ]
  refine V.weak (la2 := [some (.ref 226), some (.int x1), some (.int x2), some (.int 0), some (.int 2), none]) (by simp [wk]) ?_
  exact (s_X12_fitting_IH_5) _ _ _ _ _ _ _ hF hG
def F_X12_forget (n : Nat) (h : Hp) : Option (Int32 × Hp) := some ((hi h 226 65), (wrI h 226 65 0))
set_option maxRecDepth 100000 in
set_option maxHeartbeats 4000000 in
theorem s_X12_forget (d : Nat) {n : Nat} {h : Hp}  {q0 : (Int32 × Hp)} (hF : F_X12_forget n h  = some q0) (hG : G h)  : Kc mX12_forget (d) [.ref 226] h (fun r1 h1 => r1 = some (.int q0.1) ∧ h1 = q0.2 ∧ G q0.2) := by
  obtain ⟨r, h'⟩ := q0
  unfold F_X12_forget at hF
  refine Kc.of [some (.ref 226), none] ok_X12_forget rfl (Nat.le_of_ble_eq_true rfl) ?_
  refine v_aload_n (i := 0) dX12_forget_0 rfl rfl ?_
  refine g_X12_274 rfl sh_226 (by exact ltG hG (by decide)) dX12_forget_1 ?_
  refine v_istore_n (i := 1) dX12_forget_4 rfl (by decide) (nlT rfl) ?_
  simp only [List.set_cons_zero, List.set_cons_succ]
  refine v_aload_n (i := 0) dX12_forget_5 rfl rfl ?_
  refine v_iconst (v := 0) dX12_forget_6 (by decide) ?_
  refine p_X12_274 rfl sh_226 (by exact ltG hG (by decide)) dX12_forget_7 ?_
  refine v_iload_n (i := 1) dX12_forget_10 rfl rfl ?_
  refine v_ireturn rfl dX12_forget_11 ?_
  obtain ⟨rfl, rfl⟩ := Prod.mk.inj (Option.some.inj hF)
  exact ⟨rfl, rfl, hG⟩
def F_X12_freeBits (n : Nat) (h : Hp) : Option (Int32 × Hp) := ((F_X12_cells n h).bind (fun q1 => some ((((((1 : Int32) <<< ((q1.1 : Int32) &&& 31)) - 1) : Int32) &&& ((((hi q1.2 263 50) : Int32) ^^^ ((-1) : Int32)) : Int32)), q1.2)))
set_option maxRecDepth 100000 in
set_option maxHeartbeats 4000000 in
theorem s_X12_freeBits (d : Nat) {n : Nat} {h : Hp}  {q0 : (Int32 × Hp)} (hF : F_X12_freeBits n h  = some q0) (hG : G h)  : Kc mX12_freeBits (d + 1) [.ref 226] h (fun r1 h1 => r1 = some (.int q0.1) ∧ h1 = q0.2 ∧ G q0.2) := by
  obtain ⟨r, h'⟩ := q0
  unfold F_X12_freeBits at hF
  refine Kc.of [some (.ref 226)] ok_X12_freeBits rfl (Nat.le_of_ble_eq_true rfl) ?_
  refine v_iconst (v := 1) dX12_freeBits_0 (by decide) ?_
  refine v_aload_n (i := 0) dX12_freeBits_1 rfl rfl ?_
  obtain ⟨q1, q1_e, hF⟩ := Option.bind_eq_some_iff.mp hF
  refine c_X12_326 rfl sh_226 (by exact ltG hG (by decide)) (Nat.le_of_ble_eq_true rfl) dX12_freeBits_2 (s_X12_cells _ q1_e hG) (fun r1 h1 hq => ?_)
  obtain ⟨rfl, hq, hG⟩ := hq
  replace hq := hq.symm
  subst hq
  show V _ _ _ _ (_ :: _) _ _
  refine v_ishl dX12_freeBits_5 ?_
  refine v_iconst (v := 1) dX12_freeBits_6 (by decide) ?_
  refine v_isub dX12_freeBits_7 ?_
  refine v_aload_n (i := 0) dX12_freeBits_8 rfl rfl ?_
  refine g_X12_128 (q := 263) rfl sh_226 (by exact ltG hG (by decide)) (by exact rG hG r0_226_54) dX12_freeBits_9 ?_
  refine v_bipush (v := 50) dX12_freeBits_12 (by decide) ?_
  refine v_iaload sh_263 (by exact ltG hG (by decide)) (ixK 50 (by decide)) dX12_freeBits_14 ?_
  refine v_iconst (v := (-1)) dX12_freeBits_15 (by decide) ?_
  refine v_ixor dX12_freeBits_16 ?_
  refine v_iand dX12_freeBits_17 ?_
  refine v_ireturn rfl dX12_freeBits_18 ?_
  obtain ⟨rfl, rfl⟩ := Prod.mk.inj (Option.some.inj hF)
  exact ⟨rfl, rfl, hG⟩
def W_X12_goerBits : Nat → Nat → Hp → Int32 → Int32 → Option (Int32 × Hp)
  | 0 => fun _ _ _ _ => none
  | n + 1 => fun hd h l1 l2 => (if hd = 4 then (if ixOK (hi h 226 18) 2 = true then (if ((hi h 242 (Int32.toNatClampNeg (hi h 226 18))) : Int32) ≤ (l2 : Int32) then some (l1, h) else (if ixOK (51 + l2) 63 = true then W_X12_goerBits n 4 h  ((l1 : Int32) ||| (((1 : Int32) <<< (((hi h 263 (Int32.toNatClampNeg (51 + l2))) : Int32) &&& 31)) : Int32)) (l2 + 1) else none)) else none) else none)
set_option maxRecDepth 100000 in
set_option maxHeartbeats 4000000 in
theorem sw_X12_goerBits (d : Nat)  (n : Nat) : (∀ (l1 : Int32) (l2 : Int32) (h : Hp), ∀ (r : Int32) (h' : Hp), W_X12_goerBits n 4 h  l1 l2 = some (r, h') → G h → V mX12_goerBits (d) 4 [some (.ref 226), some (.int l1), some (.int l2)] [] h (fun r1 h1 => r1 = some (.int r) ∧ h1 = h' ∧ G h')) := by
  induction n with
  | zero => exact by intros; contradiction
  | succ n ih =>
    have s_X12_goerBits_IH_4 := ih
    intro l1 l2 h r h' hF hG
    unfold W_X12_goerBits at hF
    rw [if_pos rfl] at hF
    refine v_iload_n (i := 2) dX12_goerBits_4 rfl rfl ?_
    refine v_aload_n (i := 0) dX12_goerBits_5 rfl rfl ?_
    refine g_X12_64 (q := 242) rfl sh_226 (by exact ltG hG (by decide)) (by exact rG hG r0_226_29) dX12_goerBits_6 ?_
    refine v_aload_n (i := 0) dX12_goerBits_9 rfl rfl ?_
    refine g_X12_245 rfl sh_226 (by exact ltG hG (by decide)) dX12_goerBits_10 ?_
    obtain ⟨k1, hF⟩ := ck_some hF
    refine v_iaload sh_242 (by exact ltG hG (by decide)) (ixO k1) dX12_goerBits_13 ?_
    refine v_icmp_ge 37 dX12_goerBits_14 (by decide) (fun c2 => ?_) (fun c2 => ?_)
    · rw [if_pos c2] at hF
      refine v_iload_n (i := 1) dX12_goerBits_37 rfl rfl ?_
      refine v_ireturn rfl dX12_goerBits_38 ?_
      obtain ⟨rfl, rfl⟩ := Prod.mk.inj (Option.some.inj hF)
      exact ⟨rfl, rfl, hG⟩
    · rw [if_neg c2] at hF
      refine v_iload_n (i := 1) dX12_goerBits_17 rfl rfl ?_
      refine v_iconst (v := 1) dX12_goerBits_18 (by decide) ?_
      refine v_aload_n (i := 0) dX12_goerBits_19 rfl rfl ?_
      refine g_X12_128 (q := 263) rfl sh_226 (by exact ltG hG (by decide)) (by exact rG hG r0_226_54) dX12_goerBits_20 ?_
      refine v_bipush (v := 51) dX12_goerBits_23 (by decide) ?_
      refine v_iload_n (i := 2) dX12_goerBits_25 rfl rfl ?_
      refine v_iadd dX12_goerBits_26 ?_
      obtain ⟨k3, hF⟩ := ck_some hF
      refine v_iaload sh_263 (by exact ltG hG (by decide)) (ixO k3) dX12_goerBits_27 ?_
      refine v_ishl dX12_goerBits_28 ?_
      refine v_ior dX12_goerBits_29 ?_
      refine v_istore_n (i := 1) dX12_goerBits_30 rfl (by decide) (nlT rfl) ?_
      simp only [List.set_cons_zero, List.set_cons_succ]
      refine v_iinc (i := 2) (v := (l2 + 1)) dX12_goerBits_31 rfl rfl (by decide) (nlT rfl) ?_
      simp only [List.set_cons_zero, List.set_cons_succ]
      refine v_goto 4 dX12_goerBits_34 (by decide) ?_
      refine V.weak (la2 := [some (.ref 226), some (.int ((l1 : Int32) ||| (((1 : Int32) <<< (((hi h 263 (Int32.toNatClampNeg (51 + l2))) : Int32) &&& 31)) : Int32))), some (.int (l2 + 1))]) (by simp [wk]) ?_
      exact (s_X12_goerBits_IH_4) _ _ _ _ _ hF hG
def F_X12_goerBits (n : Nat) (h : Hp) : Option (Int32 × Hp) := W_X12_goerBits n 4 h  0 0
set_option maxRecDepth 100000 in
set_option maxHeartbeats 4000000 in
theorem s_X12_goerBits (d : Nat) {n : Nat} {h : Hp}  {q0 : (Int32 × Hp)} (hF : F_X12_goerBits n h  = some q0) (hG : G h)  : Kc mX12_goerBits (d) [.ref 226] h (fun r1 h1 => r1 = some (.int q0.1) ∧ h1 = q0.2 ∧ G q0.2) := by
  obtain ⟨r, h'⟩ := q0
  have s_X12_goerBits_IH_4 := sw_X12_goerBits d   n
  unfold F_X12_goerBits at hF
  refine Kc.of [some (.ref 226), none, none] ok_X12_goerBits rfl (Nat.le_of_ble_eq_true rfl) ?_
  refine v_iconst (v := 0) dX12_goerBits_0 (by decide) ?_
  refine v_istore_n (i := 1) dX12_goerBits_1 rfl (by decide) (nlT rfl) ?_
  simp only [List.set_cons_zero, List.set_cons_succ]
  refine v_iconst (v := 0) dX12_goerBits_2 (by decide) ?_
  refine v_istore_n (i := 2) dX12_goerBits_3 rfl (by decide) (nlT rfl) ?_
  simp only [List.set_cons_zero, List.set_cons_succ]
  refine V.weak (la2 := [some (.ref 226), some (.int 0), some (.int 0)]) (by simp [wk]) ?_
  exact (s_X12_goerBits_IH_4) _ _ _ _ _ hF hG
def F_X12_goesOn (n : Nat) (h : Hp) : Option Hp := (if ((hi h 226 11) : Int32) = (400 : Int32) then ((F_X12_fail n h 2).bind (fun q2 => some q2)) else some (wrI h 226 11 ((hi h 226 11) + 1)))
set_option maxRecDepth 100000 in
set_option maxHeartbeats 4000000 in
theorem s_X12_goesOn (d : Nat) {n : Nat} {h : Hp}  {q0 : Hp} (hF : F_X12_goesOn n h  = some q0) (hG : G h)  : Kc mX12_goesOn (d + 1) [.ref 226] h (fun r1 h1 => r1 = none ∧ h1 = q0 ∧ G q0) := by
  obtain ⟨h', rfl⟩ : ∃ z, z = q0 := ⟨_, rfl⟩
  unfold F_X12_goesOn at hF
  refine Kc.of [some (.ref 226)] ok_X12_goesOn rfl (Nat.le_of_ble_eq_true rfl) ?_
  refine v_aload_n (i := 0) dX12_goesOn_0 rfl rfl ?_
  refine g_X12_218 rfl sh_226 (by exact ltG hG (by decide)) dX12_goesOn_1 ?_
  refine v_sipush (v := 400) dX12_goesOn_4 (by decide) ?_
  refine v_icmp_ne 18 dX12_goesOn_7 (by decide) (fun c1 => ?_) (fun c1 => ?_)
  · rw [if_neg c1] at hF
    refine v_aload_n (i := 0) dX12_goesOn_18 rfl rfl ?_
    refine v_dup dX12_goesOn_19 rfl ?_
    refine g_X12_218 rfl sh_226 (by exact ltG hG (by decide)) dX12_goesOn_20 ?_
    refine v_iconst (v := 1) dX12_goesOn_23 (by decide) ?_
    refine v_iadd dX12_goesOn_24 ?_
    refine p_X12_218 rfl sh_226 (by exact ltG hG (by decide)) dX12_goesOn_25 ?_
    refine v_return rfl dX12_goesOn_28 ?_
    obtain rfl := Option.some.inj hF
    exact ⟨rfl, rfl, hG⟩
  · rw [if_pos c1] at hF
    refine v_aload_n (i := 0) dX12_goesOn_10 rfl rfl ?_
    refine v_iconst (v := 2) dX12_goesOn_11 (by decide) ?_
    obtain ⟨q2, q2_e, hF⟩ := Option.bind_eq_some_iff.mp hF
    refine c_X12_230 rfl sh_226 (by exact ltG hG (by decide)) (Nat.le_of_ble_eq_true rfl) dX12_goesOn_12 (s_X12_fail _ q2_e hG) (fun r1 h1 hq => ?_)
    obtain ⟨rfl, hq, hG⟩ := hq
    replace hq := hq.symm
    subst hq
    simp only [Option.toList, List.nil_append]
    refine v_goto 28 dX12_goesOn_15 (by decide) ?_
    refine v_return rfl dX12_goesOn_28 ?_
    obtain rfl := Option.some.inj hF
    exact ⟨rfl, rfl, hG⟩
def W_X12_greatest : Nat → Nat → Hp → Int32 → Int32 → Int32 → Int32 → Option (Int32 × Hp)
  | 0 => fun _ _ _ _ _ _ => none
  | n + 1 => fun hd h l0 l1 l2 l3 => (if hd = 4 then (if (l3 : Int32) = 0 then some (l2, h) else (if l3 = 0 then none else W_X12_greatest n 4 h  l0 l1 l3 (l2 - l2 / l3 * l3))) else none)
set_option maxRecDepth 100000 in
set_option maxHeartbeats 4000000 in
theorem sw_X12_greatest (d : Nat)  (n : Nat) : (∀ (l0 : Int32) (l1 : Int32) (l2 : Int32) (l3 : Int32) (h : Hp), ∀ (r : Int32) (h' : Hp), W_X12_greatest n 4 h  l0 l1 l2 l3 = some (r, h') → G h → V mX12_greatest (d) 4 [some (.int l0), some (.int l1), some (.int l2), some (.int l3), none] [] h (fun r1 h1 => r1 = some (.int r) ∧ h1 = h' ∧ G h')) := by
  induction n with
  | zero => exact by intros; contradiction
  | succ n ih =>
    have s_X12_greatest_IH_4 := ih
    intro l0 l1 l2 l3 h r h' hF hG
    unfold W_X12_greatest at hF
    rw [if_pos rfl] at hF
    refine v_iload_n (i := 3) dX12_greatest_4 rfl rfl ?_
    refine v_if_eq 21 dX12_greatest_5 (by decide) (fun c1 => ?_) (fun c1 => ?_)
    · rw [if_pos c1] at hF
      refine v_iload_n (i := 2) dX12_greatest_21 rfl rfl ?_
      refine v_ireturn rfl dX12_greatest_22 ?_
      obtain ⟨rfl, rfl⟩ := Prod.mk.inj (Option.some.inj hF)
      exact ⟨rfl, rfl, hG⟩
    · rw [if_neg c1] at hF
      refine v_iload_n (i := 2) dX12_greatest_8 rfl rfl ?_
      refine v_iload_n (i := 3) dX12_greatest_9 rfl rfl ?_
      obtain ⟨k2, hF⟩ := ck_none hF
      refine v_irem dX12_greatest_10 k2 ?_
      refine v_istore (i := 4) dX12_greatest_11 (by decide) (nlT rfl) ?_
      simp only [List.set_cons_zero, List.set_cons_succ]
      refine v_iload_n (i := 3) dX12_greatest_13 rfl rfl ?_
      refine v_istore_n (i := 2) dX12_greatest_14 rfl (by decide) (nlT rfl) ?_
      simp only [List.set_cons_zero, List.set_cons_succ]
      refine v_iload (i := 4) dX12_greatest_15 rfl ?_
      refine v_istore_n (i := 3) dX12_greatest_17 rfl (by decide) (nlT rfl) ?_
      simp only [List.set_cons_zero, List.set_cons_succ]
      refine v_goto 4 dX12_greatest_18 (by decide) ?_
      refine V.weak (la2 := [some (.int l0), some (.int l1), some (.int l3), some (.int (l2 - l2 / l3 * l3)), none]) (by simp [wk]) ?_
      exact (s_X12_greatest_IH_4) _ _ _ _ _ _ _ hF hG
def F_X12_greatest (n : Nat) (h : Hp) (x1 : Int32) (x2 : Int32) : Option (Int32 × Hp) := W_X12_greatest n 4 h  x1 x2 x1 x2
set_option maxRecDepth 100000 in
set_option maxHeartbeats 4000000 in
theorem s_X12_greatest (d : Nat) {n : Nat} {h : Hp} {x1 : Int32} {x2 : Int32} {q0 : (Int32 × Hp)} (hF : F_X12_greatest n h x1 x2 = some q0) (hG : G h)  : Kc mX12_greatest (d) [.int x1, .int x2] h (fun r1 h1 => r1 = some (.int q0.1) ∧ h1 = q0.2 ∧ G q0.2) := by
  obtain ⟨r, h'⟩ := q0
  have s_X12_greatest_IH_4 := sw_X12_greatest d   n
  unfold F_X12_greatest at hF
  refine Kc.of [some (.int x1), some (.int x2), none, none, none] ok_X12_greatest rfl (Nat.le_of_ble_eq_true rfl) ?_
  refine v_iload_n (i := 0) dX12_greatest_0 rfl rfl ?_
  refine v_istore_n (i := 2) dX12_greatest_1 rfl (by decide) (nlT rfl) ?_
  simp only [List.set_cons_zero, List.set_cons_succ]
  refine v_iload_n (i := 1) dX12_greatest_2 rfl rfl ?_
  refine v_istore_n (i := 3) dX12_greatest_3 rfl (by decide) (nlT rfl) ?_
  simp only [List.set_cons_zero, List.set_cons_succ]
  refine V.weak (la2 := [some (.int x1), some (.int x2), some (.int x1), some (.int x2), none]) (by simp [wk]) ?_
  exact (s_X12_greatest_IH_4) _ _ _ _ _ _ _ hF hG
def F_X12_in (n : Nat) (h : Hp) (x1 : Int32) (x2 : Int32) (x3 : Int32) : Option (Int32 × Hp) := (if (x1 : Int32) < (x2 : Int32) then some (0, h) else (if (x3 : Int32) < (x1 : Int32) then some (0, h) else some (1, h)))
set_option maxRecDepth 100000 in
set_option maxHeartbeats 4000000 in
theorem s_X12_in (d : Nat) {n : Nat} {h : Hp} {x1 : Int32} {x2 : Int32} {x3 : Int32} {q0 : (Int32 × Hp)} (hF : F_X12_in n h x1 x2 x3 = some q0) (hG : G h)  : Kc mX12_in (d) [.int x1, .int x2, .int x3] h (fun r1 h1 => r1 = some (.int q0.1) ∧ h1 = q0.2 ∧ G q0.2) := by
  obtain ⟨r, h'⟩ := q0
  unfold F_X12_in at hF
  refine Kc.of [some (.int x1), some (.int x2), some (.int x3)] ok_X12_in rfl (Nat.le_of_ble_eq_true rfl) ?_
  refine v_iload_n (i := 0) dX12_in_0 rfl rfl ?_
  refine v_iload_n (i := 1) dX12_in_1 rfl rfl ?_
  refine v_icmp_lt 14 dX12_in_2 (by decide) (fun c1 => ?_) (fun c1 => ?_)
  · rw [if_pos c1] at hF
    refine v_iconst (v := 0) dX12_in_14 (by decide) ?_
    refine v_zreturn rfl (by decide) dX12_in_15 ?_
    obtain ⟨rfl, rfl⟩ := Prod.mk.inj (Option.some.inj hF)
    exact ⟨rfl, rfl, hG⟩
  · rw [if_neg c1] at hF
    refine v_iload_n (i := 0) dX12_in_5 rfl rfl ?_
    refine v_iload_n (i := 2) dX12_in_6 rfl rfl ?_
    refine v_icmp_gt 14 dX12_in_7 (by decide) (fun c2 => ?_) (fun c2 => ?_)
    · rw [if_pos c2] at hF
      refine v_iconst (v := 0) dX12_in_14 (by decide) ?_
      refine v_zreturn rfl (by decide) dX12_in_15 ?_
      obtain ⟨rfl, rfl⟩ := Prod.mk.inj (Option.some.inj hF)
      exact ⟨rfl, rfl, hG⟩
    · rw [if_neg c2] at hF
      refine v_iconst (v := 1) dX12_in_10 (by decide) ?_
      refine v_goto 15 dX12_in_11 (by decide) ?_
      refine v_zreturn rfl (by decide) dX12_in_15 ?_
      obtain ⟨rfl, rfl⟩ := Prod.mk.inj (Option.some.inj hF)
      exact ⟨rfl, rfl, hG⟩
def F_X12_is (n : Nat) (h : Hp) (x1 : Int32) : Option (Int32 × Hp) := (if ((hi h 226 13) : Int32) = 0 then (if ixOK (hi h 226 11) 403 = true then (if ((hi h 229 (Int32.toNatClampNeg (hi h 226 11))) : Int32) = (x1 : Int32) then some (1, h) else some (0, h)) else none) else some (0, h))
set_option maxRecDepth 100000 in
set_option maxHeartbeats 4000000 in
theorem s_X12_is (d : Nat) {n : Nat} {h : Hp} {x1 : Int32} {q0 : (Int32 × Hp)} (hF : F_X12_is n h x1 = some q0) (hG : G h)  : Kc mX12_is (d) [.ref 226, .int x1] h (fun r1 h1 => r1 = some (.int q0.1) ∧ h1 = q0.2 ∧ G q0.2) := by
  obtain ⟨r, h'⟩ := q0
  unfold F_X12_is at hF
  refine Kc.of [some (.ref 226), some (.int x1)] ok_X12_is rfl (Nat.le_of_ble_eq_true rfl) ?_
  refine v_aload_n (i := 0) dX12_is_0 rfl rfl ?_
  refine g_X12_215 rfl sh_226 (by exact ltG hG (by decide)) dX12_is_1 ?_
  refine v_if_ne 24 dX12_is_4 (by decide) (fun c1 => ?_) (fun c1 => ?_)
  · rw [if_neg c1] at hF
    refine v_iconst (v := 0) dX12_is_24 (by decide) ?_
    refine v_zreturn rfl (by decide) dX12_is_25 ?_
    obtain ⟨rfl, rfl⟩ := Prod.mk.inj (Option.some.inj hF)
    exact ⟨rfl, rfl, hG⟩
  · rw [if_pos c1] at hF
    refine v_aload_n (i := 0) dX12_is_7 rfl rfl ?_
    refine g_X12_20 (q := 229) rfl sh_226 (by exact ltG hG (by decide)) (by exact rG hG r0_226_5) dX12_is_8 ?_
    refine v_aload_n (i := 0) dX12_is_11 rfl rfl ?_
    refine g_X12_218 rfl sh_226 (by exact ltG hG (by decide)) dX12_is_12 ?_
    obtain ⟨k2, hF⟩ := ck_some hF
    refine v_iaload sh_229 (by exact ltG hG (by decide)) (ixO k2) dX12_is_15 ?_
    refine v_iload_n (i := 1) dX12_is_16 rfl rfl ?_
    refine v_icmp_ne 24 dX12_is_17 (by decide) (fun c3 => ?_) (fun c3 => ?_)
    · rw [if_neg c3] at hF
      refine v_iconst (v := 0) dX12_is_24 (by decide) ?_
      refine v_zreturn rfl (by decide) dX12_is_25 ?_
      obtain ⟨rfl, rfl⟩ := Prod.mk.inj (Option.some.inj hF)
      exact ⟨rfl, rfl, hG⟩
    · rw [if_pos c3] at hF
      refine v_iconst (v := 1) dX12_is_20 (by decide) ?_
      refine v_goto 25 dX12_is_21 (by decide) ?_
      refine v_zreturn rfl (by decide) dX12_is_25 ?_
      obtain ⟨rfl, rfl⟩ := Prod.mk.inj (Option.some.inj hF)
      exact ⟨rfl, rfl, hG⟩
def F_X12_isCell (n : Nat) (h : Hp) (x1 : Int32) : Option (Int32 × Hp) := ((F_X12_cells n h).bind (fun q1 => ((F_X12_in n q1.2 x1 0 (q1.1 - 1)).bind (fun q3 => (if q3.1 = 0 ∨ q3.1 = 1 then some (q3.1, q3.2) else none)))))
set_option maxRecDepth 100000 in
set_option maxHeartbeats 4000000 in
theorem s_X12_isCell (d : Nat) {n : Nat} {h : Hp} {x1 : Int32} {q0 : (Int32 × Hp)} (hF : F_X12_isCell n h x1 = some q0) (hG : G h)  : Kc mX12_isCell (d + 1) [.ref 226, .int x1] h (fun r1 h1 => r1 = some (.int q0.1) ∧ h1 = q0.2 ∧ G q0.2) := by
  obtain ⟨r, h'⟩ := q0
  unfold F_X12_isCell at hF
  refine Kc.of [some (.ref 226), some (.int x1)] ok_X12_isCell rfl (Nat.le_of_ble_eq_true rfl) ?_
  refine v_iload_n (i := 1) dX12_isCell_0 rfl rfl ?_
  refine v_iconst (v := 0) dX12_isCell_1 (by decide) ?_
  refine v_aload_n (i := 0) dX12_isCell_2 rfl rfl ?_
  obtain ⟨q1, q1_e, hF⟩ := Option.bind_eq_some_iff.mp hF
  refine c_X12_326 rfl sh_226 (by exact ltG hG (by decide)) (Nat.le_of_ble_eq_true rfl) dX12_isCell_3 (s_X12_cells _ q1_e hG) (fun r1 h1 hq => ?_)
  obtain ⟨rfl, hq, hG⟩ := hq
  replace hq := hq.symm
  subst hq
  show V _ _ _ _ (_ :: _) _ _
  refine v_iconst (v := 1) dX12_isCell_6 (by decide) ?_
  refine v_isub dX12_isCell_7 ?_
  obtain ⟨q3, q3_e, hF⟩ := Option.bind_eq_some_iff.mp hF
  refine c_X12_330 rfl (Nat.le_of_ble_eq_true rfl) dX12_isCell_8 (s_X12_in _ q3_e hG) (fun r1 h1 hq => ?_)
  obtain ⟨rfl, hq, hG⟩ := hq
  replace hq := hq.symm
  subst hq
  show V _ _ _ _ (_ :: _) _ _
  obtain ⟨k5, hF⟩ := ck_some hF
  refine v_zreturn rfl k5 dX12_isCell_11 ?_
  obtain ⟨rfl, rfl⟩ := Prod.mk.inj (Option.some.inj hF)
  exact ⟨rfl, rfl, hG⟩
def F_X12_isDigit (n : Nat) (h : Hp) (x1 : Int32) : Option (Int32 × Hp) := (if (x1 : Int32) < (48 : Int32) then some (0, h) else (if (57 : Int32) < (x1 : Int32) then some (0, h) else some (1, h)))
set_option maxRecDepth 100000 in
set_option maxHeartbeats 4000000 in
theorem s_X12_isDigit (d : Nat) {n : Nat} {h : Hp} {x1 : Int32} {q0 : (Int32 × Hp)} (hF : F_X12_isDigit n h x1 = some q0) (hG : G h)  : Kc mX12_isDigit (d) [.int x1] h (fun r1 h1 => r1 = some (.int q0.1) ∧ h1 = q0.2 ∧ G q0.2) := by
  obtain ⟨r, h'⟩ := q0
  unfold F_X12_isDigit at hF
  refine Kc.of [some (.int x1)] ok_X12_isDigit rfl (Nat.le_of_ble_eq_true rfl) ?_
  refine v_iload_n (i := 0) dX12_isDigit_0 rfl rfl ?_
  refine v_bipush (v := 48) dX12_isDigit_1 (by decide) ?_
  refine v_icmp_lt 16 dX12_isDigit_3 (by decide) (fun c1 => ?_) (fun c1 => ?_)
  · rw [if_pos c1] at hF
    refine v_iconst (v := 0) dX12_isDigit_16 (by decide) ?_
    refine v_zreturn rfl (by decide) dX12_isDigit_17 ?_
    obtain ⟨rfl, rfl⟩ := Prod.mk.inj (Option.some.inj hF)
    exact ⟨rfl, rfl, hG⟩
  · rw [if_neg c1] at hF
    refine v_iload_n (i := 0) dX12_isDigit_6 rfl rfl ?_
    refine v_bipush (v := 57) dX12_isDigit_7 (by decide) ?_
    refine v_icmp_gt 16 dX12_isDigit_9 (by decide) (fun c2 => ?_) (fun c2 => ?_)
    · rw [if_pos c2] at hF
      refine v_iconst (v := 0) dX12_isDigit_16 (by decide) ?_
      refine v_zreturn rfl (by decide) dX12_isDigit_17 ?_
      obtain ⟨rfl, rfl⟩ := Prod.mk.inj (Option.some.inj hF)
      exact ⟨rfl, rfl, hG⟩
    · rw [if_neg c2] at hF
      refine v_iconst (v := 1) dX12_isDigit_12 (by decide) ?_
      refine v_goto 17 dX12_isDigit_13 (by decide) ?_
      refine v_zreturn rfl (by decide) dX12_isDigit_17 ?_
      obtain ⟨rfl, rfl⟩ := Prod.mk.inj (Option.some.inj hF)
      exact ⟨rfl, rfl, hG⟩
def F_X12_isGoer (n : Nat) (h : Hp) (x1 : Int32) : Option (Int32 × Hp) := (if ixOK (hi h 226 18) 2 = true then ((F_X12_in n h x1 0 ((hi h 242 (Int32.toNatClampNeg (hi h 226 18))) - 1)).bind (fun q2 => (if q2.1 = 0 ∨ q2.1 = 1 then some (q2.1, q2.2) else none))) else none)
set_option maxRecDepth 100000 in
set_option maxHeartbeats 4000000 in
theorem s_X12_isGoer (d : Nat) {n : Nat} {h : Hp} {x1 : Int32} {q0 : (Int32 × Hp)} (hF : F_X12_isGoer n h x1 = some q0) (hG : G h)  : Kc mX12_isGoer (d + 1) [.ref 226, .int x1] h (fun r1 h1 => r1 = some (.int q0.1) ∧ h1 = q0.2 ∧ G q0.2) := by
  obtain ⟨r, h'⟩ := q0
  unfold F_X12_isGoer at hF
  refine Kc.of [some (.ref 226), some (.int x1)] ok_X12_isGoer rfl (Nat.le_of_ble_eq_true rfl) ?_
  refine v_iload_n (i := 1) dX12_isGoer_0 rfl rfl ?_
  refine v_iconst (v := 0) dX12_isGoer_1 (by decide) ?_
  refine v_aload_n (i := 0) dX12_isGoer_2 rfl rfl ?_
  refine g_X12_64 (q := 242) rfl sh_226 (by exact ltG hG (by decide)) (by exact rG hG r0_226_29) dX12_isGoer_3 ?_
  refine v_aload_n (i := 0) dX12_isGoer_6 rfl rfl ?_
  refine g_X12_245 rfl sh_226 (by exact ltG hG (by decide)) dX12_isGoer_7 ?_
  obtain ⟨k1, hF⟩ := ck_some hF
  refine v_iaload sh_242 (by exact ltG hG (by decide)) (ixO k1) dX12_isGoer_10 ?_
  refine v_iconst (v := 1) dX12_isGoer_11 (by decide) ?_
  refine v_isub dX12_isGoer_12 ?_
  obtain ⟨q2, q2_e, hF⟩ := Option.bind_eq_some_iff.mp hF
  refine c_X12_330 rfl (Nat.le_of_ble_eq_true rfl) dX12_isGoer_13 (s_X12_in _ q2_e hG) (fun r1 h1 hq => ?_)
  obtain ⟨rfl, hq, hG⟩ := hq
  replace hq := hq.symm
  subst hq
  show V _ _ _ _ (_ :: _) _ _
  obtain ⟨k4, hF⟩ := ck_some hF
  refine v_zreturn rfl k4 dX12_isGoer_16 ?_
  obtain ⟨rfl, rfl⟩ := Prod.mk.inj (Option.some.inj hF)
  exact ⟨rfl, rfl, hG⟩
def F_X12_isLetter (n : Nat) (h : Hp) (x1 : Int32) : Option (Int32 × Hp) := (if (x1 : Int32) < (97 : Int32) then some (0, h) else (if (122 : Int32) < (x1 : Int32) then some (0, h) else some (1, h)))
set_option maxRecDepth 100000 in
set_option maxHeartbeats 4000000 in
theorem s_X12_isLetter (d : Nat) {n : Nat} {h : Hp} {x1 : Int32} {q0 : (Int32 × Hp)} (hF : F_X12_isLetter n h x1 = some q0) (hG : G h)  : Kc mX12_isLetter (d) [.int x1] h (fun r1 h1 => r1 = some (.int q0.1) ∧ h1 = q0.2 ∧ G q0.2) := by
  obtain ⟨r, h'⟩ := q0
  unfold F_X12_isLetter at hF
  refine Kc.of [some (.int x1)] ok_X12_isLetter rfl (Nat.le_of_ble_eq_true rfl) ?_
  refine v_iload_n (i := 0) dX12_isLetter_0 rfl rfl ?_
  refine v_bipush (v := 97) dX12_isLetter_1 (by decide) ?_
  refine v_icmp_lt 16 dX12_isLetter_3 (by decide) (fun c1 => ?_) (fun c1 => ?_)
  · rw [if_pos c1] at hF
    refine v_iconst (v := 0) dX12_isLetter_16 (by decide) ?_
    refine v_zreturn rfl (by decide) dX12_isLetter_17 ?_
    obtain ⟨rfl, rfl⟩ := Prod.mk.inj (Option.some.inj hF)
    exact ⟨rfl, rfl, hG⟩
  · rw [if_neg c1] at hF
    refine v_iload_n (i := 0) dX12_isLetter_6 rfl rfl ?_
    refine v_bipush (v := 122) dX12_isLetter_7 (by decide) ?_
    refine v_icmp_gt 16 dX12_isLetter_9 (by decide) (fun c2 => ?_) (fun c2 => ?_)
    · rw [if_pos c2] at hF
      refine v_iconst (v := 0) dX12_isLetter_16 (by decide) ?_
      refine v_zreturn rfl (by decide) dX12_isLetter_17 ?_
      obtain ⟨rfl, rfl⟩ := Prod.mk.inj (Option.some.inj hF)
      exact ⟨rfl, rfl, hG⟩
    · rw [if_neg c2] at hF
      refine v_iconst (v := 1) dX12_isLetter_12 (by decide) ?_
      refine v_goto 17 dX12_isLetter_13 (by decide) ?_
      refine v_zreturn rfl (by decide) dX12_isLetter_17 ?_
      obtain ⟨rfl, rfl⟩ := Prod.mk.inj (Option.some.inj hF)
      exact ⟨rfl, rfl, hG⟩
def F_X12_isLong (n : Nat) (h : Hp) (x1 : Int32) : Option (Int32 × Hp) := ((F_X12_in n h x1 0 100).bind (fun q1 => (if q1.1 = 0 ∨ q1.1 = 1 then some (q1.1, q1.2) else none)))
set_option maxRecDepth 100000 in
set_option maxHeartbeats 4000000 in
theorem s_X12_isLong (d : Nat) {n : Nat} {h : Hp} {x1 : Int32} {q0 : (Int32 × Hp)} (hF : F_X12_isLong n h x1 = some q0) (hG : G h)  : Kc mX12_isLong (d + 1) [.int x1] h (fun r1 h1 => r1 = some (.int q0.1) ∧ h1 = q0.2 ∧ G q0.2) := by
  obtain ⟨r, h'⟩ := q0
  unfold F_X12_isLong at hF
  refine Kc.of [some (.int x1)] ok_X12_isLong rfl (Nat.le_of_ble_eq_true rfl) ?_
  refine v_iload_n (i := 0) dX12_isLong_0 rfl rfl ?_
  refine v_iconst (v := 0) dX12_isLong_1 (by decide) ?_
  refine v_bipush (v := 100) dX12_isLong_2 (by decide) ?_
  obtain ⟨q1, q1_e, hF⟩ := Option.bind_eq_some_iff.mp hF
  refine c_X12_330 rfl (Nat.le_of_ble_eq_true rfl) dX12_isLong_4 (s_X12_in _ q1_e hG) (fun r1 h1 hq => ?_)
  obtain ⟨rfl, hq, hG⟩ := hq
  replace hq := hq.symm
  subst hq
  show V _ _ _ _ (_ :: _) _ _
  obtain ⟨k3, hF⟩ := ck_some hF
  refine v_zreturn rfl k3 dX12_isLong_7 ?_
  obtain ⟨rfl, rfl⟩ := Prod.mk.inj (Option.some.inj hF)
  exact ⟨rfl, rfl, hG⟩
def F_X12_isLoud (n : Nat) (h : Hp) (x1 : Int32) (x2 : Int32) : Option (Int32 × Hp) := (if ixOK x1 63 = true then (if ((hi h 263 (Int32.toNatClampNeg x1)) : Int32) ≤ 0 then some (0, h) else (if ixOK x1 63 = true then (if (hi h 263 (Int32.toNatClampNeg x1)) = 0 then none else (if ixOK (25 + x1) 63 = true then (if ((x2 - x2 / (hi h 263 (Int32.toNatClampNeg x1)) * (hi h 263 (Int32.toNatClampNeg x1))) : Int32) = ((hi h 263 (Int32.toNatClampNeg (25 + x1))) : Int32) then some (1, h) else some (0, h)) else none)) else none)) else none)
set_option maxRecDepth 100000 in
set_option maxHeartbeats 4000000 in
theorem s_X12_isLoud (d : Nat) {n : Nat} {h : Hp} {x1 : Int32} {x2 : Int32} {q0 : (Int32 × Hp)} (hF : F_X12_isLoud n h x1 x2 = some q0) (hG : G h)  : Kc mX12_isLoud (d) [.ref 226, .int x1, .int x2] h (fun r1 h1 => r1 = some (.int q0.1) ∧ h1 = q0.2 ∧ G q0.2) := by
  obtain ⟨r, h'⟩ := q0
  unfold F_X12_isLoud at hF
  refine Kc.of [some (.ref 226), some (.int x1), some (.int x2)] ok_X12_isLoud rfl (Nat.le_of_ble_eq_true rfl) ?_
  refine v_aload_n (i := 0) dX12_isLoud_0 rfl rfl ?_
  refine g_X12_128 (q := 263) rfl sh_226 (by exact ltG hG (by decide)) (by exact rG hG r0_226_54) dX12_isLoud_1 ?_
  refine v_iload_n (i := 1) dX12_isLoud_4 rfl rfl ?_
  obtain ⟨k1, hF⟩ := ck_some hF
  refine v_iaload sh_263 (by exact ltG hG (by decide)) (ixO k1) dX12_isLoud_5 ?_
  refine v_if_le 33 dX12_isLoud_6 (by decide) (fun c2 => ?_) (fun c2 => ?_)
  · rw [if_pos c2] at hF
    refine v_iconst (v := 0) dX12_isLoud_33 (by decide) ?_
    refine v_zreturn rfl (by decide) dX12_isLoud_34 ?_
    obtain ⟨rfl, rfl⟩ := Prod.mk.inj (Option.some.inj hF)
    exact ⟨rfl, rfl, hG⟩
  · rw [if_neg c2] at hF
    refine v_iload_n (i := 2) dX12_isLoud_9 rfl rfl ?_
    refine v_aload_n (i := 0) dX12_isLoud_10 rfl rfl ?_
    refine g_X12_128 (q := 263) rfl sh_226 (by exact ltG hG (by decide)) (by exact rG hG r0_226_54) dX12_isLoud_11 ?_
    refine v_iload_n (i := 1) dX12_isLoud_14 rfl rfl ?_
    obtain ⟨k3, hF⟩ := ck_some hF
    refine v_iaload sh_263 (by exact ltG hG (by decide)) (ixO k3) dX12_isLoud_15 ?_
    obtain ⟨k4, hF⟩ := ck_none hF
    refine v_irem dX12_isLoud_16 k4 ?_
    refine v_aload_n (i := 0) dX12_isLoud_17 rfl rfl ?_
    refine g_X12_128 (q := 263) rfl sh_226 (by exact ltG hG (by decide)) (by exact rG hG r0_226_54) dX12_isLoud_18 ?_
    refine v_bipush (v := 25) dX12_isLoud_21 (by decide) ?_
    refine v_iload_n (i := 1) dX12_isLoud_23 rfl rfl ?_
    refine v_iadd dX12_isLoud_24 ?_
    obtain ⟨k5, hF⟩ := ck_some hF
    refine v_iaload sh_263 (by exact ltG hG (by decide)) (ixO k5) dX12_isLoud_25 ?_
    refine v_icmp_ne 33 dX12_isLoud_26 (by decide) (fun c6 => ?_) (fun c6 => ?_)
    · rw [if_neg c6] at hF
      refine v_iconst (v := 0) dX12_isLoud_33 (by decide) ?_
      refine v_zreturn rfl (by decide) dX12_isLoud_34 ?_
      obtain ⟨rfl, rfl⟩ := Prod.mk.inj (Option.some.inj hF)
      exact ⟨rfl, rfl, hG⟩
    · rw [if_pos c6] at hF
      refine v_iconst (v := 1) dX12_isLoud_29 (by decide) ?_
      refine v_goto 34 dX12_isLoud_30 (by decide) ?_
      refine v_zreturn rfl (by decide) dX12_isLoud_34 ?_
      obtain ⟨rfl, rfl⟩ := Prod.mk.inj (Option.some.inj hF)
      exact ⟨rfl, rfl, hG⟩
def F_X12_isOff (n : Nat) (h : Hp) (x1 : Int32) (x2 : Int32) : Option (Int32 × Hp) := (if ixOK (hi h 226 19) 2 = true then (if ((hi h 235 (Int32.toNatClampNeg (hi h 226 19))) : Int32) ≤ (x1 : Int32) then some (1, h) else (if ixOK (hi h 226 19) 2 = true then (if (x2 : Int32) < ((hi h 236 (Int32.toNatClampNeg (hi h 226 19))) : Int32) then some (0, h) else some (1, h)) else none)) else none)
set_option maxRecDepth 100000 in
set_option maxHeartbeats 4000000 in
theorem s_X12_isOff (d : Nat) {n : Nat} {h : Hp} {x1 : Int32} {x2 : Int32} {q0 : (Int32 × Hp)} (hF : F_X12_isOff n h x1 x2 = some q0) (hG : G h)  : Kc mX12_isOff (d) [.ref 226, .int x1, .int x2] h (fun r1 h1 => r1 = some (.int q0.1) ∧ h1 = q0.2 ∧ G q0.2) := by
  obtain ⟨r, h'⟩ := q0
  unfold F_X12_isOff at hF
  refine Kc.of [some (.ref 226), some (.int x1), some (.int x2)] ok_X12_isOff rfl (Nat.le_of_ble_eq_true rfl) ?_
  refine v_iload_n (i := 1) dX12_isOff_0 rfl rfl ?_
  refine v_aload_n (i := 0) dX12_isOff_1 rfl rfl ?_
  refine g_X12_43 (q := 235) rfl sh_226 (by exact ltG hG (by decide)) (by exact rG hG r0_226_22) dX12_isOff_2 ?_
  refine v_aload_n (i := 0) dX12_isOff_5 rfl rfl ?_
  refine g_X12_248 rfl sh_226 (by exact ltG hG (by decide)) dX12_isOff_6 ?_
  obtain ⟨k1, hF⟩ := ck_some hF
  refine v_iaload sh_235 (by exact ltG hG (by decide)) (ixO k1) dX12_isOff_9 ?_
  refine v_icmp_ge 26 dX12_isOff_10 (by decide) (fun c2 => ?_) (fun c2 => ?_)
  · rw [if_pos c2] at hF
    refine v_iconst (v := 1) dX12_isOff_26 (by decide) ?_
    refine v_goto 31 dX12_isOff_27 (by decide) ?_
    refine v_zreturn rfl (by decide) dX12_isOff_31 ?_
    obtain ⟨rfl, rfl⟩ := Prod.mk.inj (Option.some.inj hF)
    exact ⟨rfl, rfl, hG⟩
  · rw [if_neg c2] at hF
    refine v_iload_n (i := 2) dX12_isOff_13 rfl rfl ?_
    refine v_aload_n (i := 0) dX12_isOff_14 rfl rfl ?_
    refine g_X12_46 (q := 236) rfl sh_226 (by exact ltG hG (by decide)) (by exact rG hG r0_226_23) dX12_isOff_15 ?_
    refine v_aload_n (i := 0) dX12_isOff_18 rfl rfl ?_
    refine g_X12_248 rfl sh_226 (by exact ltG hG (by decide)) dX12_isOff_19 ?_
    obtain ⟨k3, hF⟩ := ck_some hF
    refine v_iaload sh_236 (by exact ltG hG (by decide)) (ixO k3) dX12_isOff_22 ?_
    refine v_icmp_lt 30 dX12_isOff_23 (by decide) (fun c4 => ?_) (fun c4 => ?_)
    · rw [if_pos c4] at hF
      refine v_iconst (v := 0) dX12_isOff_30 (by decide) ?_
      refine v_zreturn rfl (by decide) dX12_isOff_31 ?_
      obtain ⟨rfl, rfl⟩ := Prod.mk.inj (Option.some.inj hF)
      exact ⟨rfl, rfl, hG⟩
    · rw [if_neg c4] at hF
      refine v_iconst (v := 1) dX12_isOff_26 (by decide) ?_
      refine v_goto 31 dX12_isOff_27 (by decide) ?_
      refine v_zreturn rfl (by decide) dX12_isOff_31 ?_
      obtain ⟨rfl, rfl⟩ := Prod.mk.inj (Option.some.inj hF)
      exact ⟨rfl, rfl, hG⟩
def F_X12_isRoped (n : Nat) (h : Hp) (x1 : Int32) : Option (Int32 × Hp) := (if ((((((hi h 263 50) : Int32) >>> ((x1 : Int32) &&& 31)) : Int32) &&& (1 : Int32)) : Int32) = (1 : Int32) then some (1, h) else some (0, h))
set_option maxRecDepth 100000 in
set_option maxHeartbeats 4000000 in
theorem s_X12_isRoped (d : Nat) {n : Nat} {h : Hp} {x1 : Int32} {q0 : (Int32 × Hp)} (hF : F_X12_isRoped n h x1 = some q0) (hG : G h)  : Kc mX12_isRoped (d) [.ref 226, .int x1] h (fun r1 h1 => r1 = some (.int q0.1) ∧ h1 = q0.2 ∧ G q0.2) := by
  obtain ⟨r, h'⟩ := q0
  unfold F_X12_isRoped at hF
  refine Kc.of [some (.ref 226), some (.int x1)] ok_X12_isRoped rfl (Nat.le_of_ble_eq_true rfl) ?_
  refine v_aload_n (i := 0) dX12_isRoped_0 rfl rfl ?_
  refine g_X12_128 (q := 263) rfl sh_226 (by exact ltG hG (by decide)) (by exact rG hG r0_226_54) dX12_isRoped_1 ?_
  refine v_bipush (v := 50) dX12_isRoped_4 (by decide) ?_
  refine v_iaload sh_263 (by exact ltG hG (by decide)) (ixK 50 (by decide)) dX12_isRoped_6 ?_
  refine v_iload_n (i := 1) dX12_isRoped_7 rfl rfl ?_
  refine v_ishr dX12_isRoped_8 ?_
  refine v_iconst (v := 1) dX12_isRoped_9 (by decide) ?_
  refine v_iand dX12_isRoped_10 ?_
  refine v_iconst (v := 1) dX12_isRoped_11 (by decide) ?_
  refine v_icmp_ne 19 dX12_isRoped_12 (by decide) (fun c1 => ?_) (fun c1 => ?_)
  · rw [if_neg c1] at hF
    refine v_iconst (v := 0) dX12_isRoped_19 (by decide) ?_
    refine v_zreturn rfl (by decide) dX12_isRoped_20 ?_
    obtain ⟨rfl, rfl⟩ := Prod.mk.inj (Option.some.inj hF)
    exact ⟨rfl, rfl, hG⟩
  · rw [if_pos c1] at hF
    refine v_iconst (v := 1) dX12_isRoped_15 (by decide) ?_
    refine v_goto 20 dX12_isRoped_16 (by decide) ?_
    refine v_zreturn rfl (by decide) dX12_isRoped_20 ?_
    obtain ⟨rfl, rfl⟩ := Prod.mk.inj (Option.some.inj hF)
    exact ⟨rfl, rfl, hG⟩
def F_X12_isTime (n : Nat) (h : Hp) (x1 : Int32) : Option (Int32 × Hp) := ((F_X12_in n h x1 0 59).bind (fun q1 => (if q1.1 = 0 ∨ q1.1 = 1 then some (q1.1, q1.2) else none)))
set_option maxRecDepth 100000 in
set_option maxHeartbeats 4000000 in
theorem s_X12_isTime (d : Nat) {n : Nat} {h : Hp} {x1 : Int32} {q0 : (Int32 × Hp)} (hF : F_X12_isTime n h x1 = some q0) (hG : G h)  : Kc mX12_isTime (d + 1) [.int x1] h (fun r1 h1 => r1 = some (.int q0.1) ∧ h1 = q0.2 ∧ G q0.2) := by
  obtain ⟨r, h'⟩ := q0
  unfold F_X12_isTime at hF
  refine Kc.of [some (.int x1)] ok_X12_isTime rfl (Nat.le_of_ble_eq_true rfl) ?_
  refine v_iload_n (i := 0) dX12_isTime_0 rfl rfl ?_
  refine v_iconst (v := 0) dX12_isTime_1 (by decide) ?_
  refine v_bipush (v := 59) dX12_isTime_2 (by decide) ?_
  obtain ⟨q1, q1_e, hF⟩ := Option.bind_eq_some_iff.mp hF
  refine c_X12_330 rfl (Nat.le_of_ble_eq_true rfl) dX12_isTime_4 (s_X12_in _ q1_e hG) (fun r1 h1 hq => ?_)
  obtain ⟨rfl, hq, hG⟩ := hq
  replace hq := hq.symm
  subst hq
  show V _ _ _ _ (_ :: _) _ _
  obtain ⟨k3, hF⟩ := ck_some hF
  refine v_zreturn rfl k3 dX12_isTime_7 ?_
  obtain ⟨rfl, rfl⟩ := Prod.mk.inj (Option.some.inj hF)
  exact ⟨rfl, rfl, hG⟩
def W_X12_keepsRow : Nat → Nat → Hp → Int32 → Option Hp
  | 0 => fun _ _ _ => none
  | n + 1 => fun hd h l1 => (if hd = 2 then (if (63 : Int32) ≤ (l1 : Int32) then some h else (if ixOK l1 63 = true then (if ixOK l1 63 = true then W_X12_keepsRow n 2 (wrI h 262 (Int32.toNatClampNeg l1) (hi h 263 (Int32.toNatClampNeg l1)))  (l1 + 1) else none) else none)) else none)
set_option maxRecDepth 100000 in
set_option maxHeartbeats 4000000 in
theorem sw_X12_keepsRow (d : Nat)  (n : Nat) : (∀ (l1 : Int32) (h : Hp), ∀ (h' : Hp), W_X12_keepsRow n 2 h  l1 = some h' → G h → V mX12_keepsRow (d) 2 [some (.ref 226), some (.int l1)] [] h (fun r1 h1 => r1 = none ∧ h1 = h' ∧ G h')) := by
  induction n with
  | zero => exact by intros; contradiction
  | succ n ih =>
    have s_X12_keepsRow_IH_2 := ih
    intro l1 h h' hF hG
    unfold W_X12_keepsRow at hF
    rw [if_pos rfl] at hF
    refine v_iload_n (i := 1) dX12_keepsRow_2 rfl rfl ?_
    refine v_bipush (v := 63) dX12_keepsRow_3 (by decide) ?_
    refine v_icmp_ge 26 dX12_keepsRow_5 (by decide) (fun c1 => ?_) (fun c1 => ?_)
    · rw [if_pos c1] at hF
      refine v_return rfl dX12_keepsRow_26 ?_
      obtain rfl := Option.some.inj hF
      exact ⟨rfl, rfl, hG⟩
    · rw [if_neg c1] at hF
      refine v_aload_n (i := 0) dX12_keepsRow_8 rfl rfl ?_
      refine g_X12_125 (q := 262) rfl sh_226 (by exact ltG hG (by decide)) (by exact rG hG r0_226_53) dX12_keepsRow_9 ?_
      refine v_iload_n (i := 1) dX12_keepsRow_12 rfl rfl ?_
      refine v_aload_n (i := 0) dX12_keepsRow_13 rfl rfl ?_
      refine g_X12_128 (q := 263) rfl sh_226 (by exact ltG hG (by decide)) (by exact rG hG r0_226_54) dX12_keepsRow_14 ?_
      refine v_iload_n (i := 1) dX12_keepsRow_17 rfl rfl ?_
      obtain ⟨k2, hF⟩ := ck_some hF
      refine v_iaload sh_263 (by exact ltG hG (by decide)) (ixO k2) dX12_keepsRow_18 ?_
      obtain ⟨k3, hF⟩ := ck_some hF
      refine v_iastore sh_262 (by exact ltG hG (by decide)) (ixO k3) dX12_keepsRow_19 ?_
      refine v_iinc (i := 1) (v := (l1 + 1)) dX12_keepsRow_20 rfl rfl (by decide) (nlT rfl) ?_
      simp only [List.set_cons_zero, List.set_cons_succ]
      refine v_goto 2 dX12_keepsRow_23 (by decide) ?_
      refine V.weak (la2 := [some (.ref 226), some (.int (l1 + 1))]) (by simp [wk]) ?_
      exact (s_X12_keepsRow_IH_2) _ _ _ hF hG
def F_X12_keepsRow (n : Nat) (h : Hp) : Option Hp := W_X12_keepsRow n 2 h  0
set_option maxRecDepth 100000 in
set_option maxHeartbeats 4000000 in
theorem s_X12_keepsRow (d : Nat) {n : Nat} {h : Hp}  {q0 : Hp} (hF : F_X12_keepsRow n h  = some q0) (hG : G h)  : Kc mX12_keepsRow (d) [.ref 226] h (fun r1 h1 => r1 = none ∧ h1 = q0 ∧ G q0) := by
  obtain ⟨h', rfl⟩ : ∃ z, z = q0 := ⟨_, rfl⟩
  have s_X12_keepsRow_IH_2 := sw_X12_keepsRow d   n
  unfold F_X12_keepsRow at hF
  refine Kc.of [some (.ref 226), none] ok_X12_keepsRow rfl (Nat.le_of_ble_eq_true rfl) ?_
  refine v_iconst (v := 0) dX12_keepsRow_0 (by decide) ?_
  refine v_istore_n (i := 1) dX12_keepsRow_1 rfl (by decide) (nlT rfl) ?_
  simp only [List.set_cons_zero, List.set_cons_succ]
  refine V.weak (la2 := [some (.ref 226), some (.int 0)]) (by simp [wk]) ?_
  exact (s_X12_keepsRow_IH_2) _ _ _ hF hG
def W_X12_lays : Nat → Nat → Hp → Int32 → Int32 → Option Hp
  | 0 => fun _ _ _ _ => none
  | n + 1 => fun hd h l1 l2 => (if hd = 3 then (if (l2 : Int32) < 0 then some h else (if ixOK (hi h 226 2) 2000 = true then W_X12_lays n 3 (wrI (wrI h 227 (Int32.toNatClampNeg (hi h 226 2)) (((l1 : Int32) >>> ((l2 : Int32) &&& 31)) : Int32).toInt8.toInt32) 226 2 ((hi (wrI h 227 (Int32.toNatClampNeg (hi h 226 2)) (((l1 : Int32) >>> ((l2 : Int32) &&& 31)) : Int32).toInt8.toInt32) 226 2) + 1))  l1 (l2 + (-8)) else none)) else none)
set_option maxRecDepth 100000 in
set_option maxHeartbeats 4000000 in
theorem sw_X12_lays (d : Nat)  (n : Nat) : (∀ (l1 : Int32) (l2 : Int32) (h : Hp), ∀ (h' : Hp), W_X12_lays n 3 h  l1 l2 = some h' → G h → V mX12_lays (d) 3 [some (.ref 226), some (.int l1), some (.int l2)] [] h (fun r1 h1 => r1 = none ∧ h1 = h' ∧ G h')) := by
  induction n with
  | zero => exact by intros; contradiction
  | succ n ih =>
    have s_X12_lays_IH_3 := ih
    intro l1 l2 h h' hF hG
    unfold W_X12_lays at hF
    rw [if_pos rfl] at hF
    refine v_iload_n (i := 2) dX12_lays_3 rfl rfl ?_
    refine v_if_lt 36 dX12_lays_4 (by decide) (fun c1 => ?_) (fun c1 => ?_)
    · rw [if_pos c1] at hF
      refine v_return rfl dX12_lays_36 ?_
      obtain rfl := Option.some.inj hF
      exact ⟨rfl, rfl, hG⟩
    · rw [if_neg c1] at hF
      refine v_aload_n (i := 0) dX12_lays_7 rfl rfl ?_
      refine g_X12_13 (q := 227) rfl sh_226 (by exact ltG hG (by decide)) (by exact rG hG r0_226_1) dX12_lays_8 ?_
      refine v_aload_n (i := 0) dX12_lays_11 rfl rfl ?_
      refine g_X12_178 rfl sh_226 (by exact ltG hG (by decide)) dX12_lays_12 ?_
      refine v_iload_n (i := 1) dX12_lays_15 rfl rfl ?_
      refine v_iload_n (i := 2) dX12_lays_16 rfl rfl ?_
      refine v_ishr dX12_lays_17 ?_
      refine v_i2b dX12_lays_18 ?_
      obtain ⟨k2, hF⟩ := ck_some hF
      refine v_bastore sh_227 (by exact ltG hG (by decide)) (ixO k2) dX12_lays_19 ?_
      refine v_aload_n (i := 0) dX12_lays_20 rfl rfl ?_
      refine v_dup dX12_lays_21 rfl ?_
      refine g_X12_178 rfl sh_226 (by exact ltG hG (by decide)) dX12_lays_22 ?_
      refine v_iconst (v := 1) dX12_lays_25 (by decide) ?_
      refine v_iadd dX12_lays_26 ?_
      refine p_X12_178 rfl sh_226 (by exact ltG hG (by decide)) dX12_lays_27 ?_
      refine v_iinc (i := 2) (v := (l2 + (-8))) dX12_lays_30 rfl rfl (by decide) (nlT rfl) ?_
      simp only [List.set_cons_zero, List.set_cons_succ]
      refine v_goto 3 dX12_lays_33 (by decide) ?_
      refine V.weak (la2 := [some (.ref 226), some (.int l1), some (.int (l2 + (-8)))]) (by simp [wk]) ?_
      exact (s_X12_lays_IH_3) _ _ _ _ hF hG
def F_X12_lays (n : Nat) (h : Hp) (x1 : Int32) : Option Hp := W_X12_lays n 3 h  x1 24
set_option maxRecDepth 100000 in
set_option maxHeartbeats 4000000 in
theorem s_X12_lays (d : Nat) {n : Nat} {h : Hp} {x1 : Int32} {q0 : Hp} (hF : F_X12_lays n h x1 = some q0) (hG : G h)  : Kc mX12_lays (d) [.ref 226, .int x1] h (fun r1 h1 => r1 = none ∧ h1 = q0 ∧ G q0) := by
  obtain ⟨h', rfl⟩ : ∃ z, z = q0 := ⟨_, rfl⟩
  have s_X12_lays_IH_3 := sw_X12_lays d   n
  unfold F_X12_lays at hF
  refine Kc.of [some (.ref 226), some (.int x1), none] ok_X12_lays rfl (Nat.le_of_ble_eq_true rfl) ?_
  refine v_bipush (v := 24) dX12_lays_0 (by decide) ?_
  refine v_istore_n (i := 2) dX12_lays_2 rfl (by decide) (nlT rfl) ?_
  simp only [List.set_cons_zero, List.set_cons_succ]
  refine V.weak (la2 := [some (.ref 226), some (.int x1), some (.int 24)]) (by simp [wk]) ?_
  exact (s_X12_lays_IH_3) _ _ _ _ hF hG
def F_X12_letters (n : Nat) (h : Hp) (x1 : Int32) (x2 : Int32) (x3 : Int32) (x4 : Int32) (x5 : Int32) (x6 : Int32) (x7 : Int32) : Option (Int64 × Hp) := ((F_X12_appends n h 0 x1).bind (fun q1 => ((F_X12_appends n q1.2 q1.1 x2).bind (fun q3 => ((F_X12_appends n q3.2 q3.1 x3).bind (fun q5 => ((F_X12_appends n q5.2 q5.1 x4).bind (fun q7 => ((F_X12_appends n q7.2 q7.1 x5).bind (fun q9 => ((F_X12_appends n q9.2 q9.1 x6).bind (fun q11 => ((F_X12_appends n q11.2 q11.1 x7).bind (fun q13 => some (q13.1, q13.2)))))))))))))))
set_option maxRecDepth 100000 in
set_option maxHeartbeats 4000000 in
theorem s_X12_letters (d : Nat) {n : Nat} {h : Hp} {x1 : Int32} {x2 : Int32} {x3 : Int32} {x4 : Int32} {x5 : Int32} {x6 : Int32} {x7 : Int32} {q0 : (Int64 × Hp)} (hF : F_X12_letters n h x1 x2 x3 x4 x5 x6 x7 = some q0) (hG : G h)  : Kc mX12_letters (d + 1) [.int x1, .int x2, .int x3, .int x4, .int x5, .int x6, .int x7] h (fun r1 h1 => r1 = some (.long q0.1) ∧ h1 = q0.2 ∧ G q0.2) := by
  obtain ⟨r, h'⟩ := q0
  unfold F_X12_letters at hF
  refine Kc.of [some (.int x1), some (.int x2), some (.int x3), some (.int x4), some (.int x5), some (.int x6), some (.int x7)] ok_X12_letters rfl (Nat.le_of_ble_eq_true rfl) ?_
  refine v_lconst (v := 0) dX12_letters_0 (by decide) ?_
  refine v_iload_n (i := 0) dX12_letters_1 rfl rfl ?_
  obtain ⟨q1, q1_e, hF⟩ := Option.bind_eq_some_iff.mp hF
  refine c_X12_189 rfl (Nat.le_of_ble_eq_true rfl) dX12_letters_2 (s_X12_appends _ q1_e hG) (fun r1 h1 hq => ?_)
  obtain ⟨rfl, hq, hG⟩ := hq
  replace hq := hq.symm
  subst hq
  show V _ _ _ _ (_ :: _) _ _
  refine v_iload_n (i := 1) dX12_letters_5 rfl rfl ?_
  obtain ⟨q3, q3_e, hF⟩ := Option.bind_eq_some_iff.mp hF
  refine c_X12_189 rfl (Nat.le_of_ble_eq_true rfl) dX12_letters_6 (s_X12_appends _ q3_e hG) (fun r1 h1 hq => ?_)
  obtain ⟨rfl, hq, hG⟩ := hq
  replace hq := hq.symm
  subst hq
  show V _ _ _ _ (_ :: _) _ _
  refine v_iload_n (i := 2) dX12_letters_9 rfl rfl ?_
  obtain ⟨q5, q5_e, hF⟩ := Option.bind_eq_some_iff.mp hF
  refine c_X12_189 rfl (Nat.le_of_ble_eq_true rfl) dX12_letters_10 (s_X12_appends _ q5_e hG) (fun r1 h1 hq => ?_)
  obtain ⟨rfl, hq, hG⟩ := hq
  replace hq := hq.symm
  subst hq
  show V _ _ _ _ (_ :: _) _ _
  refine v_iload_n (i := 3) dX12_letters_13 rfl rfl ?_
  obtain ⟨q7, q7_e, hF⟩ := Option.bind_eq_some_iff.mp hF
  refine c_X12_189 rfl (Nat.le_of_ble_eq_true rfl) dX12_letters_14 (s_X12_appends _ q7_e hG) (fun r1 h1 hq => ?_)
  obtain ⟨rfl, hq, hG⟩ := hq
  replace hq := hq.symm
  subst hq
  show V _ _ _ _ (_ :: _) _ _
  refine v_iload (i := 4) dX12_letters_17 rfl ?_
  obtain ⟨q9, q9_e, hF⟩ := Option.bind_eq_some_iff.mp hF
  refine c_X12_189 rfl (Nat.le_of_ble_eq_true rfl) dX12_letters_19 (s_X12_appends _ q9_e hG) (fun r1 h1 hq => ?_)
  obtain ⟨rfl, hq, hG⟩ := hq
  replace hq := hq.symm
  subst hq
  show V _ _ _ _ (_ :: _) _ _
  refine v_iload (i := 5) dX12_letters_22 rfl ?_
  obtain ⟨q11, q11_e, hF⟩ := Option.bind_eq_some_iff.mp hF
  refine c_X12_189 rfl (Nat.le_of_ble_eq_true rfl) dX12_letters_24 (s_X12_appends _ q11_e hG) (fun r1 h1 hq => ?_)
  obtain ⟨rfl, hq, hG⟩ := hq
  replace hq := hq.symm
  subst hq
  show V _ _ _ _ (_ :: _) _ _
  refine v_iload (i := 6) dX12_letters_27 rfl ?_
  obtain ⟨q13, q13_e, hF⟩ := Option.bind_eq_some_iff.mp hF
  refine c_X12_189 rfl (Nat.le_of_ble_eq_true rfl) dX12_letters_29 (s_X12_appends _ q13_e hG) (fun r1 h1 hq => ?_)
  obtain ⟨rfl, hq, hG⟩ := hq
  replace hq := hq.symm
  subst hq
  show V _ _ _ _ (_ :: _) _ _
  refine v_lreturn rfl dX12_letters_32 ?_
  obtain ⟨rfl, rfl⟩ := Prod.mk.inj (Option.some.inj hF)
  exact ⟨rfl, rfl, hG⟩
