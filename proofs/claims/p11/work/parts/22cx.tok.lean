/-- while the Tokens are made -/
def G9 (h : Hp) : Prop := hn h = 23 ∧ hr h 18 1 = some 19
theorem ltG9 {h : Hp} {a : Nat} (hG : G9 h) (h1 : a < 23) : a < hn h := by rw [hG.1]; exact h1
theorem Kc.mono {M : MT} {d : Nat} {as : List Value} {h : Hp} {Q Q' : Option Value → Hp → Prop} (k : Kc M d as h Q) (f : ∀ r h', Q r h' → Q' r h') : Kc M d as h Q' := by
  obtain ⟨r, h', hQ, k⟩ := k
  exact ⟨r, h', f r h' hQ, k⟩
theorem V.mono {M : MT} {d pc : Nat} {la : List (Option Value)} {st : List Value} {h : Hp} {Q Q' : Option Value → Hp → Prop} (k : V M d pc la st h Q) (f : ∀ r h', Q r h' → Q' r h') : V M d pc la st h Q' := by
  obtain ⟨r, h', hQ, k⟩ := k
  exact ⟨r, h', f r h' hQ, k⟩
theorem ogetD {α : Type} {o : Option α} (z : α) (h : o.isSome = true) : o = some (o.getD z) := by
  cases o with
  | none => cases h
  | some x => rfl
set_option maxRecDepth 100000 in
set_option maxHeartbeats 4000000 in
theorem s9_X9_withLetter (d : Nat) {n : Nat} {h : Hp} {x1 : Int64} {x2 : Int32} {q0 : (Int64 × Hp)} (hF : F_X9_withLetter n h x1 x2 = some q0) (hG : G9 h)  : Kc mX9_withLetter (d) [.long x1, .int x2] h (fun r1 h1 => r1 = some (.long q0.1) ∧ h1 = q0.2 ∧ G9 q0.2) := by
  obtain ⟨r, h'⟩ := q0
  unfold F_X9_withLetter at hF
  refine Kc.of [some (.long x1), none, some (.int x2)] ok_X9_withLetter rfl (Nat.le_of_ble_eq_true rfl) ?_
  refine v_lload_n (i := 0) dX9_withLetter_0 rfl rfl ?_
  refine v_ldc2 (32) kl_X9_51 dX9_withLetter_1 ?_
  refine v_lmul dX9_withLetter_4 ?_
  refine v_iload_n (i := 2) dX9_withLetter_5 rfl rfl ?_
  refine v_bipush (v := 97) dX9_withLetter_6 (by decide) ?_
  refine v_isub dX9_withLetter_8 ?_
  refine v_iconst (v := 1) dX9_withLetter_9 (by decide) ?_
  refine v_iadd dX9_withLetter_10 ?_
  refine v_i2l dX9_withLetter_11 ?_
  refine v_ladd dX9_withLetter_12 ?_
  refine v_lreturn rfl dX9_withLetter_13 ?_
  obtain ⟨rfl, rfl⟩ := Prod.mk.inj (Option.some.inj hF)
  exact ⟨rfl, rfl, hG⟩
def W_X9_tail : Nat → Nat → Hp → Int32 → Int32 → Option Hp
  | 0 => fun _ _ _ _ => none
  | n + 1 => fun hd h l2 l3 => (if hd = 58 then (if (115 : Int32) ≤ (l3 : Int32) then some h else (if (22 : Int32) ≤ (l2 : Int32) then some h else (if ixOK l3 115 = true then (if ((wCh (Int32.toNatClampNeg l3)) : Int32) = (32 : Int32) then W_X9_tail n 58 h  (l2 + 1) (l3 + 1) else (if ixOK l2 22 = true then (if ixOK l3 115 = true then ((F_X9_withLetter n h (hl h 19 (Int32.toNatClampNeg l2)) (wCh (Int32.toNatClampNeg l3))).bind (fun q7 => (if ixOK l2 22 = true then W_X9_tail n 58 (wrL q7.2 19 (Int32.toNatClampNeg l2) q7.1)  l2 (l3 + 1) else none))) else none) else none)) else none))) else none)
set_option maxRecDepth 100000 in
set_option maxHeartbeats 4000000 in
theorem sw_X9_tail (d : Nat)  (n : Nat) : (∀ (l2 : Int32) (l3 : Int32) (h : Hp), ∀ (h' : Hp), W_X9_tail n 58 h  l2 l3 = some h' → G9 h → V mX9_init (d + 5) 58 [some (.ref 18), some (.ref 1), some (.int l2), some (.int l3)] [] h (fun r1 h1 => r1 = none ∧ h1 = h' ∧ G9 h')) := by
  induction n with
  | zero => exact by intros; contradiction
  | succ n ih =>
    have s9_X9_tail_IH_58 := ih
    intro l2 l3 h h' hF hG
    unfold W_X9_tail at hF
    rw [if_pos rfl] at hF
    refine v_iload_n (i := 3) dX9_init_58 rfl rfl ?_
    refine v_strLen rfl (Nat.le_of_ble_eq_true rfl) dX9_init_59 dX9_init_61 ?_
    refine v_icmp_ge 117 dX9_init_64 (by decide) (fun c1 => ?_) (fun c1 => ?_)
    · rw [if_pos c1] at hF
      refine v_return rfl dX9_init_117 ?_
      obtain rfl := Option.some.inj hF
      exact ⟨rfl, rfl, hG⟩
    · rw [if_neg c1] at hF
      refine v_iload_n (i := 2) dX9_init_67 rfl rfl ?_
      refine v_bipush (v := 22) dX9_init_68 (by decide) ?_
      refine v_icmp_ge 117 dX9_init_70 (by decide) (fun c2 => ?_) (fun c2 => ?_)
      · rw [if_pos c2] at hF
        refine v_return rfl dX9_init_117 ?_
        obtain rfl := Option.some.inj hF
        exact ⟨rfl, rfl, hG⟩
      · rw [if_neg c2] at hF
        obtain ⟨k3, hF⟩ := ck_some hF
        refine v_strAt (i := l3) rfl k3 rfl (Nat.le_of_ble_eq_true rfl) dX9_init_73 dX9_init_75 dX9_init_76 ?_
        refine v_bipush (v := 32) dX9_init_79 (by decide) ?_
        refine v_icmp_ne 90 dX9_init_81 (by decide) (fun c4 => ?_) (fun c4 => ?_)
        · rw [if_neg c4] at hF
          refine v_aload_n (i := 0) dX9_init_90 rfl rfl ?_
          refine g_X9_11 (q := 19) rfl sh_18 (by exact ltG9 hG (by decide)) (by exact hG.2) dX9_init_91 ?_
          refine v_iload_n (i := 2) dX9_init_94 rfl rfl ?_
          refine v_aload_n (i := 0) dX9_init_95 rfl rfl ?_
          refine g_X9_11 (q := 19) rfl sh_18 (by exact ltG9 hG (by decide)) (by exact hG.2) dX9_init_96 ?_
          refine v_iload_n (i := 2) dX9_init_99 rfl rfl ?_
          obtain ⟨k5, hF⟩ := ck_some hF
          refine v_laload sh_19 (by exact ltG9 hG (by decide)) (ixO k5) dX9_init_100 ?_
          obtain ⟨k6, hF⟩ := ck_some hF
          refine v_strAt (i := l3) rfl k6 rfl (Nat.le_of_ble_eq_true rfl) dX9_init_101 dX9_init_103 dX9_init_104 ?_
          obtain ⟨q7, q7_e, hF⟩ := Option.bind_eq_some_iff.mp hF
          refine c_X9_47 rfl (Nat.le_of_ble_eq_true rfl) dX9_init_107 (s9_X9_withLetter _ q7_e hG) (fun r1 h1 hq => ?_)
          obtain ⟨rfl, hq, hG⟩ := hq
          replace hq := hq.symm
          subst hq
          show V _ _ _ _ (_ :: _) _ _
          obtain ⟨k9, hF⟩ := ck_some hF
          refine v_lastore sh_19 (by exact ltG9 hG (by decide)) (ixO k9) dX9_init_110 ?_
          refine v_iinc (i := 3) (v := (l3 + 1)) dX9_init_111 rfl rfl (by decide) (nlT rfl) ?_
          simp only [List.set_cons_zero, List.set_cons_succ]
          refine v_goto 58 dX9_init_114 (by decide) ?_
          refine V.weak (la2 := [some (.ref 18), some (.ref 1), some (.int l2), some (.int (l3 + 1))]) (by simp [wk]) ?_
          exact (s9_X9_tail_IH_58) _ _ _ _ hF hG
        · rw [if_pos c4] at hF
          refine v_iinc (i := 2) (v := (l2 + 1)) dX9_init_84 rfl rfl (by decide) (nlT rfl) ?_
          simp only [List.set_cons_zero, List.set_cons_succ]
          refine v_goto 111 dX9_init_87 (by decide) ?_
          refine v_iinc (i := 3) (v := (l3 + 1)) dX9_init_111 rfl rfl (by decide) (nlT rfl) ?_
          simp only [List.set_cons_zero, List.set_cons_succ]
          refine v_goto 58 dX9_init_114 (by decide) ?_
          refine V.weak (la2 := [some (.ref 18), some (.ref 1), some (.int (l2 + 1)), some (.int (l3 + 1))]) (by simp [wk]) ?_
          exact (s9_X9_tail_IH_58) _ _ _ _ hF hG
def F_X9_tail (n : Nat) (h : Hp) : Option Hp := W_X9_tail n 58 h  0 0
set_option maxRecDepth 100000 in
set_option maxHeartbeats 4000000 in
theorem s9_X9_tail (d : Nat) {n : Nat} {h : Hp}  {q0 : Hp} (hF : F_X9_tail n h  = some q0) (hG : G9 h)  : V mX9_init (d + 5) 54 [some (.ref 18), some (.ref 1), none, none] [] h (fun r1 h1 => r1 = none ∧ h1 = q0 ∧ G9 q0) := by
  obtain ⟨h', rfl⟩ : ∃ z, z = q0 := ⟨_, rfl⟩
  have s9_X9_tail_IH_58 := sw_X9_tail d   n
  unfold F_X9_tail at hF
  refine v_iconst (v := 0) dX9_init_54 (by decide) ?_
  refine v_istore_n (i := 2) dX9_init_55 rfl (by decide) (nlT rfl) ?_
  simp only [List.set_cons_zero, List.set_cons_succ]
  refine v_iconst (v := 0) dX9_init_56 (by decide) ?_
  refine v_istore_n (i := 3) dX9_init_57 rfl (by decide) (nlT rfl) ?_
  simp only [List.set_cons_zero, List.set_cons_succ]
  refine V.weak (la2 := [some (.ref 18), some (.ref 1), some (.int 0), some (.int 0)]) (by simp [wk]) ?_
  exact (s9_X9_tail_IH_58) _ _ _ _ hF hG
def hk_P : Hp := (wrR (wrI (wrI (wrR (mkH (wrR (mkH (wrR (mkH (wrR (mkH hk_8) 18 1 (some 19))) 18 2 (some 20))) 18 3 (some 21))) 18 4 (some 22)) 18 5 0) 18 6 0) 18 0 (some 1))
def wdL : Nat → Int64 := fun k => ([398548, 20976, 664997, 70708, 14145700, 24388712, 763013, 271592, 21674163, 394990, 677317, 244914, 605701, 20583955, 14145715, 20957004947, 3657363, 23732, 627876, 294, 663726, 176741] : List Int64).getD k 0
theorem W9_keep : ∀ (n hd : Nat) (h : Hp) (x2 x3 : Int32) (h' : Hp), W_X9_tail n hd h x2 x3 = some h' → hn h' = hn h ∧ hr h' = hr h ∧ hi h' = hi h ∧ (∀ a, a ≠ 19 → hl h' a = hl h a) ∧ ∀ k, 22 ≤ k → hl h' 19 k = hl h 19 k := by
  intro n
  induction n with
  | zero => intro hd h x2 x3 h' e; cases e
  | succ n ih =>
    intro hd h x2 x3 h' e
    unfold W_X9_tail at e
    obtain ⟨k0, e⟩ := ck_some e
    by_cases c1 : (115 : Int32) ≤ x3
    · rw [if_pos c1] at e; cases e; exact ⟨rfl, rfl, rfl, fun _ _ => rfl, fun _ _ => rfl⟩
    rw [if_neg c1] at e
    by_cases c2 : (22 : Int32) ≤ x2
    · rw [if_pos c2] at e; cases e; exact ⟨rfl, rfl, rfl, fun _ _ => rfl, fun _ _ => rfl⟩
    rw [if_neg c2] at e
    obtain ⟨k1, e⟩ := ck_some e
    by_cases c3 : wCh (Int32.toNatClampNeg x3) = (32 : Int32)
    · rw [if_pos c3] at e; exact ih _ _ _ _ _ e
    rw [if_neg c3] at e
    obtain ⟨k2, e⟩ := ck_some e
    obtain ⟨k3, e⟩ := ck_some e
    obtain ⟨q, e1, e⟩ := Option.bind_eq_some_iff.mp e
    obtain ⟨k4, e⟩ := ck_some e
    have hq : q.2 = h := by unfold F_X9_withLetter at e1; cases e1; rfl
    rw [hq] at e
    obtain ⟨i1, i2, i3, i4, i5⟩ := ih _ _ _ _ _ e
    refine ⟨i1, i2, i3, fun a ha => (i4 a ha).trans ?_, fun k hk => (i5 k hk).trans ?_⟩
    · funext k; exact if_neg (fun z => ha z.1)
    · exact if_neg (fun z => by have := ixO_lt k2; omega)
def hk_T : Hp := (hn hk_P, hr hk_P, hi hk_P, upA (hl hk_P) 19 wdL)
theorem some9 : (F_X9_tail 200 hk_P).isSome = true := by decide +kernel
theorem val9 : ∀ k, k < 22 → hl ((F_X9_tail 200 hk_P).getD hE) 19 k = wdL k := by decide +kernel
theorem zero9 (k : Nat) : hl hk_P 19 k = 0 := rfl
theorem done9 : F_X9_tail 200 hk_P = some hk_T := by
  obtain ⟨h', e⟩ := Option.isSome_iff_exists.mp some9
  have hg : (F_X9_tail 200 hk_P).getD hE = h' := by rw [e]; rfl
  have e2 : W_X9_tail 200 58 hk_P 0 0 = some h' := by unfold F_X9_tail at e; exact e
  obtain ⟨i1, i2, i3, i4, i5⟩ := W9_keep 200 58 hk_P 0 0 h' e2
  have i6 : hl h' = upA (hl hk_P) 19 wdL := by
    funext a k
    by_cases ha : a = 19
    · subst ha
      show _ = (if 19 = 19 then wdL k else _)
      rw [if_pos rfl]
      by_cases hk : k < 22
      · rw [← hg]; exact val9 k hk
      · rw [i5 k (by omega), zero9]
        unfold wdL
        rw [List.getD_eq_getElem?_getD, List.getElem?_eq_none (by simp only [List.length_cons, List.length_nil]; omega)]
        rfl
    · show _ = (if a = 19 then wdL k else hl hk_P a k)
      rw [if_neg ha, i4 a ha]
  have i7 : h' = hk_T := by
    show (hn h', hr h', hi h', hl h') = (hn hk_P, hr hk_P, hi hk_P, upA (hl hk_P) 19 wdL)
    rw [i1, i2, i3, i6]
  rw [e, i7]
theorem k_X9_init_18 (d : Nat) : Kc mX9_init (d + 5) [.ref 18, .ref 1] hk_8 (fun r h' => r = none ∧ h' = hk_T) := by
  refine Kc.of [some (.ref 18), some (.ref 1), none, none] ok_X9_init rfl (Nat.le_of_ble_eq_true rfl) ?_
  refine v_aload_n (i := 0) dX9_init_0 rfl rfl ?_
  refine v_objInit ml_X9_3 oi_im oi_code (Nat.le_of_ble_eq_true rfl) dX9_init_1 ?_
  refine v_aload_n (i := 0) dX9_init_4 rfl rfl ?_
  refine v_bipush (v := 22) dX9_init_5 (by decide) ?_
  refine v_newarr (q := 19) (ty := .long) (N := 22) (by decide +kernel) rfl 4 (fun _ => rfl) sh_19 ac_long ⟨nofun, nofun⟩ (fun _ => nofun) (fun _ => nofun) (by decide) (by decide) (by decide) dX9_init_7 ?_
  refine p_X9_11 rfl sh_18 (by decide +kernel) rfl dX9_init_9 ?_
  refine v_aload_n (i := 0) dX9_init_12 rfl rfl ?_
  refine v_sipush (v := 401) dX9_init_13 (by decide) ?_
  refine v_newarr (q := 20) (ty := .byte) (N := 401) (by decide +kernel) rfl 1 (fun _ => rfl) sh_20 ac_byte ⟨nofun, nofun⟩ (fun _ => nofun) (fun _ => nofun) (by decide) (by decide) (by decide) dX9_init_16 ?_
  refine p_X9_15 rfl sh_18 (by decide +kernel) rfl dX9_init_18 ?_
  refine v_aload_n (i := 0) dX9_init_21 rfl rfl ?_
  refine v_sipush (v := 401) dX9_init_22 (by decide) ?_
  refine v_newarr (q := 21) (ty := .short) (N := 401) (by decide +kernel) rfl 3 (fun _ => rfl) sh_21 ac_short ⟨nofun, nofun⟩ (fun _ => nofun) (fun _ => nofun) (by decide) (by decide) (by decide) dX9_init_25 ?_
  refine p_X9_19 rfl sh_18 (by decide +kernel) rfl dX9_init_27 ?_
  refine v_aload_n (i := 0) dX9_init_30 rfl rfl ?_
  refine v_sipush (v := 401) dX9_init_31 (by decide) ?_
  refine v_newarr (q := 22) (ty := .long) (N := 401) (by decide +kernel) rfl 4 (fun _ => rfl) sh_22 ac_long ⟨nofun, nofun⟩ (fun _ => nofun) (fun _ => nofun) (by decide) (by decide) (by decide) dX9_init_34 ?_
  refine p_X9_23 rfl sh_18 (by decide +kernel) rfl dX9_init_36 ?_
  refine v_aload_n (i := 0) dX9_init_39 rfl rfl ?_
  refine v_iconst (v := 0) dX9_init_40 (by decide) ?_
  refine p_X9_26 rfl sh_18 (by decide +kernel) dX9_init_41 ?_
  refine v_aload_n (i := 0) dX9_init_44 rfl rfl ?_
  refine v_iconst (v := 0) dX9_init_45 (by decide) ?_
  refine p_X9_30 rfl sh_18 (by decide +kernel) dX9_init_46 ?_
  refine v_aload_n (i := 0) dX9_init_49 rfl rfl ?_
  refine v_aload_n (i := 1) dX9_init_50 rfl rfl ?_
  refine p_X9_33 rfl sh_18 (by decide +kernel) rfl dX9_init_51 ?_
  show V _ _ _ _ _ hk_P _
  exact V.mono (s9_X9_tail d done9 ⟨by decide +kernel, by decide +kernel⟩) (fun r h' q => ⟨q.1, q.2.1⟩)
