def F_J9_floorMod_7cf53 (n : Nat) (h : Hp) (x1 : Int32) (x2 : Int32) : Option (Int32 × Hp) := (if x2 = 0 then none else (if 0 ≤ (((x1 : Int32) ^^^ (x2 : Int32)) : Int32) then some ((x1 - x1 / x2 * x2), h) else (if ((x1 - x1 / x2 * x2) : Int32) = 0 then some ((x1 - x1 / x2 * x2), h) else some (((x1 - x1 / x2 * x2) + x2), h))))
set_option maxRecDepth 100000 in
set_option maxHeartbeats 4000000 in
theorem s_J9_floorMod_7cf53 (d : Nat) {n : Nat} {h : Hp} {x1 : Int32} {x2 : Int32} {q0 : (Int32 × Hp)} (hF : F_J9_floorMod_7cf53 n h x1 x2 = some q0) (hG : G h)  : Kc mJ9_floorMod_7cf53 (d) [.int x1, .int x2] h (fun r1 h1 => r1 = some (.int q0.1) ∧ h1 = q0.2 ∧ G q0.2) := by
  obtain ⟨r, h'⟩ := q0
  unfold F_J9_floorMod_7cf53 at hF
  refine Kc.ofF [some (.int x1), some (.int x2), none] okf_floorMod rfl (Nat.le_of_ble_eq_true rfl) ?_
  refine v_iload_n (i := 0) dJ9_floorMod_7cf53_0 rfl rfl ?_
  refine v_iload_n (i := 1) dJ9_floorMod_7cf53_1 rfl rfl ?_
  obtain ⟨k1, hF⟩ := ck_none hF
  refine v_irem dJ9_floorMod_7cf53_2 k1 ?_
  refine v_istore_n (i := 2) dJ9_floorMod_7cf53_3 rfl (by decide) (nlT rfl) ?_
  simp only [List.set_cons_zero, List.set_cons_succ]
  refine v_iload_n (i := 0) dJ9_floorMod_7cf53_4 rfl rfl ?_
  refine v_iload_n (i := 1) dJ9_floorMod_7cf53_5 rfl rfl ?_
  refine v_ixor dJ9_floorMod_7cf53_6 ?_
  refine v_if_ge 18 dJ9_floorMod_7cf53_7 (by decide) (fun c2 => ?_) (fun c2 => ?_)
  · rw [if_pos c2] at hF
    refine v_iload_n (i := 2) dJ9_floorMod_7cf53_18 rfl rfl ?_
    refine v_ireturn rfl dJ9_floorMod_7cf53_19 ?_
    obtain ⟨rfl, rfl⟩ := Prod.mk.inj (Option.some.inj hF)
    exact ⟨rfl, rfl, hG⟩
  · rw [if_neg c2] at hF
    refine v_iload_n (i := 2) dJ9_floorMod_7cf53_10 rfl rfl ?_
    refine v_if_eq 18 dJ9_floorMod_7cf53_11 (by decide) (fun c3 => ?_) (fun c3 => ?_)
    · rw [if_pos c3] at hF
      refine v_iload_n (i := 2) dJ9_floorMod_7cf53_18 rfl rfl ?_
      refine v_ireturn rfl dJ9_floorMod_7cf53_19 ?_
      obtain ⟨rfl, rfl⟩ := Prod.mk.inj (Option.some.inj hF)
      exact ⟨rfl, rfl, hG⟩
    · rw [if_neg c3] at hF
      refine v_iload_n (i := 2) dJ9_floorMod_7cf53_14 rfl rfl ?_
      refine v_iload_n (i := 1) dJ9_floorMod_7cf53_15 rfl rfl ?_
      refine v_iadd dJ9_floorMod_7cf53_16 ?_
      refine v_ireturn rfl dJ9_floorMod_7cf53_17 ?_
      obtain ⟨rfl, rfl⟩ := Prod.mk.inj (Option.some.inj hF)
      exact ⟨rfl, rfl, hG⟩
def F_X10_quietAt (n : Nat) (h : Hp) (x1 : Int32) (x2 : Int32) : Option (Int32 × Hp) := ((F_J9_floorMod_7cf53 n h x1 60).bind (fun q1 => (if ixOK q1.1 60 = true then some ((((hi h 204 3) : Int32) &&& ((((((hi q1.2 205 (Int32.toNatClampNeg q1.1)) : Int32) &&& (((x2 : Int32) ^^^ ((-1) : Int32)) : Int32)) : Int32) ^^^ ((-1) : Int32)) : Int32)), q1.2) else none)))
set_option maxRecDepth 100000 in
set_option maxHeartbeats 4000000 in
theorem s_X10_quietAt (d : Nat) {n : Nat} {h : Hp} {x1 : Int32} {x2 : Int32} {q0 : (Int32 × Hp)} (hF : F_X10_quietAt n h x1 x2 = some q0) (hG : G h)  : Kc mX10_quietAt (d + 1) [.ref 204, .int x1, .int x2] h (fun r1 h1 => r1 = some (.int q0.1) ∧ h1 = q0.2 ∧ G q0.2) := by
  obtain ⟨r, h'⟩ := q0
  unfold F_X10_quietAt at hF
  refine Kc.of [some (.ref 204), some (.int x1), some (.int x2)] ok_X10_quietAt rfl (Nat.le_of_ble_eq_true rfl) ?_
  refine v_aload_n (i := 0) dX10_quietAt_0 rfl rfl ?_
  refine g_X10_18 rfl sh_204 (by exact ltG hG (by decide)) dX10_quietAt_1 ?_
  refine v_aload_n (i := 0) dX10_quietAt_4 rfl rfl ?_
  refine g_X10_9 (q := 205) rfl sh_204 (by exact ltG hG (by decide)) (by exact rG hG r0_204_1) dX10_quietAt_5 ?_
  refine v_iload_n (i := 1) dX10_quietAt_8 rfl rfl ?_
  refine v_bipush (v := 60) dX10_quietAt_9 (by decide) ?_
  obtain ⟨q1, q1_e, hF⟩ := Option.bind_eq_some_iff.mp hF
  refine c_X10_67 rfl (Nat.le_of_ble_eq_true rfl) dX10_quietAt_11 (s_J9_floorMod_7cf53 _ q1_e hG) (fun r1 h1 hq => ?_)
  obtain ⟨rfl, hq, hG⟩ := hq
  replace hq := hq.symm
  subst hq
  show V _ _ _ _ (_ :: _) _ _
  obtain ⟨k3, hF⟩ := ck_some hF
  refine v_iaload sh_205 (by exact ltG hG (by decide)) (ixO k3) dX10_quietAt_14 ?_
  refine v_iload_n (i := 2) dX10_quietAt_15 rfl rfl ?_
  refine v_iconst (v := (-1)) dX10_quietAt_16 (by decide) ?_
  refine v_ixor dX10_quietAt_17 ?_
  refine v_iand dX10_quietAt_18 ?_
  refine v_iconst (v := (-1)) dX10_quietAt_19 (by decide) ?_
  refine v_ixor dX10_quietAt_20 ?_
  refine v_iand dX10_quietAt_21 ?_
  refine v_ireturn rfl dX10_quietAt_22 ?_
  obtain ⟨rfl, rfl⟩ := Prod.mk.inj (Option.some.inj hF)
  exact ⟨rfl, rfl, hG⟩
def W_X12_cut : Nat → Nat → Hp → Int32 → Int32 → Int32 → Int32 → Int64 → Int32 → Int32 → Option Hp
  | 0 => fun _ _ _ _ _ _ _ _ _ => none
  | n + 1 => fun hd h l1 l2 l3 l4i l4l l6 l7 => (if hd = 7 then (if (400 : Int32) < ((hi h 226 10) : Int32) then some h else ((F_X12_byteAt n h l1).bind (fun q2 => (if (l1 : Int32) < ((hi q2.2 226 4) : Int32) then (if (q2.1 : Int32) = (9 : Int32) then W_X12_cut n 7 q2.2  (l1 + 1) 0 0 0 0 0 0 else (if (q2.1 : Int32) = (10 : Int32) then W_X12_cut n 7 q2.2  (l1 + 1) 0 0 0 0 0 0 else (if (q2.1 : Int32) = (13 : Int32) then W_X12_cut n 7 q2.2  (l1 + 1) 0 0 0 0 0 0 else (if (q2.1 : Int32) = (32 : Int32) then W_X12_cut n 7 q2.2  (l1 + 1) 0 0 0 0 0 0 else ((F_X12_isLetter n q2.2 q2.1).bind (fun q9 => (if (q9.1 : Int32) = 0 then ((F_X12_isDigit n q9.2 q2.1).bind (fun q12 => (if (q12.1 : Int32) = 0 then ((F_X12_byteAt n q12.2 (l1 + 1)).bind (fun q15 => ((F_X12_sign n q15.2 l1 q2.1 q15.1).bind (fun q17 => W_X12_cut n 7 q17.2  (l1 + q17.1) 0 0 0 0 0 0)))) else W_X12_cut n 208 q12.2  l1 q2.1 0 0 0 0 0))) else W_X12_cut n 85 q9.2  l1 q2.1 0 0 0 0 0))))))) else ((F_X12_token n q2.2 0 (hi q2.2 226 4) 0 0).bind (fun q19 => some q19)))))) else (if hd = 85 then ((F_X12_byteAt n h (l1 + l3)).bind (fun q21 => ((F_X12_isLetter n q21.2 q21.1).bind (fun q23 => (if (q23.1 : Int32) = 0 then (if (l3 : Int32) ≤ (8 : Int32) then (if (8 : Int32) < (l3 : Int32) then ((F_X12_token n q23.2 1 l1 0 l4l).bind (fun q28 => W_X12_cut n 7 q28  (l1 + l3) 0 0 0 0 0 0)) else W_X12_cut n 146 q23.2  l1 l2 l3 0 l4l 1 0) else (if (8 : Int32) < (l3 : Int32) then ((F_X12_token n q23.2 3 l1 0 l4l).bind (fun q31 => W_X12_cut n 7 q31  (l1 + l3) 0 0 0 0 0 0)) else W_X12_cut n 146 q23.2  l1 l2 l3 0 l4l 3 0)) else (if (8 : Int32) ≤ (l3 : Int32) then W_X12_cut n 85 q23.2  l1 l2 (l3 + 1) 0 l4l 0 0 else ((F_X12_byteAt n q23.2 (l1 + l3)).bind (fun q34 => ((F_X12_appends n q34.2 l4l q34.1).bind (fun q36 => W_X12_cut n 85 q36.2  l1 l2 (l3 + 1) 0 q36.1 0 0)))))))))) else (if hd = 146 then (if (22 : Int32) ≤ (l7 : Int32) then ((F_X12_token n h l6 l1 0 l4l).bind (fun q39 => W_X12_cut n 7 q39  (l1 + l3) 0 0 0 0 0 0)) else (if ixOK l7 22 = true then (if ((lg_cmp (hl h 233 (Int32.toNatClampNeg l7)) l4l) : Int32) = 0 then W_X12_cut n 146 h  l1 l2 l3 0 l4l (20 + l7) (l7 + 1) else W_X12_cut n 146 h  l1 l2 l3 0 l4l l6 (l7 + 1)) else none)) else (if hd = 208 then ((F_X12_byteAt n h (l1 + l3)).bind (fun q43 => ((F_X12_isDigit n q43.2 q43.1).bind (fun q45 => (if (q45.1 : Int32) = 0 then (if (l3 : Int32) ≤ (4 : Int32) then ((F_X12_token n q45.2 2 l1 l4i 0).bind (fun q49 => W_X12_cut n 7 q49  (l1 + l3) 0 0 0 0 0 0)) else ((F_X12_token n q45.2 3 l1 l4i 0).bind (fun q51 => W_X12_cut n 7 q51  (l1 + l3) 0 0 0 0 0 0))) else (if (4 : Int32) ≤ (l3 : Int32) then W_X12_cut n 208 q45.2  l1 l2 (l3 + 1) l4i 0 0 0 else ((F_X12_byteAt n q45.2 (l1 + l3)).bind (fun q54 => W_X12_cut n 208 q54.2  l1 l2 (l3 + 1) (((10 * l4i) + q54.1) - 48) 0 0 0)))))))) else none))))
set_option maxRecDepth 100000 in
set_option maxHeartbeats 4000000 in
theorem sw_X12_cut (d : Nat)  (n : Nat) : (∀ (l1 : Int32) (h : Hp), ∀ (h' : Hp), W_X12_cut n 7 h  l1 0 0 0 0 0 0 = some h' → G h → V mX12_cut (d + 2) 7 [some (.ref 226), some (.int l1), none, none, none, none, none, none] [] h (fun r1 h1 => r1 = none ∧ h1 = h' ∧ G h')) ∧ (∀ (l1 : Int32) (l2 : Int32) (l3 : Int32) (l4l : Int64) (h : Hp), ∀ (h' : Hp), W_X12_cut n 85 h  l1 l2 l3 0 l4l 0 0 = some h' → G h → V mX12_cut (d + 2) 85 [some (.ref 226), some (.int l1), some (.int l2), some (.int l3), some (.long l4l), none, none, none] [] h (fun r1 h1 => r1 = none ∧ h1 = h' ∧ G h')) ∧ (∀ (l1 : Int32) (l2 : Int32) (l3 : Int32) (l4l : Int64) (l6 : Int32) (l7 : Int32) (h : Hp), ∀ (h' : Hp), W_X12_cut n 146 h  l1 l2 l3 0 l4l l6 l7 = some h' → G h → V mX12_cut (d + 2) 146 [some (.ref 226), some (.int l1), some (.int l2), some (.int l3), some (.long l4l), none, some (.int l6), some (.int l7)] [] h (fun r1 h1 => r1 = none ∧ h1 = h' ∧ G h')) ∧ (∀ (l1 : Int32) (l2 : Int32) (l3 : Int32) (l4i : Int32) (h : Hp), ∀ (h' : Hp), W_X12_cut n 208 h  l1 l2 l3 l4i 0 0 0 = some h' → G h → V mX12_cut (d + 2) 208 [some (.ref 226), some (.int l1), some (.int l2), some (.int l3), some (.int l4i), none, none, none] [] h (fun r1 h1 => r1 = none ∧ h1 = h' ∧ G h')) := by
  induction n with
  | zero => exact ⟨by intros; contradiction, by intros; contradiction, by intros; contradiction, by intros; contradiction⟩
  | succ n ih =>
    obtain ⟨s_X12_cut_IH_7, s_X12_cut_IH_85, s_X12_cut_IH_146, s_X12_cut_IH_208⟩ := ih
    refine ⟨?_, ?_, ?_, ?_⟩
    · intro l1 h h' hF hG
      unfold W_X12_cut at hF
      rw [if_pos rfl] at hF
      refine v_aload_n (i := 0) dX12_cut_7 rfl rfl ?_
      refine g_X12_193 rfl sh_226 (by exact ltG hG (by decide)) dX12_cut_8 ?_
      refine v_sipush (v := 400) dX12_cut_11 (by decide) ?_
      refine v_icmp_gt 294 dX12_cut_14 (by decide) (fun c1 => ?_) (fun c1 => ?_)
      · rw [if_pos c1] at hF
        refine v_return rfl dX12_cut_294 ?_
        obtain rfl := Option.some.inj hF
        exact ⟨rfl, rfl, hG⟩
      · rw [if_neg c1] at hF
        refine v_aload_n (i := 0) dX12_cut_17 rfl rfl ?_
        refine v_iload_n (i := 1) dX12_cut_18 rfl rfl ?_
        obtain ⟨q2, q2_e, hF⟩ := Option.bind_eq_some_iff.mp hF
        refine c_X12_196 rfl sh_226 (by exact ltG hG (by decide)) (Nat.le_of_ble_eq_true rfl) dX12_cut_19 (s_X12_byteAt _ q2_e hG) (fun r1 h1 hq => ?_)
        obtain ⟨rfl, hq, hG⟩ := hq
        replace hq := hq.symm
        subst hq
        show V _ _ _ _ (_ :: _) _ _
        refine v_istore_n (i := 2) dX12_cut_22 rfl (by decide) (nlT rfl) ?_
        simp only [List.set_cons_zero, List.set_cons_succ]
        refine v_iload_n (i := 1) dX12_cut_23 rfl rfl ?_
        refine v_aload_n (i := 0) dX12_cut_24 rfl rfl ?_
        refine g_X12_184 rfl sh_226 (by exact ltG hG (by decide)) dX12_cut_25 ?_
        refine v_icmp_lt 43 dX12_cut_28 (by decide) (fun c4 => ?_) (fun c4 => ?_)
        · rw [if_pos c4] at hF
          refine v_iload_n (i := 2) dX12_cut_43 rfl rfl ?_
          refine v_bipush (v := 9) dX12_cut_44 (by decide) ?_
          refine v_icmp_eq 67 dX12_cut_46 (by decide) (fun c5 => ?_) (fun c5 => ?_)
          · rw [if_pos c5] at hF
            refine v_iinc (i := 1) (v := (l1 + 1)) dX12_cut_67 rfl rfl (by decide) (nlT rfl) ?_
            simp only [List.set_cons_zero, List.set_cons_succ]
            refine v_goto 291 dX12_cut_70 (by decide) ?_
            refine v_goto 7 dX12_cut_291 (by decide) ?_
            refine V.weak (la2 := [some (.ref 226), some (.int (l1 + 1)), none, none, none, none, none, none]) (by simp [wk]) ?_
            exact (s_X12_cut_IH_7) _ _ _ hF hG
          · rw [if_neg c5] at hF
            refine v_iload_n (i := 2) dX12_cut_49 rfl rfl ?_
            refine v_bipush (v := 10) dX12_cut_50 (by decide) ?_
            refine v_icmp_eq 67 dX12_cut_52 (by decide) (fun c6 => ?_) (fun c6 => ?_)
            · rw [if_pos c6] at hF
              refine v_iinc (i := 1) (v := (l1 + 1)) dX12_cut_67 rfl rfl (by decide) (nlT rfl) ?_
              simp only [List.set_cons_zero, List.set_cons_succ]
              refine v_goto 291 dX12_cut_70 (by decide) ?_
              refine v_goto 7 dX12_cut_291 (by decide) ?_
              refine V.weak (la2 := [some (.ref 226), some (.int (l1 + 1)), none, none, none, none, none, none]) (by simp [wk]) ?_
              exact (s_X12_cut_IH_7) _ _ _ hF hG
            · rw [if_neg c6] at hF
              refine v_iload_n (i := 2) dX12_cut_55 rfl rfl ?_
              refine v_bipush (v := 13) dX12_cut_56 (by decide) ?_
              refine v_icmp_eq 67 dX12_cut_58 (by decide) (fun c7 => ?_) (fun c7 => ?_)
              · rw [if_pos c7] at hF
                refine v_iinc (i := 1) (v := (l1 + 1)) dX12_cut_67 rfl rfl (by decide) (nlT rfl) ?_
                simp only [List.set_cons_zero, List.set_cons_succ]
                refine v_goto 291 dX12_cut_70 (by decide) ?_
                refine v_goto 7 dX12_cut_291 (by decide) ?_
                refine V.weak (la2 := [some (.ref 226), some (.int (l1 + 1)), none, none, none, none, none, none]) (by simp [wk]) ?_
                exact (s_X12_cut_IH_7) _ _ _ hF hG
              · rw [if_neg c7] at hF
                refine v_iload_n (i := 2) dX12_cut_61 rfl rfl ?_
                refine v_bipush (v := 32) dX12_cut_62 (by decide) ?_
                refine v_icmp_ne 73 dX12_cut_64 (by decide) (fun c8 => ?_) (fun c8 => ?_)
                · rw [if_neg c8] at hF
                  refine v_iload_n (i := 2) dX12_cut_73 rfl rfl ?_
                  obtain ⟨q9, q9_e, hF⟩ := Option.bind_eq_some_iff.mp hF
                  refine c_X12_204 rfl (Nat.le_of_ble_eq_true rfl) dX12_cut_74 (s_X12_isLetter _ q9_e hG) (fun r1 h1 hq => ?_)
                  obtain ⟨rfl, hq, hG⟩ := hq
                  replace hq := hq.symm
                  subst hq
                  show V _ _ _ _ (_ :: _) _ _
                  refine v_if_eq 196 dX12_cut_77 (by decide) (fun c11 => ?_) (fun c11 => ?_)
                  · rw [if_pos c11] at hF
                    refine v_iload_n (i := 2) dX12_cut_196 rfl rfl ?_
                    obtain ⟨q12, q12_e, hF⟩ := Option.bind_eq_some_iff.mp hF
                    refine c_X12_208 rfl (Nat.le_of_ble_eq_true rfl) dX12_cut_197 (s_X12_isDigit _ q12_e hG) (fun r1 h1 hq => ?_)
                    obtain ⟨rfl, hq, hG⟩ := hq
                    replace hq := hq.symm
                    subst hq
                    show V _ _ _ _ (_ :: _) _ _
                    refine v_if_eq 275 dX12_cut_200 (by decide) (fun c14 => ?_) (fun c14 => ?_)
                    · rw [if_pos c14] at hF
                      refine v_iload_n (i := 1) dX12_cut_275 rfl rfl ?_
                      refine v_aload_n (i := 0) dX12_cut_276 rfl rfl ?_
                      refine v_iload_n (i := 1) dX12_cut_277 rfl rfl ?_
                      refine v_iload_n (i := 2) dX12_cut_278 rfl rfl ?_
                      refine v_aload_n (i := 0) dX12_cut_279 rfl rfl ?_
                      refine v_iload_n (i := 1) dX12_cut_280 rfl rfl ?_
                      refine v_iconst (v := 1) dX12_cut_281 (by decide) ?_
                      refine v_iadd dX12_cut_282 ?_
                      obtain ⟨q15, q15_e, hF⟩ := Option.bind_eq_some_iff.mp hF
                      refine c_X12_196 rfl sh_226 (by exact ltG hG (by decide)) (Nat.le_of_ble_eq_true rfl) dX12_cut_283 (s_X12_byteAt _ q15_e hG) (fun r1 h1 hq => ?_)
                      obtain ⟨rfl, hq, hG⟩ := hq
                      replace hq := hq.symm
                      subst hq
                      show V _ _ _ _ (_ :: _) _ _
                      obtain ⟨q17, q17_e, hF⟩ := Option.bind_eq_some_iff.mp hF
                      refine c_X12_211 rfl sh_226 (by exact ltG hG (by decide)) (Nat.le_of_ble_eq_true rfl) dX12_cut_286 (s_X12_sign _ q17_e hG) (fun r1 h1 hq => ?_)
                      obtain ⟨rfl, hq, hG⟩ := hq
                      replace hq := hq.symm
                      subst hq
                      show V _ _ _ _ (_ :: _) _ _
                      refine v_iadd dX12_cut_289 ?_
                      refine v_istore_n (i := 1) dX12_cut_290 rfl (by decide) (nlT rfl) ?_
                      simp only [List.set_cons_zero, List.set_cons_succ]
                      refine v_goto 7 dX12_cut_291 (by decide) ?_
                      refine V.weak (la2 := [some (.ref 226), some (.int (l1 + q17.1)), none, none, none, none, none, none]) (by simp [wk]) ?_
                      exact (s_X12_cut_IH_7) _ _ _ hF hG
                    · rw [if_neg c14] at hF
                      refine v_iconst (v := 0) dX12_cut_203 (by decide) ?_
                      refine v_istore_n (i := 3) dX12_cut_204 rfl (by decide) (nlT rfl) ?_
                      simp only [List.set_cons_zero, List.set_cons_succ]
                      refine v_iconst (v := 0) dX12_cut_205 (by decide) ?_
                      refine v_istore (i := 4) dX12_cut_206 (by decide) (nlT rfl) ?_
                      simp only [List.set_cons_zero, List.set_cons_succ]
                      refine V.weak (la2 := [some (.ref 226), some (.int l1), some (.int q2.1), some (.int 0), some (.int 0), none, none, none]) (by simp [wk]) ?_
                      exact (s_X12_cut_IH_208) _ _ _ _ _ _ hF hG
                  · rw [if_neg c11] at hF
                    refine v_iconst (v := 0) dX12_cut_80 (by decide) ?_
                    refine v_istore_n (i := 3) dX12_cut_81 rfl (by decide) (nlT rfl) ?_
                    simp only [List.set_cons_zero, List.set_cons_succ]
                    refine v_lconst (v := 0) dX12_cut_82 (by decide) ?_
                    refine v_lstore (i := 4) dX12_cut_83 (by decide) (nlT rfl) ?_
                    simp only [List.set_cons_zero, List.set_cons_succ]
                    refine V.weak (la2 := [some (.ref 226), some (.int l1), some (.int q2.1), some (.int 0), some (.long 0), none, none, none]) (by simp [wk]) ?_
                    exact (s_X12_cut_IH_85) _ _ _ _ _ _ hF hG
                · rw [if_pos c8] at hF
                  refine v_iinc (i := 1) (v := (l1 + 1)) dX12_cut_67 rfl rfl (by decide) (nlT rfl) ?_
                  simp only [List.set_cons_zero, List.set_cons_succ]
                  refine v_goto 291 dX12_cut_70 (by decide) ?_
                  refine v_goto 7 dX12_cut_291 (by decide) ?_
                  refine V.weak (la2 := [some (.ref 226), some (.int (l1 + 1)), none, none, none, none, none, none]) (by simp [wk]) ?_
                  exact (s_X12_cut_IH_7) _ _ _ hF hG
        · rw [if_neg c4] at hF
          refine v_aload_n (i := 0) dX12_cut_31 rfl rfl ?_
          refine v_iconst (v := 0) dX12_cut_32 (by decide) ?_
          refine v_aload_n (i := 0) dX12_cut_33 rfl rfl ?_
          refine g_X12_184 rfl sh_226 (by exact ltG hG (by decide)) dX12_cut_34 ?_
          refine v_iconst (v := 0) dX12_cut_37 (by decide) ?_
          refine v_lconst (v := 0) dX12_cut_38 (by decide) ?_
          obtain ⟨q19, q19_e, hF⟩ := Option.bind_eq_some_iff.mp hF
          refine c_X12_200 rfl sh_226 (by exact ltG hG (by decide)) (Nat.le_of_ble_eq_true rfl) dX12_cut_39 (s_X12_token _ q19_e hG) (fun r1 h1 hq => ?_)
          obtain ⟨rfl, hq, hG⟩ := hq
          replace hq := hq.symm
          subst hq
          simp only [Option.toList, List.nil_append]
          refine v_return rfl dX12_cut_42 ?_
          obtain rfl := Option.some.inj hF
          exact ⟨rfl, rfl, hG⟩
    · intro l1 l2 l3 l4l h h' hF hG
      unfold W_X12_cut at hF
      rw [if_neg (by decide)] at hF
      rw [if_pos rfl] at hF
      refine v_aload_n (i := 0) dX12_cut_85 rfl rfl ?_
      refine v_iload_n (i := 1) dX12_cut_86 rfl rfl ?_
      refine v_iload_n (i := 3) dX12_cut_87 rfl rfl ?_
      refine v_iadd dX12_cut_88 ?_
      obtain ⟨q21, q21_e, hF⟩ := Option.bind_eq_some_iff.mp hF
      refine c_X12_196 rfl sh_226 (by exact ltG hG (by decide)) (Nat.le_of_ble_eq_true rfl) dX12_cut_89 (s_X12_byteAt _ q21_e hG) (fun r1 h1 hq => ?_)
      obtain ⟨rfl, hq, hG⟩ := hq
      replace hq := hq.symm
      subst hq
      show V _ _ _ _ (_ :: _) _ _
      obtain ⟨q23, q23_e, hF⟩ := Option.bind_eq_some_iff.mp hF
      refine c_X12_204 rfl (Nat.le_of_ble_eq_true rfl) dX12_cut_92 (s_X12_isLetter _ q23_e hG) (fun r1 h1 hq => ?_)
      obtain ⟨rfl, hq, hG⟩ := hq
      replace hq := hq.symm
      subst hq
      show V _ _ _ _ (_ :: _) _ _
      refine v_if_eq 124 dX12_cut_95 (by decide) (fun c25 => ?_) (fun c25 => ?_)
      · rw [if_pos c25] at hF
        refine v_iload_n (i := 3) dX12_cut_124 rfl rfl ?_
        refine v_bipush (v := 8) dX12_cut_125 (by decide) ?_
        refine v_icmp_le 134 dX12_cut_127 (by decide) (fun c26 => ?_) (fun c26 => ?_)
        · rw [if_pos c26] at hF
          refine v_iconst (v := 1) dX12_cut_134 (by decide) ?_
          refine v_istore (i := 6) dX12_cut_135 (by decide) (nlT rfl) ?_
          simp only [List.set_cons_zero, List.set_cons_succ]
          refine v_iload_n (i := 3) dX12_cut_137 rfl rfl ?_
          refine v_bipush (v := 8) dX12_cut_138 (by decide) ?_
          refine v_icmp_gt 179 dX12_cut_140 (by decide) (fun c27 => ?_) (fun c27 => ?_)
          · rw [if_pos c27] at hF
            refine v_aload_n (i := 0) dX12_cut_179 rfl rfl ?_
            refine v_iload (i := 6) dX12_cut_180 rfl ?_
            refine v_iload_n (i := 1) dX12_cut_182 rfl rfl ?_
            refine v_iconst (v := 0) dX12_cut_183 (by decide) ?_
            refine v_lload (i := 4) dX12_cut_184 rfl ?_
            obtain ⟨q28, q28_e, hF⟩ := Option.bind_eq_some_iff.mp hF
            refine c_X12_200 rfl sh_226 (by exact ltG hG (by decide)) (Nat.le_of_ble_eq_true rfl) dX12_cut_186 (s_X12_token _ q28_e hG) (fun r1 h1 hq => ?_)
            obtain ⟨rfl, hq, hG⟩ := hq
            replace hq := hq.symm
            subst hq
            simp only [Option.toList, List.nil_append]
            refine v_iload_n (i := 1) dX12_cut_189 rfl rfl ?_
            refine v_iload_n (i := 3) dX12_cut_190 rfl rfl ?_
            refine v_iadd dX12_cut_191 ?_
            refine v_istore_n (i := 1) dX12_cut_192 rfl (by decide) (nlT rfl) ?_
            simp only [List.set_cons_zero, List.set_cons_succ]
            refine v_goto 291 dX12_cut_193 (by decide) ?_
            refine v_goto 7 dX12_cut_291 (by decide) ?_
            refine V.weak (la2 := [some (.ref 226), some (.int (l1 + l3)), none, none, none, none, none, none]) (by simp [wk]) ?_
            exact (s_X12_cut_IH_7) _ _ _ hF hG
          · rw [if_neg c27] at hF
            refine v_iconst (v := 0) dX12_cut_143 (by decide) ?_
            refine v_istore (i := 7) dX12_cut_144 (by decide) (nlT rfl) ?_
            simp only [List.set_cons_zero, List.set_cons_succ]
            refine V.weak (la2 := [some (.ref 226), some (.int l1), some (.int l2), some (.int l3), some (.long l4l), none, some (.int 1), some (.int 0)]) (by simp [wk]) ?_
            exact (s_X12_cut_IH_146) _ _ _ _ _ _ _ _ hF hG
        · rw [if_neg c26] at hF
          refine v_iconst (v := 3) dX12_cut_130 (by decide) ?_
          refine v_goto 135 dX12_cut_131 (by decide) ?_
          refine v_istore (i := 6) dX12_cut_135 (by decide) (nlT rfl) ?_
          simp only [List.set_cons_zero, List.set_cons_succ]
          refine v_iload_n (i := 3) dX12_cut_137 rfl rfl ?_
          refine v_bipush (v := 8) dX12_cut_138 (by decide) ?_
          refine v_icmp_gt 179 dX12_cut_140 (by decide) (fun c30 => ?_) (fun c30 => ?_)
          · rw [if_pos c30] at hF
            refine v_aload_n (i := 0) dX12_cut_179 rfl rfl ?_
            refine v_iload (i := 6) dX12_cut_180 rfl ?_
            refine v_iload_n (i := 1) dX12_cut_182 rfl rfl ?_
            refine v_iconst (v := 0) dX12_cut_183 (by decide) ?_
            refine v_lload (i := 4) dX12_cut_184 rfl ?_
            obtain ⟨q31, q31_e, hF⟩ := Option.bind_eq_some_iff.mp hF
            refine c_X12_200 rfl sh_226 (by exact ltG hG (by decide)) (Nat.le_of_ble_eq_true rfl) dX12_cut_186 (s_X12_token _ q31_e hG) (fun r1 h1 hq => ?_)
            obtain ⟨rfl, hq, hG⟩ := hq
            replace hq := hq.symm
            subst hq
            simp only [Option.toList, List.nil_append]
            refine v_iload_n (i := 1) dX12_cut_189 rfl rfl ?_
            refine v_iload_n (i := 3) dX12_cut_190 rfl rfl ?_
            refine v_iadd dX12_cut_191 ?_
            refine v_istore_n (i := 1) dX12_cut_192 rfl (by decide) (nlT rfl) ?_
            simp only [List.set_cons_zero, List.set_cons_succ]
            refine v_goto 291 dX12_cut_193 (by decide) ?_
            refine v_goto 7 dX12_cut_291 (by decide) ?_
            refine V.weak (la2 := [some (.ref 226), some (.int (l1 + l3)), none, none, none, none, none, none]) (by simp [wk]) ?_
            exact (s_X12_cut_IH_7) _ _ _ hF hG
          · rw [if_neg c30] at hF
            refine v_iconst (v := 0) dX12_cut_143 (by decide) ?_
            refine v_istore (i := 7) dX12_cut_144 (by decide) (nlT rfl) ?_
            simp only [List.set_cons_zero, List.set_cons_succ]
            refine V.weak (la2 := [some (.ref 226), some (.int l1), some (.int l2), some (.int l3), some (.long l4l), none, some (.int 3), some (.int 0)]) (by simp [wk]) ?_
            exact (s_X12_cut_IH_146) _ _ _ _ _ _ _ _ hF hG
      · rw [if_neg c25] at hF
        refine v_iload_n (i := 3) dX12_cut_98 rfl rfl ?_
        refine v_bipush (v := 8) dX12_cut_99 (by decide) ?_
        refine v_icmp_ge 118 dX12_cut_101 (by decide) (fun c33 => ?_) (fun c33 => ?_)
        · rw [if_pos c33] at hF
          refine v_iinc (i := 3) (v := (l3 + 1)) dX12_cut_118 rfl rfl (by decide) (nlT rfl) ?_
          simp only [List.set_cons_zero, List.set_cons_succ]
          refine v_goto 85 dX12_cut_121 (by decide) ?_
          refine V.weak (la2 := [some (.ref 226), some (.int l1), some (.int l2), some (.int (l3 + 1)), some (.long l4l), none, none, none]) (by simp [wk]) ?_
          exact (s_X12_cut_IH_85) _ _ _ _ _ _ hF hG
        · rw [if_neg c33] at hF
          refine v_lload (i := 4) dX12_cut_104 rfl ?_
          refine v_aload_n (i := 0) dX12_cut_106 rfl rfl ?_
          refine v_iload_n (i := 1) dX12_cut_107 rfl rfl ?_
          refine v_iload_n (i := 3) dX12_cut_108 rfl rfl ?_
          refine v_iadd dX12_cut_109 ?_
          obtain ⟨q34, q34_e, hF⟩ := Option.bind_eq_some_iff.mp hF
          refine c_X12_196 rfl sh_226 (by exact ltG hG (by decide)) (Nat.le_of_ble_eq_true rfl) dX12_cut_110 (s_X12_byteAt _ q34_e hG) (fun r1 h1 hq => ?_)
          obtain ⟨rfl, hq, hG⟩ := hq
          replace hq := hq.symm
          subst hq
          show V _ _ _ _ (_ :: _) _ _
          obtain ⟨q36, q36_e, hF⟩ := Option.bind_eq_some_iff.mp hF
          refine c_X12_189 rfl (Nat.le_of_ble_eq_true rfl) dX12_cut_113 (s_X12_appends _ q36_e hG) (fun r1 h1 hq => ?_)
          obtain ⟨rfl, hq, hG⟩ := hq
          replace hq := hq.symm
          subst hq
          show V _ _ _ _ (_ :: _) _ _
          refine v_lstore (i := 4) dX12_cut_116 (by decide) (nlT rfl) ?_
          simp only [List.set_cons_zero, List.set_cons_succ]
          refine v_iinc (i := 3) (v := (l3 + 1)) dX12_cut_118 rfl rfl (by decide) (nlT rfl) ?_
          simp only [List.set_cons_zero, List.set_cons_succ]
          refine v_goto 85 dX12_cut_121 (by decide) ?_
          refine V.weak (la2 := [some (.ref 226), some (.int l1), some (.int l2), some (.int (l3 + 1)), some (.long q36.1), none, none, none]) (by simp [wk]) ?_
          exact (s_X12_cut_IH_85) _ _ _ _ _ _ hF hG
    · intro l1 l2 l3 l4l l6 l7 h h' hF hG
      unfold W_X12_cut at hF
      rw [if_neg (by decide)] at hF
      rw [if_neg (by decide)] at hF
      rw [if_pos rfl] at hF
      refine v_iload (i := 7) dX12_cut_146 rfl ?_
      refine v_bipush (v := 22) dX12_cut_148 (by decide) ?_
      refine v_icmp_ge 179 dX12_cut_150 (by decide) (fun c38 => ?_) (fun c38 => ?_)
      · rw [if_pos c38] at hF
        refine v_aload_n (i := 0) dX12_cut_179 rfl rfl ?_
        refine v_iload (i := 6) dX12_cut_180 rfl ?_
        refine v_iload_n (i := 1) dX12_cut_182 rfl rfl ?_
        refine v_iconst (v := 0) dX12_cut_183 (by decide) ?_
        refine v_lload (i := 4) dX12_cut_184 rfl ?_
        obtain ⟨q39, q39_e, hF⟩ := Option.bind_eq_some_iff.mp hF
        refine c_X12_200 rfl sh_226 (by exact ltG hG (by decide)) (Nat.le_of_ble_eq_true rfl) dX12_cut_186 (s_X12_token _ q39_e hG) (fun r1 h1 hq => ?_)
        obtain ⟨rfl, hq, hG⟩ := hq
        replace hq := hq.symm
        subst hq
        simp only [Option.toList, List.nil_append]
        refine v_iload_n (i := 1) dX12_cut_189 rfl rfl ?_
        refine v_iload_n (i := 3) dX12_cut_190 rfl rfl ?_
        refine v_iadd dX12_cut_191 ?_
        refine v_istore_n (i := 1) dX12_cut_192 rfl (by decide) (nlT rfl) ?_
        simp only [List.set_cons_zero, List.set_cons_succ]
        refine v_goto 291 dX12_cut_193 (by decide) ?_
        refine v_goto 7 dX12_cut_291 (by decide) ?_
        refine V.weak (la2 := [some (.ref 226), some (.int (l1 + l3)), none, none, none, none, none, none]) (by simp [wk]) ?_
        exact (s_X12_cut_IH_7) _ _ _ hF hG
      · rw [if_neg c38] at hF
        refine v_aload_n (i := 0) dX12_cut_153 rfl rfl ?_
        refine g_X12_34 (q := 233) rfl sh_226 (by exact ltG hG (by decide)) (by exact rG hG r0_226_9) dX12_cut_154 ?_
        refine v_iload (i := 7) dX12_cut_157 rfl ?_
        obtain ⟨k41, hF⟩ := ck_some hF
        refine v_laload sh_233 (by exact ltG hG (by decide)) (ixO k41) dX12_cut_159 ?_
        refine v_lload (i := 4) dX12_cut_160 rfl ?_
        refine v_lcmp dX12_cut_162 ?_
        refine v_if_ne 173 dX12_cut_163 (by decide) (fun c42 => ?_) (fun c42 => ?_)
        · rw [if_neg c42] at hF
          refine v_iinc (i := 7) (v := (l7 + 1)) dX12_cut_173 rfl rfl (by decide) (nlT rfl) ?_
          simp only [List.set_cons_zero, List.set_cons_succ]
          refine v_goto 146 dX12_cut_176 (by decide) ?_
          refine V.weak (la2 := [some (.ref 226), some (.int l1), some (.int l2), some (.int l3), some (.long l4l), none, some (.int l6), some (.int (l7 + 1))]) (by simp [wk]) ?_
          exact (s_X12_cut_IH_146) _ _ _ _ _ _ _ _ hF hG
        · rw [if_pos c42] at hF
          refine v_bipush (v := 20) dX12_cut_166 (by decide) ?_
          refine v_iload (i := 7) dX12_cut_168 rfl ?_
          refine v_iadd dX12_cut_170 ?_
          refine v_istore (i := 6) dX12_cut_171 (by decide) (nlT rfl) ?_
          simp only [List.set_cons_zero, List.set_cons_succ]
          refine v_iinc (i := 7) (v := (l7 + 1)) dX12_cut_173 rfl rfl (by decide) (nlT rfl) ?_
          simp only [List.set_cons_zero, List.set_cons_succ]
          refine v_goto 146 dX12_cut_176 (by decide) ?_
          refine V.weak (la2 := [some (.ref 226), some (.int l1), some (.int l2), some (.int l3), some (.long l4l), none, some (.int (20 + l7)), some (.int (l7 + 1))]) (by simp [wk]) ?_
          exact (s_X12_cut_IH_146) _ _ _ _ _ _ _ _ hF hG
    · intro l1 l2 l3 l4i h h' hF hG
      unfold W_X12_cut at hF
      rw [if_neg (by decide)] at hF
      rw [if_neg (by decide)] at hF
      rw [if_neg (by decide)] at hF
      rw [if_pos rfl] at hF
      refine v_aload_n (i := 0) dX12_cut_208 rfl rfl ?_
      refine v_iload_n (i := 1) dX12_cut_209 rfl rfl ?_
      refine v_iload_n (i := 3) dX12_cut_210 rfl rfl ?_
      refine v_iadd dX12_cut_211 ?_
      obtain ⟨q43, q43_e, hF⟩ := Option.bind_eq_some_iff.mp hF
      refine c_X12_196 rfl sh_226 (by exact ltG hG (by decide)) (Nat.le_of_ble_eq_true rfl) dX12_cut_212 (s_X12_byteAt _ q43_e hG) (fun r1 h1 hq => ?_)
      obtain ⟨rfl, hq, hG⟩ := hq
      replace hq := hq.symm
      subst hq
      show V _ _ _ _ (_ :: _) _ _
      obtain ⟨q45, q45_e, hF⟩ := Option.bind_eq_some_iff.mp hF
      refine c_X12_208 rfl (Nat.le_of_ble_eq_true rfl) dX12_cut_215 (s_X12_isDigit _ q45_e hG) (fun r1 h1 hq => ?_)
      obtain ⟨rfl, hq, hG⟩ := hq
      replace hq := hq.symm
      subst hq
      show V _ _ _ _ (_ :: _) _ _
      refine v_if_eq 250 dX12_cut_218 (by decide) (fun c47 => ?_) (fun c47 => ?_)
      · rw [if_pos c47] at hF
        refine v_aload_n (i := 0) dX12_cut_250 rfl rfl ?_
        refine v_iload_n (i := 3) dX12_cut_251 rfl rfl ?_
        refine v_iconst (v := 4) dX12_cut_252 (by decide) ?_
        refine v_icmp_le 260 dX12_cut_253 (by decide) (fun c48 => ?_) (fun c48 => ?_)
        · rw [if_pos c48] at hF
          refine v_iconst (v := 2) dX12_cut_260 (by decide) ?_
          refine v_iload_n (i := 1) dX12_cut_261 rfl rfl ?_
          refine v_iload (i := 4) dX12_cut_262 rfl ?_
          refine v_lconst (v := 0) dX12_cut_264 (by decide) ?_
          obtain ⟨q49, q49_e, hF⟩ := Option.bind_eq_some_iff.mp hF
          refine c_X12_200 rfl sh_226 (by exact ltG hG (by decide)) (Nat.le_of_ble_eq_true rfl) dX12_cut_265 (s_X12_token _ q49_e hG) (fun r1 h1 hq => ?_)
          obtain ⟨rfl, hq, hG⟩ := hq
          replace hq := hq.symm
          subst hq
          simp only [Option.toList, List.nil_append]
          refine v_iload_n (i := 1) dX12_cut_268 rfl rfl ?_
          refine v_iload_n (i := 3) dX12_cut_269 rfl rfl ?_
          refine v_iadd dX12_cut_270 ?_
          refine v_istore_n (i := 1) dX12_cut_271 rfl (by decide) (nlT rfl) ?_
          simp only [List.set_cons_zero, List.set_cons_succ]
          refine v_goto 291 dX12_cut_272 (by decide) ?_
          refine v_goto 7 dX12_cut_291 (by decide) ?_
          refine V.weak (la2 := [some (.ref 226), some (.int (l1 + l3)), none, none, none, none, none, none]) (by simp [wk]) ?_
          exact (s_X12_cut_IH_7) _ _ _ hF hG
        · rw [if_neg c48] at hF
          refine v_iconst (v := 3) dX12_cut_256 (by decide) ?_
          refine v_goto 261 dX12_cut_257 (by decide) ?_
          refine v_iload_n (i := 1) dX12_cut_261 rfl rfl ?_
          refine v_iload (i := 4) dX12_cut_262 rfl ?_
          refine v_lconst (v := 0) dX12_cut_264 (by decide) ?_
          obtain ⟨q51, q51_e, hF⟩ := Option.bind_eq_some_iff.mp hF
          refine c_X12_200 rfl sh_226 (by exact ltG hG (by decide)) (Nat.le_of_ble_eq_true rfl) dX12_cut_265 (s_X12_token _ q51_e hG) (fun r1 h1 hq => ?_)
          obtain ⟨rfl, hq, hG⟩ := hq
          replace hq := hq.symm
          subst hq
          simp only [Option.toList, List.nil_append]
          refine v_iload_n (i := 1) dX12_cut_268 rfl rfl ?_
          refine v_iload_n (i := 3) dX12_cut_269 rfl rfl ?_
          refine v_iadd dX12_cut_270 ?_
          refine v_istore_n (i := 1) dX12_cut_271 rfl (by decide) (nlT rfl) ?_
          simp only [List.set_cons_zero, List.set_cons_succ]
          refine v_goto 291 dX12_cut_272 (by decide) ?_
          refine v_goto 7 dX12_cut_291 (by decide) ?_
          refine V.weak (la2 := [some (.ref 226), some (.int (l1 + l3)), none, none, none, none, none, none]) (by simp [wk]) ?_
          exact (s_X12_cut_IH_7) _ _ _ hF hG
      · rw [if_neg c47] at hF
        refine v_iload_n (i := 3) dX12_cut_221 rfl rfl ?_
        refine v_iconst (v := 4) dX12_cut_222 (by decide) ?_
        refine v_icmp_ge 244 dX12_cut_223 (by decide) (fun c53 => ?_) (fun c53 => ?_)
        · rw [if_pos c53] at hF
          refine v_iinc (i := 3) (v := (l3 + 1)) dX12_cut_244 rfl rfl (by decide) (nlT rfl) ?_
          simp only [List.set_cons_zero, List.set_cons_succ]
          refine v_goto 208 dX12_cut_247 (by decide) ?_
          refine V.weak (la2 := [some (.ref 226), some (.int l1), some (.int l2), some (.int (l3 + 1)), some (.int l4i), none, none, none]) (by simp [wk]) ?_
          exact (s_X12_cut_IH_208) _ _ _ _ _ _ hF hG
        · rw [if_neg c53] at hF
          refine v_bipush (v := 10) dX12_cut_226 (by decide) ?_
          refine v_iload (i := 4) dX12_cut_228 rfl ?_
          refine v_imul dX12_cut_230 ?_
          refine v_aload_n (i := 0) dX12_cut_231 rfl rfl ?_
          refine v_iload_n (i := 1) dX12_cut_232 rfl rfl ?_
          refine v_iload_n (i := 3) dX12_cut_233 rfl rfl ?_
          refine v_iadd dX12_cut_234 ?_
          obtain ⟨q54, q54_e, hF⟩ := Option.bind_eq_some_iff.mp hF
          refine c_X12_196 rfl sh_226 (by exact ltG hG (by decide)) (Nat.le_of_ble_eq_true rfl) dX12_cut_235 (s_X12_byteAt _ q54_e hG) (fun r1 h1 hq => ?_)
          obtain ⟨rfl, hq, hG⟩ := hq
          replace hq := hq.symm
          subst hq
          show V _ _ _ _ (_ :: _) _ _
          refine v_iadd dX12_cut_238 ?_
          refine v_bipush (v := 48) dX12_cut_239 (by decide) ?_
          refine v_isub dX12_cut_241 ?_
          refine v_istore (i := 4) dX12_cut_242 (by decide) (nlT rfl) ?_
          simp only [List.set_cons_zero, List.set_cons_succ]
          refine v_iinc (i := 3) (v := (l3 + 1)) dX12_cut_244 rfl rfl (by decide) (nlT rfl) ?_
          simp only [List.set_cons_zero, List.set_cons_succ]
          refine v_goto 208 dX12_cut_247 (by decide) ?_
          refine V.weak (la2 := [some (.ref 226), some (.int l1), some (.int l2), some (.int (l3 + 1)), some (.int (((10 * l4i) + q54.1) - 48)), none, none, none]) (by simp [wk]) ?_
          exact (s_X12_cut_IH_208) _ _ _ _ _ _ hF hG
def F_X12_cut (n : Nat) (h : Hp) : Option Hp := W_X12_cut n 7 (wrI h 226 10 0)  0 0 0 0 0 0 0
set_option maxRecDepth 100000 in
set_option maxHeartbeats 4000000 in
theorem s_X12_cut (d : Nat) {n : Nat} {h : Hp}  {q0 : Hp} (hF : F_X12_cut n h  = some q0) (hG : G h)  : Kc mX12_cut (d + 2) [.ref 226] h (fun r1 h1 => r1 = none ∧ h1 = q0 ∧ G q0) := by
  obtain ⟨h', rfl⟩ : ∃ z, z = q0 := ⟨_, rfl⟩
  obtain ⟨s_X12_cut_IH_7, s_X12_cut_IH_85, s_X12_cut_IH_146, s_X12_cut_IH_208⟩ := sw_X12_cut d   n
  unfold F_X12_cut at hF
  refine Kc.of [some (.ref 226), none, none, none, none, none, none, none] ok_X12_cut rfl (Nat.le_of_ble_eq_true rfl) ?_
  refine v_aload_n (i := 0) dX12_cut_0 rfl rfl ?_
  refine v_iconst (v := 0) dX12_cut_1 (by decide) ?_
  refine p_X12_193 rfl sh_226 (by exact ltG hG (by decide)) dX12_cut_2 ?_
  refine v_iconst (v := 0) dX12_cut_5 (by decide) ?_
  refine v_istore_n (i := 1) dX12_cut_6 rfl (by decide) (nlT rfl) ?_
  simp only [List.set_cons_zero, List.set_cons_succ]
  refine V.weak (la2 := [some (.ref 226), some (.int 0), none, none, none, none, none, none]) (by simp [wk]) ?_
  exact (s_X12_cut_IH_7) _ _ _ hF hG
def W_X12_read : Nat → Nat → Hp → Int32 → Option (Int32 × Hp)
  | 0 => fun _ _ _ => none
  | n + 1 => fun hd h l1 => (if hd = 10 then (if ((hi h 226 4) : Int32) ≤ (l1 : Int32) then ((F_X12_cut n (wrI h 226 2 0)).bind (fun q2 => ((F_X12_plain n (wrI (wrI (wrI (wrI (wrI (wrI q2 226 11 0) 226 12 0) 226 13 0) 226 15 0) 226 19 (1 - (hi (wrI (wrI (wrI (wrI q2 226 11 0) 226 12 0) 226 13 0) 226 15 0) 226 18))) 226 20 0) (hi (wrI (wrI (wrI (wrI (wrI (wrI q2 226 11 0) 226 12 0) 226 13 0) 226 15 0) 226 19 (1 - (hi (wrI (wrI (wrI (wrI q2 226 11 0) 226 12 0) 226 13 0) 226 15 0) 226 18))) 226 20 0) 226 19)).bind (fun q4 => W_X12_read n 112 (wrI (wrI q4 226 39 (130 * (hi q4 226 19))) 226 45 (420 * (hi (wrI q4 226 39 (130 * (hi q4 226 19))) 226 19)))  l1)))) else (if ixOK l1 2000 = true then (if ixOK l1 2000 = true then W_X12_read n 10 (wrI h 228 (Int32.toNatClampNeg l1) (vp_nar .byte (hi h 227 (Int32.toNatClampNeg l1))))  (l1 + 1) else none) else none)) else (if hd = 112 then (if ((hi h 226 13) : Int32) = 0 then ((F_X12_is n h 0).bind (fun q75 => (if (q75.1 : Int32) = 0 then ((F_X12_tellOne n q75.2).bind (fun q144 => W_X12_read n 112 q144  l1)) else (if ((hi q75.2 226 13) : Int32) = 0 then ((F_X12_isBeyond n q75.2).bind (fun q99 => (if (q99.1 : Int32) = 0 then (if ((hi q99.2 226 13) : Int32) ≤ 0 then (if ((hi q99.2 226 15) : Int32) ≤ 0 then (if ((hi (wrI q99.2 226 17 (-1)) 226 13) : Int32) ≤ 0 then (if ((hi (wrI q99.2 226 17 (-1)) 226 15) : Int32) ≤ 0 then ((F_X12_begins n (wrI (wrI q99.2 226 17 (-1)) 226 18 (hi (wrI q99.2 226 17 (-1)) 226 19))).bind (fun q106 => ((F_X12_keepsRow n q106).bind (fun q108 => W_X12_read n 243 (wrI (wrI q108 226 59 0) 226 65 0)  0)))) else some ((hi (wrI q99.2 226 17 (-1)) 226 15), (wrI q99.2 226 17 (-1)))) else some ((hi (wrI q99.2 226 17 (-1)) 226 13), (wrI q99.2 226 17 (-1)))) else (if ((hi (wrI q99.2 226 17 (hi q99.2 226 16)) 226 13) : Int32) ≤ 0 then (if ((hi (wrI q99.2 226 17 (hi q99.2 226 16)) 226 15) : Int32) ≤ 0 then ((F_X12_begins n (wrI (wrI q99.2 226 17 (hi q99.2 226 16)) 226 18 (hi (wrI q99.2 226 17 (hi q99.2 226 16)) 226 19))).bind (fun q112 => ((F_X12_keepsRow n q112).bind (fun q114 => W_X12_read n 243 (wrI (wrI q114 226 59 0) 226 65 0)  0)))) else some ((hi (wrI q99.2 226 17 (hi q99.2 226 16)) 226 15), (wrI q99.2 226 17 (hi q99.2 226 16)))) else some ((hi (wrI q99.2 226 17 (hi q99.2 226 16)) 226 13), (wrI q99.2 226 17 (hi q99.2 226 16))))) else (if ((hi (wrI q99.2 226 17 (hi q99.2 226 14)) 226 13) : Int32) ≤ 0 then (if ((hi (wrI q99.2 226 17 (hi q99.2 226 14)) 226 15) : Int32) ≤ 0 then ((F_X12_begins n (wrI (wrI q99.2 226 17 (hi q99.2 226 14)) 226 18 (hi (wrI q99.2 226 17 (hi q99.2 226 14)) 226 19))).bind (fun q118 => ((F_X12_keepsRow n q118).bind (fun q120 => W_X12_read n 243 (wrI (wrI q120 226 59 0) 226 65 0)  0)))) else some ((hi (wrI q99.2 226 17 (hi q99.2 226 14)) 226 15), (wrI q99.2 226 17 (hi q99.2 226 14)))) else some ((hi (wrI q99.2 226 17 (hi q99.2 226 14)) 226 13), (wrI q99.2 226 17 (hi q99.2 226 14))))) else ((F_X12_wrong n q99.2 6 (hi q99.2 226 11)).bind (fun q122 => (if ((hi q122 226 13) : Int32) ≤ 0 then (if ((hi q122 226 15) : Int32) ≤ 0 then (if ((hi (wrI q122 226 17 (-1)) 226 13) : Int32) ≤ 0 then (if ((hi (wrI q122 226 17 (-1)) 226 15) : Int32) ≤ 0 then ((F_X12_begins n (wrI (wrI q122 226 17 (-1)) 226 18 (hi (wrI q122 226 17 (-1)) 226 19))).bind (fun q128 => ((F_X12_keepsRow n q128).bind (fun q130 => W_X12_read n 243 (wrI (wrI q130 226 59 0) 226 65 0)  0)))) else some ((hi (wrI q122 226 17 (-1)) 226 15), (wrI q122 226 17 (-1)))) else some ((hi (wrI q122 226 17 (-1)) 226 13), (wrI q122 226 17 (-1)))) else (if ((hi (wrI q122 226 17 (hi q122 226 16)) 226 13) : Int32) ≤ 0 then (if ((hi (wrI q122 226 17 (hi q122 226 16)) 226 15) : Int32) ≤ 0 then ((F_X12_begins n (wrI (wrI q122 226 17 (hi q122 226 16)) 226 18 (hi (wrI q122 226 17 (hi q122 226 16)) 226 19))).bind (fun q134 => ((F_X12_keepsRow n q134).bind (fun q136 => W_X12_read n 243 (wrI (wrI q136 226 59 0) 226 65 0)  0)))) else some ((hi (wrI q122 226 17 (hi q122 226 16)) 226 15), (wrI q122 226 17 (hi q122 226 16)))) else some ((hi (wrI q122 226 17 (hi q122 226 16)) 226 13), (wrI q122 226 17 (hi q122 226 16))))) else (if ((hi (wrI q122 226 17 (hi q122 226 14)) 226 13) : Int32) ≤ 0 then (if ((hi (wrI q122 226 17 (hi q122 226 14)) 226 15) : Int32) ≤ 0 then ((F_X12_begins n (wrI (wrI q122 226 17 (hi q122 226 14)) 226 18 (hi (wrI q122 226 17 (hi q122 226 14)) 226 19))).bind (fun q140 => ((F_X12_keepsRow n q140).bind (fun q142 => W_X12_read n 243 (wrI (wrI q142 226 59 0) 226 65 0)  0)))) else some ((hi (wrI q122 226 17 (hi q122 226 14)) 226 15), (wrI q122 226 17 (hi q122 226 14)))) else some ((hi (wrI q122 226 17 (hi q122 226 14)) 226 13), (wrI q122 226 17 (hi q122 226 14)))))))))) else (if ((hi q75.2 226 13) : Int32) ≤ 0 then (if ((hi q75.2 226 15) : Int32) ≤ 0 then (if ((hi (wrI q75.2 226 17 (-1)) 226 13) : Int32) ≤ 0 then (if ((hi (wrI q75.2 226 17 (-1)) 226 15) : Int32) ≤ 0 then ((F_X12_begins n (wrI (wrI q75.2 226 17 (-1)) 226 18 (hi (wrI q75.2 226 17 (-1)) 226 19))).bind (fun q83 => ((F_X12_keepsRow n q83).bind (fun q85 => W_X12_read n 243 (wrI (wrI q85 226 59 0) 226 65 0)  0)))) else some ((hi (wrI q75.2 226 17 (-1)) 226 15), (wrI q75.2 226 17 (-1)))) else some ((hi (wrI q75.2 226 17 (-1)) 226 13), (wrI q75.2 226 17 (-1)))) else (if ((hi (wrI q75.2 226 17 (hi q75.2 226 16)) 226 13) : Int32) ≤ 0 then (if ((hi (wrI q75.2 226 17 (hi q75.2 226 16)) 226 15) : Int32) ≤ 0 then ((F_X12_begins n (wrI (wrI q75.2 226 17 (hi q75.2 226 16)) 226 18 (hi (wrI q75.2 226 17 (hi q75.2 226 16)) 226 19))).bind (fun q89 => ((F_X12_keepsRow n q89).bind (fun q91 => W_X12_read n 243 (wrI (wrI q91 226 59 0) 226 65 0)  0)))) else some ((hi (wrI q75.2 226 17 (hi q75.2 226 16)) 226 15), (wrI q75.2 226 17 (hi q75.2 226 16)))) else some ((hi (wrI q75.2 226 17 (hi q75.2 226 16)) 226 13), (wrI q75.2 226 17 (hi q75.2 226 16))))) else (if ((hi (wrI q75.2 226 17 (hi q75.2 226 14)) 226 13) : Int32) ≤ 0 then (if ((hi (wrI q75.2 226 17 (hi q75.2 226 14)) 226 15) : Int32) ≤ 0 then ((F_X12_begins n (wrI (wrI q75.2 226 17 (hi q75.2 226 14)) 226 18 (hi (wrI q75.2 226 17 (hi q75.2 226 14)) 226 19))).bind (fun q95 => ((F_X12_keepsRow n q95).bind (fun q97 => W_X12_read n 243 (wrI (wrI q97 226 59 0) 226 65 0)  0)))) else some ((hi (wrI q75.2 226 17 (hi q75.2 226 14)) 226 15), (wrI q75.2 226 17 (hi q75.2 226 14)))) else some ((hi (wrI q75.2 226 17 (hi q75.2 226 14)) 226 13), (wrI q75.2 226 17 (hi q75.2 226 14))))))))) else (if ((hi h 226 13) : Int32) = 0 then ((F_X12_isBeyond n h).bind (fun q30 => (if (q30.1 : Int32) = 0 then (if ((hi q30.2 226 13) : Int32) ≤ 0 then (if ((hi q30.2 226 15) : Int32) ≤ 0 then (if ((hi (wrI q30.2 226 17 (-1)) 226 13) : Int32) ≤ 0 then (if ((hi (wrI q30.2 226 17 (-1)) 226 15) : Int32) ≤ 0 then ((F_X12_begins n (wrI (wrI q30.2 226 17 (-1)) 226 18 (hi (wrI q30.2 226 17 (-1)) 226 19))).bind (fun q37 => ((F_X12_keepsRow n q37).bind (fun q39 => W_X12_read n 243 (wrI (wrI q39 226 59 0) 226 65 0)  0)))) else some ((hi (wrI q30.2 226 17 (-1)) 226 15), (wrI q30.2 226 17 (-1)))) else some ((hi (wrI q30.2 226 17 (-1)) 226 13), (wrI q30.2 226 17 (-1)))) else (if ((hi (wrI q30.2 226 17 (hi q30.2 226 16)) 226 13) : Int32) ≤ 0 then (if ((hi (wrI q30.2 226 17 (hi q30.2 226 16)) 226 15) : Int32) ≤ 0 then ((F_X12_begins n (wrI (wrI q30.2 226 17 (hi q30.2 226 16)) 226 18 (hi (wrI q30.2 226 17 (hi q30.2 226 16)) 226 19))).bind (fun q43 => ((F_X12_keepsRow n q43).bind (fun q45 => W_X12_read n 243 (wrI (wrI q45 226 59 0) 226 65 0)  0)))) else some ((hi (wrI q30.2 226 17 (hi q30.2 226 16)) 226 15), (wrI q30.2 226 17 (hi q30.2 226 16)))) else some ((hi (wrI q30.2 226 17 (hi q30.2 226 16)) 226 13), (wrI q30.2 226 17 (hi q30.2 226 16))))) else (if ((hi (wrI q30.2 226 17 (hi q30.2 226 14)) 226 13) : Int32) ≤ 0 then (if ((hi (wrI q30.2 226 17 (hi q30.2 226 14)) 226 15) : Int32) ≤ 0 then ((F_X12_begins n (wrI (wrI q30.2 226 17 (hi q30.2 226 14)) 226 18 (hi (wrI q30.2 226 17 (hi q30.2 226 14)) 226 19))).bind (fun q49 => ((F_X12_keepsRow n q49).bind (fun q51 => W_X12_read n 243 (wrI (wrI q51 226 59 0) 226 65 0)  0)))) else some ((hi (wrI q30.2 226 17 (hi q30.2 226 14)) 226 15), (wrI q30.2 226 17 (hi q30.2 226 14)))) else some ((hi (wrI q30.2 226 17 (hi q30.2 226 14)) 226 13), (wrI q30.2 226 17 (hi q30.2 226 14))))) else ((F_X12_wrong n q30.2 6 (hi q30.2 226 11)).bind (fun q53 => (if ((hi q53 226 13) : Int32) ≤ 0 then (if ((hi q53 226 15) : Int32) ≤ 0 then (if ((hi (wrI q53 226 17 (-1)) 226 13) : Int32) ≤ 0 then (if ((hi (wrI q53 226 17 (-1)) 226 15) : Int32) ≤ 0 then ((F_X12_begins n (wrI (wrI q53 226 17 (-1)) 226 18 (hi (wrI q53 226 17 (-1)) 226 19))).bind (fun q59 => ((F_X12_keepsRow n q59).bind (fun q61 => W_X12_read n 243 (wrI (wrI q61 226 59 0) 226 65 0)  0)))) else some ((hi (wrI q53 226 17 (-1)) 226 15), (wrI q53 226 17 (-1)))) else some ((hi (wrI q53 226 17 (-1)) 226 13), (wrI q53 226 17 (-1)))) else (if ((hi (wrI q53 226 17 (hi q53 226 16)) 226 13) : Int32) ≤ 0 then (if ((hi (wrI q53 226 17 (hi q53 226 16)) 226 15) : Int32) ≤ 0 then ((F_X12_begins n (wrI (wrI q53 226 17 (hi q53 226 16)) 226 18 (hi (wrI q53 226 17 (hi q53 226 16)) 226 19))).bind (fun q65 => ((F_X12_keepsRow n q65).bind (fun q67 => W_X12_read n 243 (wrI (wrI q67 226 59 0) 226 65 0)  0)))) else some ((hi (wrI q53 226 17 (hi q53 226 16)) 226 15), (wrI q53 226 17 (hi q53 226 16)))) else some ((hi (wrI q53 226 17 (hi q53 226 16)) 226 13), (wrI q53 226 17 (hi q53 226 16))))) else (if ((hi (wrI q53 226 17 (hi q53 226 14)) 226 13) : Int32) ≤ 0 then (if ((hi (wrI q53 226 17 (hi q53 226 14)) 226 15) : Int32) ≤ 0 then ((F_X12_begins n (wrI (wrI q53 226 17 (hi q53 226 14)) 226 18 (hi (wrI q53 226 17 (hi q53 226 14)) 226 19))).bind (fun q71 => ((F_X12_keepsRow n q71).bind (fun q73 => W_X12_read n 243 (wrI (wrI q73 226 59 0) 226 65 0)  0)))) else some ((hi (wrI q53 226 17 (hi q53 226 14)) 226 15), (wrI q53 226 17 (hi q53 226 14)))) else some ((hi (wrI q53 226 17 (hi q53 226 14)) 226 13), (wrI q53 226 17 (hi q53 226 14)))))))))) else (if ((hi h 226 13) : Int32) ≤ 0 then (if ((hi h 226 15) : Int32) ≤ 0 then (if ((hi (wrI h 226 17 (-1)) 226 13) : Int32) ≤ 0 then (if ((hi (wrI h 226 17 (-1)) 226 15) : Int32) ≤ 0 then ((F_X12_begins n (wrI (wrI h 226 17 (-1)) 226 18 (hi (wrI h 226 17 (-1)) 226 19))).bind (fun q14 => ((F_X12_keepsRow n q14).bind (fun q16 => W_X12_read n 243 (wrI (wrI q16 226 59 0) 226 65 0)  0)))) else some ((hi (wrI h 226 17 (-1)) 226 15), (wrI h 226 17 (-1)))) else some ((hi (wrI h 226 17 (-1)) 226 13), (wrI h 226 17 (-1)))) else (if ((hi (wrI h 226 17 (hi h 226 16)) 226 13) : Int32) ≤ 0 then (if ((hi (wrI h 226 17 (hi h 226 16)) 226 15) : Int32) ≤ 0 then ((F_X12_begins n (wrI (wrI h 226 17 (hi h 226 16)) 226 18 (hi (wrI h 226 17 (hi h 226 16)) 226 19))).bind (fun q20 => ((F_X12_keepsRow n q20).bind (fun q22 => W_X12_read n 243 (wrI (wrI q22 226 59 0) 226 65 0)  0)))) else some ((hi (wrI h 226 17 (hi h 226 16)) 226 15), (wrI h 226 17 (hi h 226 16)))) else some ((hi (wrI h 226 17 (hi h 226 16)) 226 13), (wrI h 226 17 (hi h 226 16))))) else (if ((hi (wrI h 226 17 (hi h 226 14)) 226 13) : Int32) ≤ 0 then (if ((hi (wrI h 226 17 (hi h 226 14)) 226 15) : Int32) ≤ 0 then ((F_X12_begins n (wrI (wrI h 226 17 (hi h 226 14)) 226 18 (hi (wrI h 226 17 (hi h 226 14)) 226 19))).bind (fun q26 => ((F_X12_keepsRow n q26).bind (fun q28 => W_X12_read n 243 (wrI (wrI q28 226 59 0) 226 65 0)  0)))) else some ((hi (wrI h 226 17 (hi h 226 14)) 226 15), (wrI h 226 17 (hi h 226 14)))) else some ((hi (wrI h 226 17 (hi h 226 14)) 226 13), (wrI h 226 17 (hi h 226 14))))))) else (if hd = 243 then (if (3 : Int32) ≤ (l1 : Int32) then some (0, h) else (if ixOK l1 3 = true then W_X12_read n 243 (wrI h 273 (Int32.toNatClampNeg l1) 0)  (l1 + 1) else none)) else none)))
set_option maxRecDepth 100000 in
set_option maxHeartbeats 4000000 in
theorem sw_X12_read (d : Nat)  (n : Nat) : (∀ (l1 : Int32) (h : Hp), ∀ (r : Int32) (h' : Hp), W_X12_read n 10 h  l1 = some (r, h') → G h → V mX12_read (d + 7) 10 [some (.ref 226), some (.int l1)] [] h (fun r1 h1 => r1 = some (.int r) ∧ h1 = h' ∧ G h')) ∧ (∀ (l1 : Int32) (h : Hp), ∀ (r : Int32) (h' : Hp), W_X12_read n 112 h  l1 = some (r, h') → G h → V mX12_read (d + 7) 112 [some (.ref 226), some (.int l1)] [] h (fun r1 h1 => r1 = some (.int r) ∧ h1 = h' ∧ G h')) ∧ (∀ (l1 : Int32) (h : Hp), ∀ (r : Int32) (h' : Hp), W_X12_read n 243 h  l1 = some (r, h') → G h → V mX12_read (d + 7) 243 [some (.ref 226), some (.int l1)] [] h (fun r1 h1 => r1 = some (.int r) ∧ h1 = h' ∧ G h')) := by
  induction n with
  | zero => exact ⟨by intros; contradiction, by intros; contradiction, by intros; contradiction⟩
  | succ n ih =>
    obtain ⟨s_X12_read_IH_10, s_X12_read_IH_112, s_X12_read_IH_243⟩ := ih
    refine ⟨?_, ?_, ?_⟩
    · intro l1 h r h' hF hG
      unfold W_X12_read at hF
      rw [if_pos rfl] at hF
      refine v_iload_n (i := 1) dX12_read_10 rfl rfl ?_
      refine v_aload_n (i := 0) dX12_read_11 rfl rfl ?_
      refine g_X12_184 rfl sh_226 (by exact ltG hG (by decide)) dX12_read_12 ?_
      refine v_icmp_ge 36 dX12_read_15 (by decide) (fun c1 => ?_) (fun c1 => ?_)
      · rw [if_pos c1] at hF
        refine v_aload_n (i := 0) dX12_read_36 rfl rfl ?_
        refine v_iconst (v := 0) dX12_read_37 (by decide) ?_
        refine p_X12_178 rfl sh_226 (by exact ltG hG (by decide)) dX12_read_38 ?_
        refine v_aload_n (i := 0) dX12_read_41 rfl rfl ?_
        obtain ⟨q2, q2_e, hF⟩ := Option.bind_eq_some_iff.mp hF
        refine c_X12_239 rfl sh_226 (by exact ltG hG (by decide)) (Nat.le_of_ble_eq_true rfl) dX12_read_42 (s_X12_cut _ q2_e hG) (fun r1 h1 hq => ?_)
        obtain ⟨rfl, hq, hG⟩ := hq
        replace hq := hq.symm
        subst hq
        simp only [Option.toList, List.nil_append]
        refine v_aload_n (i := 0) dX12_read_45 rfl rfl ?_
        refine v_iconst (v := 0) dX12_read_46 (by decide) ?_
        refine p_X12_218 rfl sh_226 (by exact ltG hG (by decide)) dX12_read_47 ?_
        refine v_aload_n (i := 0) dX12_read_50 rfl rfl ?_
        refine v_iconst (v := 0) dX12_read_51 (by decide) ?_
        refine p_X12_242 rfl sh_226 (by exact ltG hG (by decide)) dX12_read_52 ?_
        refine v_aload_n (i := 0) dX12_read_55 rfl rfl ?_
        refine v_iconst (v := 0) dX12_read_56 (by decide) ?_
        refine p_X12_215 rfl sh_226 (by exact ltG hG (by decide)) dX12_read_57 ?_
        refine v_aload_n (i := 0) dX12_read_60 rfl rfl ?_
        refine v_iconst (v := 0) dX12_read_61 (by decide) ?_
        refine p_X12_224 rfl sh_226 (by exact ltG hG (by decide)) dX12_read_62 ?_
        refine v_aload_n (i := 0) dX12_read_65 rfl rfl ?_
        refine v_iconst (v := 1) dX12_read_66 (by decide) ?_
        refine v_aload_n (i := 0) dX12_read_67 rfl rfl ?_
        refine g_X12_245 rfl sh_226 (by exact ltG hG (by decide)) dX12_read_68 ?_
        refine v_isub dX12_read_71 ?_
        refine p_X12_248 rfl sh_226 (by exact ltG hG (by decide)) dX12_read_72 ?_
        refine v_aload_n (i := 0) dX12_read_75 rfl rfl ?_
        refine v_iconst (v := 0) dX12_read_76 (by decide) ?_
        refine p_X12_251 rfl sh_226 (by exact ltG hG (by decide)) dX12_read_77 ?_
        refine v_aload_n (i := 0) dX12_read_80 rfl rfl ?_
        refine v_aload_n (i := 0) dX12_read_81 rfl rfl ?_
        refine g_X12_248 rfl sh_226 (by exact ltG hG (by decide)) dX12_read_82 ?_
        obtain ⟨q4, q4_e, hF⟩ := Option.bind_eq_some_iff.mp hF
        refine c_X12_164 rfl sh_226 (by exact ltG hG (by decide)) (Nat.le_of_ble_eq_true rfl) dX12_read_85 (s_X12_plain _ q4_e hG) (fun r1 h1 hq => ?_)
        obtain ⟨rfl, hq, hG⟩ := hq
        replace hq := hq.symm
        subst hq
        simp only [Option.toList, List.nil_append]
        refine v_aload_n (i := 0) dX12_read_88 rfl rfl ?_
        refine v_sipush (v := 130) dX12_read_89 (by decide) ?_
        refine v_aload_n (i := 0) dX12_read_92 rfl rfl ?_
        refine g_X12_248 rfl sh_226 (by exact ltG hG (by decide)) dX12_read_93 ?_
        refine v_imul dX12_read_96 ?_
        refine p_X12_254 rfl sh_226 (by exact ltG hG (by decide)) dX12_read_97 ?_
        refine v_aload_n (i := 0) dX12_read_100 rfl rfl ?_
        refine v_sipush (v := 420) dX12_read_101 (by decide) ?_
        refine v_aload_n (i := 0) dX12_read_104 rfl rfl ?_
        refine g_X12_248 rfl sh_226 (by exact ltG hG (by decide)) dX12_read_105 ?_
        refine v_imul dX12_read_108 ?_
        refine p_X12_257 rfl sh_226 (by exact ltG hG (by decide)) dX12_read_109 ?_
        refine V.weak (la2 := [some (.ref 226), some (.int l1)]) (by simp [wk]) ?_
        exact (s_X12_read_IH_112) _ _ _ _ hF hG
      · rw [if_neg c1] at hF
        refine v_aload_n (i := 0) dX12_read_18 rfl rfl ?_
        refine g_X12_17 (q := 228) rfl sh_226 (by exact ltG hG (by decide)) (by exact rG hG r0_226_3) dX12_read_19 ?_
        refine v_iload_n (i := 1) dX12_read_22 rfl rfl ?_
        refine v_aload_n (i := 0) dX12_read_23 rfl rfl ?_
        refine g_X12_13 (q := 227) rfl sh_226 (by exact ltG hG (by decide)) (by exact rG hG r0_226_1) dX12_read_24 ?_
        refine v_iload_n (i := 1) dX12_read_27 rfl rfl ?_
        obtain ⟨k6, hF⟩ := ck_some hF
        refine v_baload sh_227 (by exact ltG hG (by decide)) (ixO k6) dX12_read_28 ?_
        obtain ⟨k7, hF⟩ := ck_some hF
        refine v_bastore sh_228 (by exact ltG hG (by decide)) (ixO k7) dX12_read_29 ?_
        refine v_iinc (i := 1) (v := (l1 + 1)) dX12_read_30 rfl rfl (by decide) (nlT rfl) ?_
        simp only [List.set_cons_zero, List.set_cons_succ]
        refine v_goto 10 dX12_read_33 (by decide) ?_
        refine V.weak (la2 := [some (.ref 226), some (.int (l1 + 1))]) (by simp [wk]) ?_
        exact (s_X12_read_IH_10) _ _ _ _ hF hG
    · intro l1 h r h' hF hG
      unfold W_X12_read at hF
      rw [if_neg (by decide)] at hF
      rw [if_pos rfl] at hF
      refine v_aload_n (i := 0) dX12_read_112 rfl rfl ?_
      refine g_X12_215 rfl sh_226 (by exact ltG hG (by decide)) dX12_read_113 ?_
      refine v_if_ne 134 dX12_read_116 (by decide) (fun c8 => ?_) (fun c8 => ?_)
      · rw [if_neg c8] at hF
        refine v_aload_n (i := 0) dX12_read_134 rfl rfl ?_
        refine g_X12_215 rfl sh_226 (by exact ltG hG (by decide)) dX12_read_135 ?_
        refine v_if_ne 158 dX12_read_138 (by decide) (fun c9 => ?_) (fun c9 => ?_)
        · rw [if_neg c9] at hF
          refine v_aload_n (i := 0) dX12_read_158 rfl rfl ?_
          refine v_aload_n (i := 0) dX12_read_159 rfl rfl ?_
          refine g_X12_215 rfl sh_226 (by exact ltG hG (by decide)) dX12_read_160 ?_
          refine v_if_le 173 dX12_read_163 (by decide) (fun c10 => ?_) (fun c10 => ?_)
          · rw [if_pos c10] at hF
            refine v_aload_n (i := 0) dX12_read_173 rfl rfl ?_
            refine g_X12_224 rfl sh_226 (by exact ltG hG (by decide)) dX12_read_174 ?_
            refine v_if_le 187 dX12_read_177 (by decide) (fun c11 => ?_) (fun c11 => ?_)
            · rw [if_pos c11] at hF
              refine v_iconst (v := (-1)) dX12_read_187 (by decide) ?_
              refine p_X12_37 rfl sh_226 (by exact ltG hG (by decide)) dX12_read_188 ?_
              refine v_aload_n (i := 0) dX12_read_191 rfl rfl ?_
              refine g_X12_215 rfl sh_226 (by exact ltG hG (by decide)) dX12_read_192 ?_
              refine v_if_le 203 dX12_read_195 (by decide) (fun c12 => ?_) (fun c12 => ?_)
              · rw [if_pos c12] at hF
                refine v_aload_n (i := 0) dX12_read_203 rfl rfl ?_
                refine g_X12_224 rfl sh_226 (by exact ltG hG (by decide)) dX12_read_204 ?_
                refine v_if_le 215 dX12_read_207 (by decide) (fun c13 => ?_) (fun c13 => ?_)
                · rw [if_pos c13] at hF
                  refine v_aload_n (i := 0) dX12_read_215 rfl rfl ?_
                  refine v_aload_n (i := 0) dX12_read_216 rfl rfl ?_
                  refine g_X12_248 rfl sh_226 (by exact ltG hG (by decide)) dX12_read_217 ?_
                  refine p_X12_245 rfl sh_226 (by exact ltG hG (by decide)) dX12_read_220 ?_
                  refine v_aload_n (i := 0) dX12_read_223 rfl rfl ?_
                  obtain ⟨q14, q14_e, hF⟩ := Option.bind_eq_some_iff.mp hF
                  refine c_X12_172 rfl sh_226 (by exact ltG hG (by decide)) (Nat.le_of_ble_eq_true rfl) dX12_read_224 (s_X12_begins _ q14_e hG) (fun r1 h1 hq => ?_)
                  obtain ⟨rfl, hq, hG⟩ := hq
                  replace hq := hq.symm
                  subst hq
                  simp only [Option.toList, List.nil_append]
                  refine v_aload_n (i := 0) dX12_read_227 rfl rfl ?_
                  obtain ⟨q16, q16_e, hF⟩ := Option.bind_eq_some_iff.mp hF
                  refine c_X12_175 rfl sh_226 (by exact ltG hG (by decide)) (Nat.le_of_ble_eq_true rfl) dX12_read_228 (s_X12_keepsRow _ q16_e hG) (fun r1 h1 hq => ?_)
                  obtain ⟨rfl, hq, hG⟩ := hq
                  replace hq := hq.symm
                  subst hq
                  simp only [Option.toList, List.nil_append]
                  refine v_aload_n (i := 0) dX12_read_231 rfl rfl ?_
                  refine v_iconst (v := 0) dX12_read_232 (by decide) ?_
                  refine p_X12_271 rfl sh_226 (by exact ltG hG (by decide)) dX12_read_233 ?_
                  refine v_aload_n (i := 0) dX12_read_236 rfl rfl ?_
                  refine v_iconst (v := 0) dX12_read_237 (by decide) ?_
                  refine p_X12_274 rfl sh_226 (by exact ltG hG (by decide)) dX12_read_238 ?_
                  refine v_iconst (v := 0) dX12_read_241 (by decide) ?_
                  refine v_istore_n (i := 1) dX12_read_242 rfl (by decide) (nlT rfl) ?_
                  simp only [List.set_cons_zero, List.set_cons_succ]
                  refine V.weak (la2 := [some (.ref 226), some (.int 0)]) (by simp [wk]) ?_
                  exact (s_X12_read_IH_243) _ _ _ _ hF hG
                · rw [if_neg c13] at hF
                  refine v_aload_n (i := 0) dX12_read_210 rfl rfl ?_
                  refine g_X12_224 rfl sh_226 (by exact ltG hG (by decide)) dX12_read_211 ?_
                  refine v_ireturn rfl dX12_read_214 ?_
                  obtain ⟨rfl, rfl⟩ := Prod.mk.inj (Option.some.inj hF)
                  exact ⟨rfl, rfl, hG⟩
              · rw [if_neg c12] at hF
                refine v_aload_n (i := 0) dX12_read_198 rfl rfl ?_
                refine g_X12_215 rfl sh_226 (by exact ltG hG (by decide)) dX12_read_199 ?_
                refine v_ireturn rfl dX12_read_202 ?_
                obtain ⟨rfl, rfl⟩ := Prod.mk.inj (Option.some.inj hF)
                exact ⟨rfl, rfl, hG⟩
            · rw [if_neg c11] at hF
              refine v_aload_n (i := 0) dX12_read_180 rfl rfl ?_
              refine g_X12_227 rfl sh_226 (by exact ltG hG (by decide)) dX12_read_181 ?_
              refine v_goto 188 dX12_read_184 (by decide) ?_
              refine p_X12_37 rfl sh_226 (by exact ltG hG (by decide)) dX12_read_188 ?_
              refine v_aload_n (i := 0) dX12_read_191 rfl rfl ?_
              refine g_X12_215 rfl sh_226 (by exact ltG hG (by decide)) dX12_read_192 ?_
              refine v_if_le 203 dX12_read_195 (by decide) (fun c18 => ?_) (fun c18 => ?_)
              · rw [if_pos c18] at hF
                refine v_aload_n (i := 0) dX12_read_203 rfl rfl ?_
                refine g_X12_224 rfl sh_226 (by exact ltG hG (by decide)) dX12_read_204 ?_
                refine v_if_le 215 dX12_read_207 (by decide) (fun c19 => ?_) (fun c19 => ?_)
                · rw [if_pos c19] at hF
                  refine v_aload_n (i := 0) dX12_read_215 rfl rfl ?_
                  refine v_aload_n (i := 0) dX12_read_216 rfl rfl ?_
                  refine g_X12_248 rfl sh_226 (by exact ltG hG (by decide)) dX12_read_217 ?_
                  refine p_X12_245 rfl sh_226 (by exact ltG hG (by decide)) dX12_read_220 ?_
                  refine v_aload_n (i := 0) dX12_read_223 rfl rfl ?_
                  obtain ⟨q20, q20_e, hF⟩ := Option.bind_eq_some_iff.mp hF
                  refine c_X12_172 rfl sh_226 (by exact ltG hG (by decide)) (Nat.le_of_ble_eq_true rfl) dX12_read_224 (s_X12_begins _ q20_e hG) (fun r1 h1 hq => ?_)
                  obtain ⟨rfl, hq, hG⟩ := hq
                  replace hq := hq.symm
                  subst hq
                  simp only [Option.toList, List.nil_append]
                  refine v_aload_n (i := 0) dX12_read_227 rfl rfl ?_
                  obtain ⟨q22, q22_e, hF⟩ := Option.bind_eq_some_iff.mp hF
                  refine c_X12_175 rfl sh_226 (by exact ltG hG (by decide)) (Nat.le_of_ble_eq_true rfl) dX12_read_228 (s_X12_keepsRow _ q22_e hG) (fun r1 h1 hq => ?_)
                  obtain ⟨rfl, hq, hG⟩ := hq
                  replace hq := hq.symm
                  subst hq
                  simp only [Option.toList, List.nil_append]
                  refine v_aload_n (i := 0) dX12_read_231 rfl rfl ?_
                  refine v_iconst (v := 0) dX12_read_232 (by decide) ?_
                  refine p_X12_271 rfl sh_226 (by exact ltG hG (by decide)) dX12_read_233 ?_
                  refine v_aload_n (i := 0) dX12_read_236 rfl rfl ?_
                  refine v_iconst (v := 0) dX12_read_237 (by decide) ?_
                  refine p_X12_274 rfl sh_226 (by exact ltG hG (by decide)) dX12_read_238 ?_
                  refine v_iconst (v := 0) dX12_read_241 (by decide) ?_
                  refine v_istore_n (i := 1) dX12_read_242 rfl (by decide) (nlT rfl) ?_
                  simp only [List.set_cons_zero, List.set_cons_succ]
                  refine V.weak (la2 := [some (.ref 226), some (.int 0)]) (by simp [wk]) ?_
                  exact (s_X12_read_IH_243) _ _ _ _ hF hG
                · rw [if_neg c19] at hF
                  refine v_aload_n (i := 0) dX12_read_210 rfl rfl ?_
                  refine g_X12_224 rfl sh_226 (by exact ltG hG (by decide)) dX12_read_211 ?_
                  refine v_ireturn rfl dX12_read_214 ?_
                  obtain ⟨rfl, rfl⟩ := Prod.mk.inj (Option.some.inj hF)
                  exact ⟨rfl, rfl, hG⟩
              · rw [if_neg c18] at hF
                refine v_aload_n (i := 0) dX12_read_198 rfl rfl ?_
                refine g_X12_215 rfl sh_226 (by exact ltG hG (by decide)) dX12_read_199 ?_
                refine v_ireturn rfl dX12_read_202 ?_
                obtain ⟨rfl, rfl⟩ := Prod.mk.inj (Option.some.inj hF)
                exact ⟨rfl, rfl, hG⟩
          · rw [if_neg c10] at hF
            refine v_aload_n (i := 0) dX12_read_166 rfl rfl ?_
            refine g_X12_221 rfl sh_226 (by exact ltG hG (by decide)) dX12_read_167 ?_
            refine v_goto 188 dX12_read_170 (by decide) ?_
            refine p_X12_37 rfl sh_226 (by exact ltG hG (by decide)) dX12_read_188 ?_
            refine v_aload_n (i := 0) dX12_read_191 rfl rfl ?_
            refine g_X12_215 rfl sh_226 (by exact ltG hG (by decide)) dX12_read_192 ?_
            refine v_if_le 203 dX12_read_195 (by decide) (fun c24 => ?_) (fun c24 => ?_)
            · rw [if_pos c24] at hF
              refine v_aload_n (i := 0) dX12_read_203 rfl rfl ?_
              refine g_X12_224 rfl sh_226 (by exact ltG hG (by decide)) dX12_read_204 ?_
              refine v_if_le 215 dX12_read_207 (by decide) (fun c25 => ?_) (fun c25 => ?_)
              · rw [if_pos c25] at hF
                refine v_aload_n (i := 0) dX12_read_215 rfl rfl ?_
                refine v_aload_n (i := 0) dX12_read_216 rfl rfl ?_
                refine g_X12_248 rfl sh_226 (by exact ltG hG (by decide)) dX12_read_217 ?_
                refine p_X12_245 rfl sh_226 (by exact ltG hG (by decide)) dX12_read_220 ?_
                refine v_aload_n (i := 0) dX12_read_223 rfl rfl ?_
                obtain ⟨q26, q26_e, hF⟩ := Option.bind_eq_some_iff.mp hF
                refine c_X12_172 rfl sh_226 (by exact ltG hG (by decide)) (Nat.le_of_ble_eq_true rfl) dX12_read_224 (s_X12_begins _ q26_e hG) (fun r1 h1 hq => ?_)
                obtain ⟨rfl, hq, hG⟩ := hq
                replace hq := hq.symm
                subst hq
                simp only [Option.toList, List.nil_append]
                refine v_aload_n (i := 0) dX12_read_227 rfl rfl ?_
                obtain ⟨q28, q28_e, hF⟩ := Option.bind_eq_some_iff.mp hF
                refine c_X12_175 rfl sh_226 (by exact ltG hG (by decide)) (Nat.le_of_ble_eq_true rfl) dX12_read_228 (s_X12_keepsRow _ q28_e hG) (fun r1 h1 hq => ?_)
                obtain ⟨rfl, hq, hG⟩ := hq
                replace hq := hq.symm
                subst hq
                simp only [Option.toList, List.nil_append]
                refine v_aload_n (i := 0) dX12_read_231 rfl rfl ?_
                refine v_iconst (v := 0) dX12_read_232 (by decide) ?_
                refine p_X12_271 rfl sh_226 (by exact ltG hG (by decide)) dX12_read_233 ?_
                refine v_aload_n (i := 0) dX12_read_236 rfl rfl ?_
                refine v_iconst (v := 0) dX12_read_237 (by decide) ?_
                refine p_X12_274 rfl sh_226 (by exact ltG hG (by decide)) dX12_read_238 ?_
                refine v_iconst (v := 0) dX12_read_241 (by decide) ?_
                refine v_istore_n (i := 1) dX12_read_242 rfl (by decide) (nlT rfl) ?_
                simp only [List.set_cons_zero, List.set_cons_succ]
                refine V.weak (la2 := [some (.ref 226), some (.int 0)]) (by simp [wk]) ?_
                exact (s_X12_read_IH_243) _ _ _ _ hF hG
              · rw [if_neg c25] at hF
                refine v_aload_n (i := 0) dX12_read_210 rfl rfl ?_
                refine g_X12_224 rfl sh_226 (by exact ltG hG (by decide)) dX12_read_211 ?_
                refine v_ireturn rfl dX12_read_214 ?_
                obtain ⟨rfl, rfl⟩ := Prod.mk.inj (Option.some.inj hF)
                exact ⟨rfl, rfl, hG⟩
            · rw [if_neg c24] at hF
              refine v_aload_n (i := 0) dX12_read_198 rfl rfl ?_
              refine g_X12_215 rfl sh_226 (by exact ltG hG (by decide)) dX12_read_199 ?_
              refine v_ireturn rfl dX12_read_202 ?_
              obtain ⟨rfl, rfl⟩ := Prod.mk.inj (Option.some.inj hF)
              exact ⟨rfl, rfl, hG⟩
        · rw [if_pos c9] at hF
          refine v_aload_n (i := 0) dX12_read_141 rfl rfl ?_
          obtain ⟨q30, q30_e, hF⟩ := Option.bind_eq_some_iff.mp hF
          refine c_X12_263 rfl sh_226 (by exact ltG hG (by decide)) (Nat.le_of_ble_eq_true rfl) dX12_read_142 (s_X12_isBeyond _ q30_e hG) (fun r1 h1 hq => ?_)
          obtain ⟨rfl, hq, hG⟩ := hq
          replace hq := hq.symm
          subst hq
          show V _ _ _ _ (_ :: _) _ _
          refine v_if_eq 158 dX12_read_145 (by decide) (fun c32 => ?_) (fun c32 => ?_)
          · rw [if_pos c32] at hF
            refine v_aload_n (i := 0) dX12_read_158 rfl rfl ?_
            refine v_aload_n (i := 0) dX12_read_159 rfl rfl ?_
            refine g_X12_215 rfl sh_226 (by exact ltG hG (by decide)) dX12_read_160 ?_
            refine v_if_le 173 dX12_read_163 (by decide) (fun c33 => ?_) (fun c33 => ?_)
            · rw [if_pos c33] at hF
              refine v_aload_n (i := 0) dX12_read_173 rfl rfl ?_
              refine g_X12_224 rfl sh_226 (by exact ltG hG (by decide)) dX12_read_174 ?_
              refine v_if_le 187 dX12_read_177 (by decide) (fun c34 => ?_) (fun c34 => ?_)
              · rw [if_pos c34] at hF
                refine v_iconst (v := (-1)) dX12_read_187 (by decide) ?_
                refine p_X12_37 rfl sh_226 (by exact ltG hG (by decide)) dX12_read_188 ?_
                refine v_aload_n (i := 0) dX12_read_191 rfl rfl ?_
                refine g_X12_215 rfl sh_226 (by exact ltG hG (by decide)) dX12_read_192 ?_
                refine v_if_le 203 dX12_read_195 (by decide) (fun c35 => ?_) (fun c35 => ?_)
                · rw [if_pos c35] at hF
                  refine v_aload_n (i := 0) dX12_read_203 rfl rfl ?_
                  refine g_X12_224 rfl sh_226 (by exact ltG hG (by decide)) dX12_read_204 ?_
                  refine v_if_le 215 dX12_read_207 (by decide) (fun c36 => ?_) (fun c36 => ?_)
                  · rw [if_pos c36] at hF
                    refine v_aload_n (i := 0) dX12_read_215 rfl rfl ?_
                    refine v_aload_n (i := 0) dX12_read_216 rfl rfl ?_
                    refine g_X12_248 rfl sh_226 (by exact ltG hG (by decide)) dX12_read_217 ?_
                    refine p_X12_245 rfl sh_226 (by exact ltG hG (by decide)) dX12_read_220 ?_
                    refine v_aload_n (i := 0) dX12_read_223 rfl rfl ?_
                    obtain ⟨q37, q37_e, hF⟩ := Option.bind_eq_some_iff.mp hF
                    refine c_X12_172 rfl sh_226 (by exact ltG hG (by decide)) (Nat.le_of_ble_eq_true rfl) dX12_read_224 (s_X12_begins _ q37_e hG) (fun r1 h1 hq => ?_)
                    obtain ⟨rfl, hq, hG⟩ := hq
                    replace hq := hq.symm
                    subst hq
                    simp only [Option.toList, List.nil_append]
                    refine v_aload_n (i := 0) dX12_read_227 rfl rfl ?_
                    obtain ⟨q39, q39_e, hF⟩ := Option.bind_eq_some_iff.mp hF
                    refine c_X12_175 rfl sh_226 (by exact ltG hG (by decide)) (Nat.le_of_ble_eq_true rfl) dX12_read_228 (s_X12_keepsRow _ q39_e hG) (fun r1 h1 hq => ?_)
                    obtain ⟨rfl, hq, hG⟩ := hq
                    replace hq := hq.symm
                    subst hq
                    simp only [Option.toList, List.nil_append]
                    refine v_aload_n (i := 0) dX12_read_231 rfl rfl ?_
                    refine v_iconst (v := 0) dX12_read_232 (by decide) ?_
                    refine p_X12_271 rfl sh_226 (by exact ltG hG (by decide)) dX12_read_233 ?_
                    refine v_aload_n (i := 0) dX12_read_236 rfl rfl ?_
                    refine v_iconst (v := 0) dX12_read_237 (by decide) ?_
                    refine p_X12_274 rfl sh_226 (by exact ltG hG (by decide)) dX12_read_238 ?_
                    refine v_iconst (v := 0) dX12_read_241 (by decide) ?_
                    refine v_istore_n (i := 1) dX12_read_242 rfl (by decide) (nlT rfl) ?_
                    simp only [List.set_cons_zero, List.set_cons_succ]
                    refine V.weak (la2 := [some (.ref 226), some (.int 0)]) (by simp [wk]) ?_
                    exact (s_X12_read_IH_243) _ _ _ _ hF hG
                  · rw [if_neg c36] at hF
                    refine v_aload_n (i := 0) dX12_read_210 rfl rfl ?_
                    refine g_X12_224 rfl sh_226 (by exact ltG hG (by decide)) dX12_read_211 ?_
                    refine v_ireturn rfl dX12_read_214 ?_
                    obtain ⟨rfl, rfl⟩ := Prod.mk.inj (Option.some.inj hF)
                    exact ⟨rfl, rfl, hG⟩
                · rw [if_neg c35] at hF
                  refine v_aload_n (i := 0) dX12_read_198 rfl rfl ?_
                  refine g_X12_215 rfl sh_226 (by exact ltG hG (by decide)) dX12_read_199 ?_
                  refine v_ireturn rfl dX12_read_202 ?_
                  obtain ⟨rfl, rfl⟩ := Prod.mk.inj (Option.some.inj hF)
                  exact ⟨rfl, rfl, hG⟩
              · rw [if_neg c34] at hF
                refine v_aload_n (i := 0) dX12_read_180 rfl rfl ?_
                refine g_X12_227 rfl sh_226 (by exact ltG hG (by decide)) dX12_read_181 ?_
                refine v_goto 188 dX12_read_184 (by decide) ?_
                refine p_X12_37 rfl sh_226 (by exact ltG hG (by decide)) dX12_read_188 ?_
                refine v_aload_n (i := 0) dX12_read_191 rfl rfl ?_
                refine g_X12_215 rfl sh_226 (by exact ltG hG (by decide)) dX12_read_192 ?_
                refine v_if_le 203 dX12_read_195 (by decide) (fun c41 => ?_) (fun c41 => ?_)
                · rw [if_pos c41] at hF
                  refine v_aload_n (i := 0) dX12_read_203 rfl rfl ?_
                  refine g_X12_224 rfl sh_226 (by exact ltG hG (by decide)) dX12_read_204 ?_
                  refine v_if_le 215 dX12_read_207 (by decide) (fun c42 => ?_) (fun c42 => ?_)
                  · rw [if_pos c42] at hF
                    refine v_aload_n (i := 0) dX12_read_215 rfl rfl ?_
                    refine v_aload_n (i := 0) dX12_read_216 rfl rfl ?_
                    refine g_X12_248 rfl sh_226 (by exact ltG hG (by decide)) dX12_read_217 ?_
                    refine p_X12_245 rfl sh_226 (by exact ltG hG (by decide)) dX12_read_220 ?_
                    refine v_aload_n (i := 0) dX12_read_223 rfl rfl ?_
                    obtain ⟨q43, q43_e, hF⟩ := Option.bind_eq_some_iff.mp hF
                    refine c_X12_172 rfl sh_226 (by exact ltG hG (by decide)) (Nat.le_of_ble_eq_true rfl) dX12_read_224 (s_X12_begins _ q43_e hG) (fun r1 h1 hq => ?_)
                    obtain ⟨rfl, hq, hG⟩ := hq
                    replace hq := hq.symm
                    subst hq
                    simp only [Option.toList, List.nil_append]
                    refine v_aload_n (i := 0) dX12_read_227 rfl rfl ?_
                    obtain ⟨q45, q45_e, hF⟩ := Option.bind_eq_some_iff.mp hF
                    refine c_X12_175 rfl sh_226 (by exact ltG hG (by decide)) (Nat.le_of_ble_eq_true rfl) dX12_read_228 (s_X12_keepsRow _ q45_e hG) (fun r1 h1 hq => ?_)
                    obtain ⟨rfl, hq, hG⟩ := hq
                    replace hq := hq.symm
                    subst hq
                    simp only [Option.toList, List.nil_append]
                    refine v_aload_n (i := 0) dX12_read_231 rfl rfl ?_
                    refine v_iconst (v := 0) dX12_read_232 (by decide) ?_
                    refine p_X12_271 rfl sh_226 (by exact ltG hG (by decide)) dX12_read_233 ?_
                    refine v_aload_n (i := 0) dX12_read_236 rfl rfl ?_
                    refine v_iconst (v := 0) dX12_read_237 (by decide) ?_
                    refine p_X12_274 rfl sh_226 (by exact ltG hG (by decide)) dX12_read_238 ?_
                    refine v_iconst (v := 0) dX12_read_241 (by decide) ?_
                    refine v_istore_n (i := 1) dX12_read_242 rfl (by decide) (nlT rfl) ?_
                    simp only [List.set_cons_zero, List.set_cons_succ]
                    refine V.weak (la2 := [some (.ref 226), some (.int 0)]) (by simp [wk]) ?_
                    exact (s_X12_read_IH_243) _ _ _ _ hF hG
                  · rw [if_neg c42] at hF
                    refine v_aload_n (i := 0) dX12_read_210 rfl rfl ?_
                    refine g_X12_224 rfl sh_226 (by exact ltG hG (by decide)) dX12_read_211 ?_
                    refine v_ireturn rfl dX12_read_214 ?_
                    obtain ⟨rfl, rfl⟩ := Prod.mk.inj (Option.some.inj hF)
                    exact ⟨rfl, rfl, hG⟩
                · rw [if_neg c41] at hF
                  refine v_aload_n (i := 0) dX12_read_198 rfl rfl ?_
                  refine g_X12_215 rfl sh_226 (by exact ltG hG (by decide)) dX12_read_199 ?_
                  refine v_ireturn rfl dX12_read_202 ?_
                  obtain ⟨rfl, rfl⟩ := Prod.mk.inj (Option.some.inj hF)
                  exact ⟨rfl, rfl, hG⟩
            · rw [if_neg c33] at hF
              refine v_aload_n (i := 0) dX12_read_166 rfl rfl ?_
              refine g_X12_221 rfl sh_226 (by exact ltG hG (by decide)) dX12_read_167 ?_
              refine v_goto 188 dX12_read_170 (by decide) ?_
              refine p_X12_37 rfl sh_226 (by exact ltG hG (by decide)) dX12_read_188 ?_
              refine v_aload_n (i := 0) dX12_read_191 rfl rfl ?_
              refine g_X12_215 rfl sh_226 (by exact ltG hG (by decide)) dX12_read_192 ?_
              refine v_if_le 203 dX12_read_195 (by decide) (fun c47 => ?_) (fun c47 => ?_)
              · rw [if_pos c47] at hF
                refine v_aload_n (i := 0) dX12_read_203 rfl rfl ?_
                refine g_X12_224 rfl sh_226 (by exact ltG hG (by decide)) dX12_read_204 ?_
                refine v_if_le 215 dX12_read_207 (by decide) (fun c48 => ?_) (fun c48 => ?_)
                · rw [if_pos c48] at hF
                  refine v_aload_n (i := 0) dX12_read_215 rfl rfl ?_
                  refine v_aload_n (i := 0) dX12_read_216 rfl rfl ?_
                  refine g_X12_248 rfl sh_226 (by exact ltG hG (by decide)) dX12_read_217 ?_
                  refine p_X12_245 rfl sh_226 (by exact ltG hG (by decide)) dX12_read_220 ?_
                  refine v_aload_n (i := 0) dX12_read_223 rfl rfl ?_
                  obtain ⟨q49, q49_e, hF⟩ := Option.bind_eq_some_iff.mp hF
                  refine c_X12_172 rfl sh_226 (by exact ltG hG (by decide)) (Nat.le_of_ble_eq_true rfl) dX12_read_224 (s_X12_begins _ q49_e hG) (fun r1 h1 hq => ?_)
                  obtain ⟨rfl, hq, hG⟩ := hq
                  replace hq := hq.symm
                  subst hq
                  simp only [Option.toList, List.nil_append]
                  refine v_aload_n (i := 0) dX12_read_227 rfl rfl ?_
                  obtain ⟨q51, q51_e, hF⟩ := Option.bind_eq_some_iff.mp hF
                  refine c_X12_175 rfl sh_226 (by exact ltG hG (by decide)) (Nat.le_of_ble_eq_true rfl) dX12_read_228 (s_X12_keepsRow _ q51_e hG) (fun r1 h1 hq => ?_)
                  obtain ⟨rfl, hq, hG⟩ := hq
                  replace hq := hq.symm
                  subst hq
                  simp only [Option.toList, List.nil_append]
                  refine v_aload_n (i := 0) dX12_read_231 rfl rfl ?_
                  refine v_iconst (v := 0) dX12_read_232 (by decide) ?_
                  refine p_X12_271 rfl sh_226 (by exact ltG hG (by decide)) dX12_read_233 ?_
                  refine v_aload_n (i := 0) dX12_read_236 rfl rfl ?_
                  refine v_iconst (v := 0) dX12_read_237 (by decide) ?_
                  refine p_X12_274 rfl sh_226 (by exact ltG hG (by decide)) dX12_read_238 ?_
                  refine v_iconst (v := 0) dX12_read_241 (by decide) ?_
                  refine v_istore_n (i := 1) dX12_read_242 rfl (by decide) (nlT rfl) ?_
                  simp only [List.set_cons_zero, List.set_cons_succ]
                  refine V.weak (la2 := [some (.ref 226), some (.int 0)]) (by simp [wk]) ?_
                  exact (s_X12_read_IH_243) _ _ _ _ hF hG
                · rw [if_neg c48] at hF
                  refine v_aload_n (i := 0) dX12_read_210 rfl rfl ?_
                  refine g_X12_224 rfl sh_226 (by exact ltG hG (by decide)) dX12_read_211 ?_
                  refine v_ireturn rfl dX12_read_214 ?_
                  obtain ⟨rfl, rfl⟩ := Prod.mk.inj (Option.some.inj hF)
                  exact ⟨rfl, rfl, hG⟩
              · rw [if_neg c47] at hF
                refine v_aload_n (i := 0) dX12_read_198 rfl rfl ?_
                refine g_X12_215 rfl sh_226 (by exact ltG hG (by decide)) dX12_read_199 ?_
                refine v_ireturn rfl dX12_read_202 ?_
                obtain ⟨rfl, rfl⟩ := Prod.mk.inj (Option.some.inj hF)
                exact ⟨rfl, rfl, hG⟩
          · rw [if_neg c32] at hF
            refine v_aload_n (i := 0) dX12_read_148 rfl rfl ?_
            refine v_bipush (v := 6) dX12_read_149 (by decide) ?_
            refine v_aload_n (i := 0) dX12_read_151 rfl rfl ?_
            refine g_X12_218 rfl sh_226 (by exact ltG hG (by decide)) dX12_read_152 ?_
            obtain ⟨q53, q53_e, hF⟩ := Option.bind_eq_some_iff.mp hF
            refine c_X12_267 rfl sh_226 (by exact ltG hG (by decide)) (Nat.le_of_ble_eq_true rfl) dX12_read_155 (s_X12_wrong _ q53_e hG) (fun r1 h1 hq => ?_)
            obtain ⟨rfl, hq, hG⟩ := hq
            replace hq := hq.symm
            subst hq
            simp only [Option.toList, List.nil_append]
            refine v_aload_n (i := 0) dX12_read_158 rfl rfl ?_
            refine v_aload_n (i := 0) dX12_read_159 rfl rfl ?_
            refine g_X12_215 rfl sh_226 (by exact ltG hG (by decide)) dX12_read_160 ?_
            refine v_if_le 173 dX12_read_163 (by decide) (fun c55 => ?_) (fun c55 => ?_)
            · rw [if_pos c55] at hF
              refine v_aload_n (i := 0) dX12_read_173 rfl rfl ?_
              refine g_X12_224 rfl sh_226 (by exact ltG hG (by decide)) dX12_read_174 ?_
              refine v_if_le 187 dX12_read_177 (by decide) (fun c56 => ?_) (fun c56 => ?_)
              · rw [if_pos c56] at hF
                refine v_iconst (v := (-1)) dX12_read_187 (by decide) ?_
                refine p_X12_37 rfl sh_226 (by exact ltG hG (by decide)) dX12_read_188 ?_
                refine v_aload_n (i := 0) dX12_read_191 rfl rfl ?_
                refine g_X12_215 rfl sh_226 (by exact ltG hG (by decide)) dX12_read_192 ?_
                refine v_if_le 203 dX12_read_195 (by decide) (fun c57 => ?_) (fun c57 => ?_)
                · rw [if_pos c57] at hF
                  refine v_aload_n (i := 0) dX12_read_203 rfl rfl ?_
                  refine g_X12_224 rfl sh_226 (by exact ltG hG (by decide)) dX12_read_204 ?_
                  refine v_if_le 215 dX12_read_207 (by decide) (fun c58 => ?_) (fun c58 => ?_)
                  · rw [if_pos c58] at hF
                    refine v_aload_n (i := 0) dX12_read_215 rfl rfl ?_
                    refine v_aload_n (i := 0) dX12_read_216 rfl rfl ?_
                    refine g_X12_248 rfl sh_226 (by exact ltG hG (by decide)) dX12_read_217 ?_
                    refine p_X12_245 rfl sh_226 (by exact ltG hG (by decide)) dX12_read_220 ?_
                    refine v_aload_n (i := 0) dX12_read_223 rfl rfl ?_
                    obtain ⟨q59, q59_e, hF⟩ := Option.bind_eq_some_iff.mp hF
                    refine c_X12_172 rfl sh_226 (by exact ltG hG (by decide)) (Nat.le_of_ble_eq_true rfl) dX12_read_224 (s_X12_begins _ q59_e hG) (fun r1 h1 hq => ?_)
                    obtain ⟨rfl, hq, hG⟩ := hq
                    replace hq := hq.symm
                    subst hq
                    simp only [Option.toList, List.nil_append]
                    refine v_aload_n (i := 0) dX12_read_227 rfl rfl ?_
                    obtain ⟨q61, q61_e, hF⟩ := Option.bind_eq_some_iff.mp hF
                    refine c_X12_175 rfl sh_226 (by exact ltG hG (by decide)) (Nat.le_of_ble_eq_true rfl) dX12_read_228 (s_X12_keepsRow _ q61_e hG) (fun r1 h1 hq => ?_)
                    obtain ⟨rfl, hq, hG⟩ := hq
                    replace hq := hq.symm
                    subst hq
                    simp only [Option.toList, List.nil_append]
                    refine v_aload_n (i := 0) dX12_read_231 rfl rfl ?_
                    refine v_iconst (v := 0) dX12_read_232 (by decide) ?_
                    refine p_X12_271 rfl sh_226 (by exact ltG hG (by decide)) dX12_read_233 ?_
                    refine v_aload_n (i := 0) dX12_read_236 rfl rfl ?_
                    refine v_iconst (v := 0) dX12_read_237 (by decide) ?_
                    refine p_X12_274 rfl sh_226 (by exact ltG hG (by decide)) dX12_read_238 ?_
                    refine v_iconst (v := 0) dX12_read_241 (by decide) ?_
                    refine v_istore_n (i := 1) dX12_read_242 rfl (by decide) (nlT rfl) ?_
                    simp only [List.set_cons_zero, List.set_cons_succ]
                    refine V.weak (la2 := [some (.ref 226), some (.int 0)]) (by simp [wk]) ?_
                    exact (s_X12_read_IH_243) _ _ _ _ hF hG
                  · rw [if_neg c58] at hF
                    refine v_aload_n (i := 0) dX12_read_210 rfl rfl ?_
                    refine g_X12_224 rfl sh_226 (by exact ltG hG (by decide)) dX12_read_211 ?_
                    refine v_ireturn rfl dX12_read_214 ?_
                    obtain ⟨rfl, rfl⟩ := Prod.mk.inj (Option.some.inj hF)
                    exact ⟨rfl, rfl, hG⟩
                · rw [if_neg c57] at hF
                  refine v_aload_n (i := 0) dX12_read_198 rfl rfl ?_
                  refine g_X12_215 rfl sh_226 (by exact ltG hG (by decide)) dX12_read_199 ?_
                  refine v_ireturn rfl dX12_read_202 ?_
                  obtain ⟨rfl, rfl⟩ := Prod.mk.inj (Option.some.inj hF)
                  exact ⟨rfl, rfl, hG⟩
              · rw [if_neg c56] at hF
                refine v_aload_n (i := 0) dX12_read_180 rfl rfl ?_
                refine g_X12_227 rfl sh_226 (by exact ltG hG (by decide)) dX12_read_181 ?_
                refine v_goto 188 dX12_read_184 (by decide) ?_
                refine p_X12_37 rfl sh_226 (by exact ltG hG (by decide)) dX12_read_188 ?_
                refine v_aload_n (i := 0) dX12_read_191 rfl rfl ?_
                refine g_X12_215 rfl sh_226 (by exact ltG hG (by decide)) dX12_read_192 ?_
                refine v_if_le 203 dX12_read_195 (by decide) (fun c63 => ?_) (fun c63 => ?_)
                · rw [if_pos c63] at hF
                  refine v_aload_n (i := 0) dX12_read_203 rfl rfl ?_
                  refine g_X12_224 rfl sh_226 (by exact ltG hG (by decide)) dX12_read_204 ?_
                  refine v_if_le 215 dX12_read_207 (by decide) (fun c64 => ?_) (fun c64 => ?_)
                  · rw [if_pos c64] at hF
                    refine v_aload_n (i := 0) dX12_read_215 rfl rfl ?_
                    refine v_aload_n (i := 0) dX12_read_216 rfl rfl ?_
                    refine g_X12_248 rfl sh_226 (by exact ltG hG (by decide)) dX12_read_217 ?_
                    refine p_X12_245 rfl sh_226 (by exact ltG hG (by decide)) dX12_read_220 ?_
                    refine v_aload_n (i := 0) dX12_read_223 rfl rfl ?_
                    obtain ⟨q65, q65_e, hF⟩ := Option.bind_eq_some_iff.mp hF
                    refine c_X12_172 rfl sh_226 (by exact ltG hG (by decide)) (Nat.le_of_ble_eq_true rfl) dX12_read_224 (s_X12_begins _ q65_e hG) (fun r1 h1 hq => ?_)
                    obtain ⟨rfl, hq, hG⟩ := hq
                    replace hq := hq.symm
                    subst hq
                    simp only [Option.toList, List.nil_append]
                    refine v_aload_n (i := 0) dX12_read_227 rfl rfl ?_
                    obtain ⟨q67, q67_e, hF⟩ := Option.bind_eq_some_iff.mp hF
                    refine c_X12_175 rfl sh_226 (by exact ltG hG (by decide)) (Nat.le_of_ble_eq_true rfl) dX12_read_228 (s_X12_keepsRow _ q67_e hG) (fun r1 h1 hq => ?_)
                    obtain ⟨rfl, hq, hG⟩ := hq
                    replace hq := hq.symm
                    subst hq
                    simp only [Option.toList, List.nil_append]
                    refine v_aload_n (i := 0) dX12_read_231 rfl rfl ?_
                    refine v_iconst (v := 0) dX12_read_232 (by decide) ?_
                    refine p_X12_271 rfl sh_226 (by exact ltG hG (by decide)) dX12_read_233 ?_
                    refine v_aload_n (i := 0) dX12_read_236 rfl rfl ?_
                    refine v_iconst (v := 0) dX12_read_237 (by decide) ?_
                    refine p_X12_274 rfl sh_226 (by exact ltG hG (by decide)) dX12_read_238 ?_
                    refine v_iconst (v := 0) dX12_read_241 (by decide) ?_
                    refine v_istore_n (i := 1) dX12_read_242 rfl (by decide) (nlT rfl) ?_
                    simp only [List.set_cons_zero, List.set_cons_succ]
                    refine V.weak (la2 := [some (.ref 226), some (.int 0)]) (by simp [wk]) ?_
                    exact (s_X12_read_IH_243) _ _ _ _ hF hG
                  · rw [if_neg c64] at hF
                    refine v_aload_n (i := 0) dX12_read_210 rfl rfl ?_
                    refine g_X12_224 rfl sh_226 (by exact ltG hG (by decide)) dX12_read_211 ?_
                    refine v_ireturn rfl dX12_read_214 ?_
                    obtain ⟨rfl, rfl⟩ := Prod.mk.inj (Option.some.inj hF)
                    exact ⟨rfl, rfl, hG⟩
                · rw [if_neg c63] at hF
                  refine v_aload_n (i := 0) dX12_read_198 rfl rfl ?_
                  refine g_X12_215 rfl sh_226 (by exact ltG hG (by decide)) dX12_read_199 ?_
                  refine v_ireturn rfl dX12_read_202 ?_
                  obtain ⟨rfl, rfl⟩ := Prod.mk.inj (Option.some.inj hF)
                  exact ⟨rfl, rfl, hG⟩
            · rw [if_neg c55] at hF
              refine v_aload_n (i := 0) dX12_read_166 rfl rfl ?_
              refine g_X12_221 rfl sh_226 (by exact ltG hG (by decide)) dX12_read_167 ?_
              refine v_goto 188 dX12_read_170 (by decide) ?_
              refine p_X12_37 rfl sh_226 (by exact ltG hG (by decide)) dX12_read_188 ?_
              refine v_aload_n (i := 0) dX12_read_191 rfl rfl ?_
              refine g_X12_215 rfl sh_226 (by exact ltG hG (by decide)) dX12_read_192 ?_
              refine v_if_le 203 dX12_read_195 (by decide) (fun c69 => ?_) (fun c69 => ?_)
              · rw [if_pos c69] at hF
                refine v_aload_n (i := 0) dX12_read_203 rfl rfl ?_
                refine g_X12_224 rfl sh_226 (by exact ltG hG (by decide)) dX12_read_204 ?_
                refine v_if_le 215 dX12_read_207 (by decide) (fun c70 => ?_) (fun c70 => ?_)
                · rw [if_pos c70] at hF
                  refine v_aload_n (i := 0) dX12_read_215 rfl rfl ?_
                  refine v_aload_n (i := 0) dX12_read_216 rfl rfl ?_
                  refine g_X12_248 rfl sh_226 (by exact ltG hG (by decide)) dX12_read_217 ?_
                  refine p_X12_245 rfl sh_226 (by exact ltG hG (by decide)) dX12_read_220 ?_
                  refine v_aload_n (i := 0) dX12_read_223 rfl rfl ?_
                  obtain ⟨q71, q71_e, hF⟩ := Option.bind_eq_some_iff.mp hF
                  refine c_X12_172 rfl sh_226 (by exact ltG hG (by decide)) (Nat.le_of_ble_eq_true rfl) dX12_read_224 (s_X12_begins _ q71_e hG) (fun r1 h1 hq => ?_)
                  obtain ⟨rfl, hq, hG⟩ := hq
                  replace hq := hq.symm
                  subst hq
                  simp only [Option.toList, List.nil_append]
                  refine v_aload_n (i := 0) dX12_read_227 rfl rfl ?_
                  obtain ⟨q73, q73_e, hF⟩ := Option.bind_eq_some_iff.mp hF
                  refine c_X12_175 rfl sh_226 (by exact ltG hG (by decide)) (Nat.le_of_ble_eq_true rfl) dX12_read_228 (s_X12_keepsRow _ q73_e hG) (fun r1 h1 hq => ?_)
                  obtain ⟨rfl, hq, hG⟩ := hq
                  replace hq := hq.symm
                  subst hq
                  simp only [Option.toList, List.nil_append]
                  refine v_aload_n (i := 0) dX12_read_231 rfl rfl ?_
                  refine v_iconst (v := 0) dX12_read_232 (by decide) ?_
                  refine p_X12_271 rfl sh_226 (by exact ltG hG (by decide)) dX12_read_233 ?_
                  refine v_aload_n (i := 0) dX12_read_236 rfl rfl ?_
                  refine v_iconst (v := 0) dX12_read_237 (by decide) ?_
                  refine p_X12_274 rfl sh_226 (by exact ltG hG (by decide)) dX12_read_238 ?_
                  refine v_iconst (v := 0) dX12_read_241 (by decide) ?_
                  refine v_istore_n (i := 1) dX12_read_242 rfl (by decide) (nlT rfl) ?_
                  simp only [List.set_cons_zero, List.set_cons_succ]
                  refine V.weak (la2 := [some (.ref 226), some (.int 0)]) (by simp [wk]) ?_
                  exact (s_X12_read_IH_243) _ _ _ _ hF hG
                · rw [if_neg c70] at hF
                  refine v_aload_n (i := 0) dX12_read_210 rfl rfl ?_
                  refine g_X12_224 rfl sh_226 (by exact ltG hG (by decide)) dX12_read_211 ?_
                  refine v_ireturn rfl dX12_read_214 ?_
                  obtain ⟨rfl, rfl⟩ := Prod.mk.inj (Option.some.inj hF)
                  exact ⟨rfl, rfl, hG⟩
              · rw [if_neg c69] at hF
                refine v_aload_n (i := 0) dX12_read_198 rfl rfl ?_
                refine g_X12_215 rfl sh_226 (by exact ltG hG (by decide)) dX12_read_199 ?_
                refine v_ireturn rfl dX12_read_202 ?_
                obtain ⟨rfl, rfl⟩ := Prod.mk.inj (Option.some.inj hF)
                exact ⟨rfl, rfl, hG⟩
      · rw [if_pos c8] at hF
        refine v_aload_n (i := 0) dX12_read_119 rfl rfl ?_
        refine v_iconst (v := 0) dX12_read_120 (by decide) ?_
        obtain ⟨q75, q75_e, hF⟩ := Option.bind_eq_some_iff.mp hF
        refine c_X12_233 rfl sh_226 (by exact ltG hG (by decide)) (Nat.le_of_ble_eq_true rfl) dX12_read_121 (s_X12_is _ q75_e hG) (fun r1 h1 hq => ?_)
        obtain ⟨rfl, hq, hG⟩ := hq
        replace hq := hq.symm
        subst hq
        show V _ _ _ _ (_ :: _) _ _
        refine v_if_ne 134 dX12_read_124 (by decide) (fun c77 => ?_) (fun c77 => ?_)
        · rw [if_neg c77] at hF
          refine v_aload_n (i := 0) dX12_read_134 rfl rfl ?_
          refine g_X12_215 rfl sh_226 (by exact ltG hG (by decide)) dX12_read_135 ?_
          refine v_if_ne 158 dX12_read_138 (by decide) (fun c78 => ?_) (fun c78 => ?_)
          · rw [if_neg c78] at hF
            refine v_aload_n (i := 0) dX12_read_158 rfl rfl ?_
            refine v_aload_n (i := 0) dX12_read_159 rfl rfl ?_
            refine g_X12_215 rfl sh_226 (by exact ltG hG (by decide)) dX12_read_160 ?_
            refine v_if_le 173 dX12_read_163 (by decide) (fun c79 => ?_) (fun c79 => ?_)
            · rw [if_pos c79] at hF
              refine v_aload_n (i := 0) dX12_read_173 rfl rfl ?_
              refine g_X12_224 rfl sh_226 (by exact ltG hG (by decide)) dX12_read_174 ?_
              refine v_if_le 187 dX12_read_177 (by decide) (fun c80 => ?_) (fun c80 => ?_)
              · rw [if_pos c80] at hF
                refine v_iconst (v := (-1)) dX12_read_187 (by decide) ?_
                refine p_X12_37 rfl sh_226 (by exact ltG hG (by decide)) dX12_read_188 ?_
                refine v_aload_n (i := 0) dX12_read_191 rfl rfl ?_
                refine g_X12_215 rfl sh_226 (by exact ltG hG (by decide)) dX12_read_192 ?_
                refine v_if_le 203 dX12_read_195 (by decide) (fun c81 => ?_) (fun c81 => ?_)
                · rw [if_pos c81] at hF
                  refine v_aload_n (i := 0) dX12_read_203 rfl rfl ?_
                  refine g_X12_224 rfl sh_226 (by exact ltG hG (by decide)) dX12_read_204 ?_
                  refine v_if_le 215 dX12_read_207 (by decide) (fun c82 => ?_) (fun c82 => ?_)
                  · rw [if_pos c82] at hF
                    refine v_aload_n (i := 0) dX12_read_215 rfl rfl ?_
                    refine v_aload_n (i := 0) dX12_read_216 rfl rfl ?_
                    refine g_X12_248 rfl sh_226 (by exact ltG hG (by decide)) dX12_read_217 ?_
                    refine p_X12_245 rfl sh_226 (by exact ltG hG (by decide)) dX12_read_220 ?_
                    refine v_aload_n (i := 0) dX12_read_223 rfl rfl ?_
                    obtain ⟨q83, q83_e, hF⟩ := Option.bind_eq_some_iff.mp hF
                    refine c_X12_172 rfl sh_226 (by exact ltG hG (by decide)) (Nat.le_of_ble_eq_true rfl) dX12_read_224 (s_X12_begins _ q83_e hG) (fun r1 h1 hq => ?_)
                    obtain ⟨rfl, hq, hG⟩ := hq
                    replace hq := hq.symm
                    subst hq
                    simp only [Option.toList, List.nil_append]
                    refine v_aload_n (i := 0) dX12_read_227 rfl rfl ?_
                    obtain ⟨q85, q85_e, hF⟩ := Option.bind_eq_some_iff.mp hF
                    refine c_X12_175 rfl sh_226 (by exact ltG hG (by decide)) (Nat.le_of_ble_eq_true rfl) dX12_read_228 (s_X12_keepsRow _ q85_e hG) (fun r1 h1 hq => ?_)
                    obtain ⟨rfl, hq, hG⟩ := hq
                    replace hq := hq.symm
                    subst hq
                    simp only [Option.toList, List.nil_append]
                    refine v_aload_n (i := 0) dX12_read_231 rfl rfl ?_
                    refine v_iconst (v := 0) dX12_read_232 (by decide) ?_
                    refine p_X12_271 rfl sh_226 (by exact ltG hG (by decide)) dX12_read_233 ?_
                    refine v_aload_n (i := 0) dX12_read_236 rfl rfl ?_
                    refine v_iconst (v := 0) dX12_read_237 (by decide) ?_
                    refine p_X12_274 rfl sh_226 (by exact ltG hG (by decide)) dX12_read_238 ?_
                    refine v_iconst (v := 0) dX12_read_241 (by decide) ?_
                    refine v_istore_n (i := 1) dX12_read_242 rfl (by decide) (nlT rfl) ?_
                    simp only [List.set_cons_zero, List.set_cons_succ]
                    refine V.weak (la2 := [some (.ref 226), some (.int 0)]) (by simp [wk]) ?_
                    exact (s_X12_read_IH_243) _ _ _ _ hF hG
                  · rw [if_neg c82] at hF
                    refine v_aload_n (i := 0) dX12_read_210 rfl rfl ?_
                    refine g_X12_224 rfl sh_226 (by exact ltG hG (by decide)) dX12_read_211 ?_
                    refine v_ireturn rfl dX12_read_214 ?_
                    obtain ⟨rfl, rfl⟩ := Prod.mk.inj (Option.some.inj hF)
                    exact ⟨rfl, rfl, hG⟩
                · rw [if_neg c81] at hF
                  refine v_aload_n (i := 0) dX12_read_198 rfl rfl ?_
                  refine g_X12_215 rfl sh_226 (by exact ltG hG (by decide)) dX12_read_199 ?_
                  refine v_ireturn rfl dX12_read_202 ?_
                  obtain ⟨rfl, rfl⟩ := Prod.mk.inj (Option.some.inj hF)
                  exact ⟨rfl, rfl, hG⟩
              · rw [if_neg c80] at hF
                refine v_aload_n (i := 0) dX12_read_180 rfl rfl ?_
                refine g_X12_227 rfl sh_226 (by exact ltG hG (by decide)) dX12_read_181 ?_
                refine v_goto 188 dX12_read_184 (by decide) ?_
                refine p_X12_37 rfl sh_226 (by exact ltG hG (by decide)) dX12_read_188 ?_
                refine v_aload_n (i := 0) dX12_read_191 rfl rfl ?_
                refine g_X12_215 rfl sh_226 (by exact ltG hG (by decide)) dX12_read_192 ?_
                refine v_if_le 203 dX12_read_195 (by decide) (fun c87 => ?_) (fun c87 => ?_)
                · rw [if_pos c87] at hF
                  refine v_aload_n (i := 0) dX12_read_203 rfl rfl ?_
                  refine g_X12_224 rfl sh_226 (by exact ltG hG (by decide)) dX12_read_204 ?_
                  refine v_if_le 215 dX12_read_207 (by decide) (fun c88 => ?_) (fun c88 => ?_)
                  · rw [if_pos c88] at hF
                    refine v_aload_n (i := 0) dX12_read_215 rfl rfl ?_
                    refine v_aload_n (i := 0) dX12_read_216 rfl rfl ?_
                    refine g_X12_248 rfl sh_226 (by exact ltG hG (by decide)) dX12_read_217 ?_
                    refine p_X12_245 rfl sh_226 (by exact ltG hG (by decide)) dX12_read_220 ?_
                    refine v_aload_n (i := 0) dX12_read_223 rfl rfl ?_
                    obtain ⟨q89, q89_e, hF⟩ := Option.bind_eq_some_iff.mp hF
                    refine c_X12_172 rfl sh_226 (by exact ltG hG (by decide)) (Nat.le_of_ble_eq_true rfl) dX12_read_224 (s_X12_begins _ q89_e hG) (fun r1 h1 hq => ?_)
                    obtain ⟨rfl, hq, hG⟩ := hq
                    replace hq := hq.symm
                    subst hq
                    simp only [Option.toList, List.nil_append]
                    refine v_aload_n (i := 0) dX12_read_227 rfl rfl ?_
                    obtain ⟨q91, q91_e, hF⟩ := Option.bind_eq_some_iff.mp hF
                    refine c_X12_175 rfl sh_226 (by exact ltG hG (by decide)) (Nat.le_of_ble_eq_true rfl) dX12_read_228 (s_X12_keepsRow _ q91_e hG) (fun r1 h1 hq => ?_)
                    obtain ⟨rfl, hq, hG⟩ := hq
                    replace hq := hq.symm
                    subst hq
                    simp only [Option.toList, List.nil_append]
                    refine v_aload_n (i := 0) dX12_read_231 rfl rfl ?_
                    refine v_iconst (v := 0) dX12_read_232 (by decide) ?_
                    refine p_X12_271 rfl sh_226 (by exact ltG hG (by decide)) dX12_read_233 ?_
                    refine v_aload_n (i := 0) dX12_read_236 rfl rfl ?_
                    refine v_iconst (v := 0) dX12_read_237 (by decide) ?_
                    refine p_X12_274 rfl sh_226 (by exact ltG hG (by decide)) dX12_read_238 ?_
                    refine v_iconst (v := 0) dX12_read_241 (by decide) ?_
                    refine v_istore_n (i := 1) dX12_read_242 rfl (by decide) (nlT rfl) ?_
                    simp only [List.set_cons_zero, List.set_cons_succ]
                    refine V.weak (la2 := [some (.ref 226), some (.int 0)]) (by simp [wk]) ?_
                    exact (s_X12_read_IH_243) _ _ _ _ hF hG
                  · rw [if_neg c88] at hF
                    refine v_aload_n (i := 0) dX12_read_210 rfl rfl ?_
                    refine g_X12_224 rfl sh_226 (by exact ltG hG (by decide)) dX12_read_211 ?_
                    refine v_ireturn rfl dX12_read_214 ?_
                    obtain ⟨rfl, rfl⟩ := Prod.mk.inj (Option.some.inj hF)
                    exact ⟨rfl, rfl, hG⟩
                · rw [if_neg c87] at hF
                  refine v_aload_n (i := 0) dX12_read_198 rfl rfl ?_
                  refine g_X12_215 rfl sh_226 (by exact ltG hG (by decide)) dX12_read_199 ?_
                  refine v_ireturn rfl dX12_read_202 ?_
                  obtain ⟨rfl, rfl⟩ := Prod.mk.inj (Option.some.inj hF)
                  exact ⟨rfl, rfl, hG⟩
            · rw [if_neg c79] at hF
              refine v_aload_n (i := 0) dX12_read_166 rfl rfl ?_
              refine g_X12_221 rfl sh_226 (by exact ltG hG (by decide)) dX12_read_167 ?_
              refine v_goto 188 dX12_read_170 (by decide) ?_
              refine p_X12_37 rfl sh_226 (by exact ltG hG (by decide)) dX12_read_188 ?_
              refine v_aload_n (i := 0) dX12_read_191 rfl rfl ?_
              refine g_X12_215 rfl sh_226 (by exact ltG hG (by decide)) dX12_read_192 ?_
              refine v_if_le 203 dX12_read_195 (by decide) (fun c93 => ?_) (fun c93 => ?_)
              · rw [if_pos c93] at hF
                refine v_aload_n (i := 0) dX12_read_203 rfl rfl ?_
                refine g_X12_224 rfl sh_226 (by exact ltG hG (by decide)) dX12_read_204 ?_
                refine v_if_le 215 dX12_read_207 (by decide) (fun c94 => ?_) (fun c94 => ?_)
                · rw [if_pos c94] at hF
                  refine v_aload_n (i := 0) dX12_read_215 rfl rfl ?_
                  refine v_aload_n (i := 0) dX12_read_216 rfl rfl ?_
                  refine g_X12_248 rfl sh_226 (by exact ltG hG (by decide)) dX12_read_217 ?_
                  refine p_X12_245 rfl sh_226 (by exact ltG hG (by decide)) dX12_read_220 ?_
                  refine v_aload_n (i := 0) dX12_read_223 rfl rfl ?_
                  obtain ⟨q95, q95_e, hF⟩ := Option.bind_eq_some_iff.mp hF
                  refine c_X12_172 rfl sh_226 (by exact ltG hG (by decide)) (Nat.le_of_ble_eq_true rfl) dX12_read_224 (s_X12_begins _ q95_e hG) (fun r1 h1 hq => ?_)
                  obtain ⟨rfl, hq, hG⟩ := hq
                  replace hq := hq.symm
                  subst hq
                  simp only [Option.toList, List.nil_append]
                  refine v_aload_n (i := 0) dX12_read_227 rfl rfl ?_
                  obtain ⟨q97, q97_e, hF⟩ := Option.bind_eq_some_iff.mp hF
                  refine c_X12_175 rfl sh_226 (by exact ltG hG (by decide)) (Nat.le_of_ble_eq_true rfl) dX12_read_228 (s_X12_keepsRow _ q97_e hG) (fun r1 h1 hq => ?_)
                  obtain ⟨rfl, hq, hG⟩ := hq
                  replace hq := hq.symm
                  subst hq
                  simp only [Option.toList, List.nil_append]
                  refine v_aload_n (i := 0) dX12_read_231 rfl rfl ?_
                  refine v_iconst (v := 0) dX12_read_232 (by decide) ?_
                  refine p_X12_271 rfl sh_226 (by exact ltG hG (by decide)) dX12_read_233 ?_
                  refine v_aload_n (i := 0) dX12_read_236 rfl rfl ?_
                  refine v_iconst (v := 0) dX12_read_237 (by decide) ?_
                  refine p_X12_274 rfl sh_226 (by exact ltG hG (by decide)) dX12_read_238 ?_
                  refine v_iconst (v := 0) dX12_read_241 (by decide) ?_
                  refine v_istore_n (i := 1) dX12_read_242 rfl (by decide) (nlT rfl) ?_
                  simp only [List.set_cons_zero, List.set_cons_succ]
                  refine V.weak (la2 := [some (.ref 226), some (.int 0)]) (by simp [wk]) ?_
                  exact (s_X12_read_IH_243) _ _ _ _ hF hG
                · rw [if_neg c94] at hF
                  refine v_aload_n (i := 0) dX12_read_210 rfl rfl ?_
                  refine g_X12_224 rfl sh_226 (by exact ltG hG (by decide)) dX12_read_211 ?_
                  refine v_ireturn rfl dX12_read_214 ?_
                  obtain ⟨rfl, rfl⟩ := Prod.mk.inj (Option.some.inj hF)
                  exact ⟨rfl, rfl, hG⟩
              · rw [if_neg c93] at hF
                refine v_aload_n (i := 0) dX12_read_198 rfl rfl ?_
                refine g_X12_215 rfl sh_226 (by exact ltG hG (by decide)) dX12_read_199 ?_
                refine v_ireturn rfl dX12_read_202 ?_
                obtain ⟨rfl, rfl⟩ := Prod.mk.inj (Option.some.inj hF)
                exact ⟨rfl, rfl, hG⟩
          · rw [if_pos c78] at hF
            refine v_aload_n (i := 0) dX12_read_141 rfl rfl ?_
            obtain ⟨q99, q99_e, hF⟩ := Option.bind_eq_some_iff.mp hF
            refine c_X12_263 rfl sh_226 (by exact ltG hG (by decide)) (Nat.le_of_ble_eq_true rfl) dX12_read_142 (s_X12_isBeyond _ q99_e hG) (fun r1 h1 hq => ?_)
            obtain ⟨rfl, hq, hG⟩ := hq
            replace hq := hq.symm
            subst hq
            show V _ _ _ _ (_ :: _) _ _
            refine v_if_eq 158 dX12_read_145 (by decide) (fun c101 => ?_) (fun c101 => ?_)
            · rw [if_pos c101] at hF
              refine v_aload_n (i := 0) dX12_read_158 rfl rfl ?_
              refine v_aload_n (i := 0) dX12_read_159 rfl rfl ?_
              refine g_X12_215 rfl sh_226 (by exact ltG hG (by decide)) dX12_read_160 ?_
              refine v_if_le 173 dX12_read_163 (by decide) (fun c102 => ?_) (fun c102 => ?_)
              · rw [if_pos c102] at hF
                refine v_aload_n (i := 0) dX12_read_173 rfl rfl ?_
                refine g_X12_224 rfl sh_226 (by exact ltG hG (by decide)) dX12_read_174 ?_
                refine v_if_le 187 dX12_read_177 (by decide) (fun c103 => ?_) (fun c103 => ?_)
                · rw [if_pos c103] at hF
                  refine v_iconst (v := (-1)) dX12_read_187 (by decide) ?_
                  refine p_X12_37 rfl sh_226 (by exact ltG hG (by decide)) dX12_read_188 ?_
                  refine v_aload_n (i := 0) dX12_read_191 rfl rfl ?_
                  refine g_X12_215 rfl sh_226 (by exact ltG hG (by decide)) dX12_read_192 ?_
                  refine v_if_le 203 dX12_read_195 (by decide) (fun c104 => ?_) (fun c104 => ?_)
                  · rw [if_pos c104] at hF
                    refine v_aload_n (i := 0) dX12_read_203 rfl rfl ?_
                    refine g_X12_224 rfl sh_226 (by exact ltG hG (by decide)) dX12_read_204 ?_
                    refine v_if_le 215 dX12_read_207 (by decide) (fun c105 => ?_) (fun c105 => ?_)
                    · rw [if_pos c105] at hF
                      refine v_aload_n (i := 0) dX12_read_215 rfl rfl ?_
                      refine v_aload_n (i := 0) dX12_read_216 rfl rfl ?_
                      refine g_X12_248 rfl sh_226 (by exact ltG hG (by decide)) dX12_read_217 ?_
                      refine p_X12_245 rfl sh_226 (by exact ltG hG (by decide)) dX12_read_220 ?_
                      refine v_aload_n (i := 0) dX12_read_223 rfl rfl ?_
                      obtain ⟨q106, q106_e, hF⟩ := Option.bind_eq_some_iff.mp hF
                      refine c_X12_172 rfl sh_226 (by exact ltG hG (by decide)) (Nat.le_of_ble_eq_true rfl) dX12_read_224 (s_X12_begins _ q106_e hG) (fun r1 h1 hq => ?_)
                      obtain ⟨rfl, hq, hG⟩ := hq
                      replace hq := hq.symm
                      subst hq
                      simp only [Option.toList, List.nil_append]
                      refine v_aload_n (i := 0) dX12_read_227 rfl rfl ?_
                      obtain ⟨q108, q108_e, hF⟩ := Option.bind_eq_some_iff.mp hF
                      refine c_X12_175 rfl sh_226 (by exact ltG hG (by decide)) (Nat.le_of_ble_eq_true rfl) dX12_read_228 (s_X12_keepsRow _ q108_e hG) (fun r1 h1 hq => ?_)
                      obtain ⟨rfl, hq, hG⟩ := hq
                      replace hq := hq.symm
                      subst hq
                      simp only [Option.toList, List.nil_append]
                      refine v_aload_n (i := 0) dX12_read_231 rfl rfl ?_
                      refine v_iconst (v := 0) dX12_read_232 (by decide) ?_
                      refine p_X12_271 rfl sh_226 (by exact ltG hG (by decide)) dX12_read_233 ?_
                      refine v_aload_n (i := 0) dX12_read_236 rfl rfl ?_
                      refine v_iconst (v := 0) dX12_read_237 (by decide) ?_
                      refine p_X12_274 rfl sh_226 (by exact ltG hG (by decide)) dX12_read_238 ?_
                      refine v_iconst (v := 0) dX12_read_241 (by decide) ?_
                      refine v_istore_n (i := 1) dX12_read_242 rfl (by decide) (nlT rfl) ?_
                      simp only [List.set_cons_zero, List.set_cons_succ]
                      refine V.weak (la2 := [some (.ref 226), some (.int 0)]) (by simp [wk]) ?_
                      exact (s_X12_read_IH_243) _ _ _ _ hF hG
                    · rw [if_neg c105] at hF
                      refine v_aload_n (i := 0) dX12_read_210 rfl rfl ?_
                      refine g_X12_224 rfl sh_226 (by exact ltG hG (by decide)) dX12_read_211 ?_
                      refine v_ireturn rfl dX12_read_214 ?_
                      obtain ⟨rfl, rfl⟩ := Prod.mk.inj (Option.some.inj hF)
                      exact ⟨rfl, rfl, hG⟩
                  · rw [if_neg c104] at hF
                    refine v_aload_n (i := 0) dX12_read_198 rfl rfl ?_
                    refine g_X12_215 rfl sh_226 (by exact ltG hG (by decide)) dX12_read_199 ?_
                    refine v_ireturn rfl dX12_read_202 ?_
                    obtain ⟨rfl, rfl⟩ := Prod.mk.inj (Option.some.inj hF)
                    exact ⟨rfl, rfl, hG⟩
                · rw [if_neg c103] at hF
                  refine v_aload_n (i := 0) dX12_read_180 rfl rfl ?_
                  refine g_X12_227 rfl sh_226 (by exact ltG hG (by decide)) dX12_read_181 ?_
                  refine v_goto 188 dX12_read_184 (by decide) ?_
                  refine p_X12_37 rfl sh_226 (by exact ltG hG (by decide)) dX12_read_188 ?_
                  refine v_aload_n (i := 0) dX12_read_191 rfl rfl ?_
                  refine g_X12_215 rfl sh_226 (by exact ltG hG (by decide)) dX12_read_192 ?_
                  refine v_if_le 203 dX12_read_195 (by decide) (fun c110 => ?_) (fun c110 => ?_)
                  · rw [if_pos c110] at hF
                    refine v_aload_n (i := 0) dX12_read_203 rfl rfl ?_
                    refine g_X12_224 rfl sh_226 (by exact ltG hG (by decide)) dX12_read_204 ?_
                    refine v_if_le 215 dX12_read_207 (by decide) (fun c111 => ?_) (fun c111 => ?_)
                    · rw [if_pos c111] at hF
                      refine v_aload_n (i := 0) dX12_read_215 rfl rfl ?_
                      refine v_aload_n (i := 0) dX12_read_216 rfl rfl ?_
                      refine g_X12_248 rfl sh_226 (by exact ltG hG (by decide)) dX12_read_217 ?_
                      refine p_X12_245 rfl sh_226 (by exact ltG hG (by decide)) dX12_read_220 ?_
                      refine v_aload_n (i := 0) dX12_read_223 rfl rfl ?_
                      obtain ⟨q112, q112_e, hF⟩ := Option.bind_eq_some_iff.mp hF
                      refine c_X12_172 rfl sh_226 (by exact ltG hG (by decide)) (Nat.le_of_ble_eq_true rfl) dX12_read_224 (s_X12_begins _ q112_e hG) (fun r1 h1 hq => ?_)
                      obtain ⟨rfl, hq, hG⟩ := hq
                      replace hq := hq.symm
                      subst hq
                      simp only [Option.toList, List.nil_append]
                      refine v_aload_n (i := 0) dX12_read_227 rfl rfl ?_
                      obtain ⟨q114, q114_e, hF⟩ := Option.bind_eq_some_iff.mp hF
                      refine c_X12_175 rfl sh_226 (by exact ltG hG (by decide)) (Nat.le_of_ble_eq_true rfl) dX12_read_228 (s_X12_keepsRow _ q114_e hG) (fun r1 h1 hq => ?_)
                      obtain ⟨rfl, hq, hG⟩ := hq
                      replace hq := hq.symm
                      subst hq
                      simp only [Option.toList, List.nil_append]
                      refine v_aload_n (i := 0) dX12_read_231 rfl rfl ?_
                      refine v_iconst (v := 0) dX12_read_232 (by decide) ?_
                      refine p_X12_271 rfl sh_226 (by exact ltG hG (by decide)) dX12_read_233 ?_
                      refine v_aload_n (i := 0) dX12_read_236 rfl rfl ?_
                      refine v_iconst (v := 0) dX12_read_237 (by decide) ?_
                      refine p_X12_274 rfl sh_226 (by exact ltG hG (by decide)) dX12_read_238 ?_
                      refine v_iconst (v := 0) dX12_read_241 (by decide) ?_
                      refine v_istore_n (i := 1) dX12_read_242 rfl (by decide) (nlT rfl) ?_
                      simp only [List.set_cons_zero, List.set_cons_succ]
                      refine V.weak (la2 := [some (.ref 226), some (.int 0)]) (by simp [wk]) ?_
                      exact (s_X12_read_IH_243) _ _ _ _ hF hG
                    · rw [if_neg c111] at hF
                      refine v_aload_n (i := 0) dX12_read_210 rfl rfl ?_
                      refine g_X12_224 rfl sh_226 (by exact ltG hG (by decide)) dX12_read_211 ?_
                      refine v_ireturn rfl dX12_read_214 ?_
                      obtain ⟨rfl, rfl⟩ := Prod.mk.inj (Option.some.inj hF)
                      exact ⟨rfl, rfl, hG⟩
                  · rw [if_neg c110] at hF
                    refine v_aload_n (i := 0) dX12_read_198 rfl rfl ?_
                    refine g_X12_215 rfl sh_226 (by exact ltG hG (by decide)) dX12_read_199 ?_
                    refine v_ireturn rfl dX12_read_202 ?_
                    obtain ⟨rfl, rfl⟩ := Prod.mk.inj (Option.some.inj hF)
                    exact ⟨rfl, rfl, hG⟩
              · rw [if_neg c102] at hF
                refine v_aload_n (i := 0) dX12_read_166 rfl rfl ?_
                refine g_X12_221 rfl sh_226 (by exact ltG hG (by decide)) dX12_read_167 ?_
                refine v_goto 188 dX12_read_170 (by decide) ?_
                refine p_X12_37 rfl sh_226 (by exact ltG hG (by decide)) dX12_read_188 ?_
                refine v_aload_n (i := 0) dX12_read_191 rfl rfl ?_
                refine g_X12_215 rfl sh_226 (by exact ltG hG (by decide)) dX12_read_192 ?_
                refine v_if_le 203 dX12_read_195 (by decide) (fun c116 => ?_) (fun c116 => ?_)
                · rw [if_pos c116] at hF
                  refine v_aload_n (i := 0) dX12_read_203 rfl rfl ?_
                  refine g_X12_224 rfl sh_226 (by exact ltG hG (by decide)) dX12_read_204 ?_
                  refine v_if_le 215 dX12_read_207 (by decide) (fun c117 => ?_) (fun c117 => ?_)
                  · rw [if_pos c117] at hF
                    refine v_aload_n (i := 0) dX12_read_215 rfl rfl ?_
                    refine v_aload_n (i := 0) dX12_read_216 rfl rfl ?_
                    refine g_X12_248 rfl sh_226 (by exact ltG hG (by decide)) dX12_read_217 ?_
                    refine p_X12_245 rfl sh_226 (by exact ltG hG (by decide)) dX12_read_220 ?_
                    refine v_aload_n (i := 0) dX12_read_223 rfl rfl ?_
                    obtain ⟨q118, q118_e, hF⟩ := Option.bind_eq_some_iff.mp hF
                    refine c_X12_172 rfl sh_226 (by exact ltG hG (by decide)) (Nat.le_of_ble_eq_true rfl) dX12_read_224 (s_X12_begins _ q118_e hG) (fun r1 h1 hq => ?_)
                    obtain ⟨rfl, hq, hG⟩ := hq
                    replace hq := hq.symm
                    subst hq
                    simp only [Option.toList, List.nil_append]
                    refine v_aload_n (i := 0) dX12_read_227 rfl rfl ?_
                    obtain ⟨q120, q120_e, hF⟩ := Option.bind_eq_some_iff.mp hF
                    refine c_X12_175 rfl sh_226 (by exact ltG hG (by decide)) (Nat.le_of_ble_eq_true rfl) dX12_read_228 (s_X12_keepsRow _ q120_e hG) (fun r1 h1 hq => ?_)
                    obtain ⟨rfl, hq, hG⟩ := hq
                    replace hq := hq.symm
                    subst hq
                    simp only [Option.toList, List.nil_append]
                    refine v_aload_n (i := 0) dX12_read_231 rfl rfl ?_
                    refine v_iconst (v := 0) dX12_read_232 (by decide) ?_
                    refine p_X12_271 rfl sh_226 (by exact ltG hG (by decide)) dX12_read_233 ?_
                    refine v_aload_n (i := 0) dX12_read_236 rfl rfl ?_
                    refine v_iconst (v := 0) dX12_read_237 (by decide) ?_
                    refine p_X12_274 rfl sh_226 (by exact ltG hG (by decide)) dX12_read_238 ?_
                    refine v_iconst (v := 0) dX12_read_241 (by decide) ?_
                    refine v_istore_n (i := 1) dX12_read_242 rfl (by decide) (nlT rfl) ?_
                    simp only [List.set_cons_zero, List.set_cons_succ]
                    refine V.weak (la2 := [some (.ref 226), some (.int 0)]) (by simp [wk]) ?_
                    exact (s_X12_read_IH_243) _ _ _ _ hF hG
                  · rw [if_neg c117] at hF
                    refine v_aload_n (i := 0) dX12_read_210 rfl rfl ?_
                    refine g_X12_224 rfl sh_226 (by exact ltG hG (by decide)) dX12_read_211 ?_
                    refine v_ireturn rfl dX12_read_214 ?_
                    obtain ⟨rfl, rfl⟩ := Prod.mk.inj (Option.some.inj hF)
                    exact ⟨rfl, rfl, hG⟩
                · rw [if_neg c116] at hF
                  refine v_aload_n (i := 0) dX12_read_198 rfl rfl ?_
                  refine g_X12_215 rfl sh_226 (by exact ltG hG (by decide)) dX12_read_199 ?_
                  refine v_ireturn rfl dX12_read_202 ?_
                  obtain ⟨rfl, rfl⟩ := Prod.mk.inj (Option.some.inj hF)
                  exact ⟨rfl, rfl, hG⟩
            · rw [if_neg c101] at hF
              refine v_aload_n (i := 0) dX12_read_148 rfl rfl ?_
              refine v_bipush (v := 6) dX12_read_149 (by decide) ?_
              refine v_aload_n (i := 0) dX12_read_151 rfl rfl ?_
              refine g_X12_218 rfl sh_226 (by exact ltG hG (by decide)) dX12_read_152 ?_
              obtain ⟨q122, q122_e, hF⟩ := Option.bind_eq_some_iff.mp hF
              refine c_X12_267 rfl sh_226 (by exact ltG hG (by decide)) (Nat.le_of_ble_eq_true rfl) dX12_read_155 (s_X12_wrong _ q122_e hG) (fun r1 h1 hq => ?_)
              obtain ⟨rfl, hq, hG⟩ := hq
              replace hq := hq.symm
              subst hq
              simp only [Option.toList, List.nil_append]
              refine v_aload_n (i := 0) dX12_read_158 rfl rfl ?_
              refine v_aload_n (i := 0) dX12_read_159 rfl rfl ?_
              refine g_X12_215 rfl sh_226 (by exact ltG hG (by decide)) dX12_read_160 ?_
              refine v_if_le 173 dX12_read_163 (by decide) (fun c124 => ?_) (fun c124 => ?_)
              · rw [if_pos c124] at hF
                refine v_aload_n (i := 0) dX12_read_173 rfl rfl ?_
                refine g_X12_224 rfl sh_226 (by exact ltG hG (by decide)) dX12_read_174 ?_
                refine v_if_le 187 dX12_read_177 (by decide) (fun c125 => ?_) (fun c125 => ?_)
                · rw [if_pos c125] at hF
                  refine v_iconst (v := (-1)) dX12_read_187 (by decide) ?_
                  refine p_X12_37 rfl sh_226 (by exact ltG hG (by decide)) dX12_read_188 ?_
                  refine v_aload_n (i := 0) dX12_read_191 rfl rfl ?_
                  refine g_X12_215 rfl sh_226 (by exact ltG hG (by decide)) dX12_read_192 ?_
                  refine v_if_le 203 dX12_read_195 (by decide) (fun c126 => ?_) (fun c126 => ?_)
                  · rw [if_pos c126] at hF
                    refine v_aload_n (i := 0) dX12_read_203 rfl rfl ?_
                    refine g_X12_224 rfl sh_226 (by exact ltG hG (by decide)) dX12_read_204 ?_
                    refine v_if_le 215 dX12_read_207 (by decide) (fun c127 => ?_) (fun c127 => ?_)
                    · rw [if_pos c127] at hF
                      refine v_aload_n (i := 0) dX12_read_215 rfl rfl ?_
                      refine v_aload_n (i := 0) dX12_read_216 rfl rfl ?_
                      refine g_X12_248 rfl sh_226 (by exact ltG hG (by decide)) dX12_read_217 ?_
                      refine p_X12_245 rfl sh_226 (by exact ltG hG (by decide)) dX12_read_220 ?_
                      refine v_aload_n (i := 0) dX12_read_223 rfl rfl ?_
                      obtain ⟨q128, q128_e, hF⟩ := Option.bind_eq_some_iff.mp hF
                      refine c_X12_172 rfl sh_226 (by exact ltG hG (by decide)) (Nat.le_of_ble_eq_true rfl) dX12_read_224 (s_X12_begins _ q128_e hG) (fun r1 h1 hq => ?_)
                      obtain ⟨rfl, hq, hG⟩ := hq
                      replace hq := hq.symm
                      subst hq
                      simp only [Option.toList, List.nil_append]
                      refine v_aload_n (i := 0) dX12_read_227 rfl rfl ?_
                      obtain ⟨q130, q130_e, hF⟩ := Option.bind_eq_some_iff.mp hF
                      refine c_X12_175 rfl sh_226 (by exact ltG hG (by decide)) (Nat.le_of_ble_eq_true rfl) dX12_read_228 (s_X12_keepsRow _ q130_e hG) (fun r1 h1 hq => ?_)
                      obtain ⟨rfl, hq, hG⟩ := hq
                      replace hq := hq.symm
                      subst hq
                      simp only [Option.toList, List.nil_append]
                      refine v_aload_n (i := 0) dX12_read_231 rfl rfl ?_
                      refine v_iconst (v := 0) dX12_read_232 (by decide) ?_
                      refine p_X12_271 rfl sh_226 (by exact ltG hG (by decide)) dX12_read_233 ?_
                      refine v_aload_n (i := 0) dX12_read_236 rfl rfl ?_
                      refine v_iconst (v := 0) dX12_read_237 (by decide) ?_
                      refine p_X12_274 rfl sh_226 (by exact ltG hG (by decide)) dX12_read_238 ?_
                      refine v_iconst (v := 0) dX12_read_241 (by decide) ?_
                      refine v_istore_n (i := 1) dX12_read_242 rfl (by decide) (nlT rfl) ?_
                      simp only [List.set_cons_zero, List.set_cons_succ]
                      refine V.weak (la2 := [some (.ref 226), some (.int 0)]) (by simp [wk]) ?_
                      exact (s_X12_read_IH_243) _ _ _ _ hF hG
                    · rw [if_neg c127] at hF
                      refine v_aload_n (i := 0) dX12_read_210 rfl rfl ?_
                      refine g_X12_224 rfl sh_226 (by exact ltG hG (by decide)) dX12_read_211 ?_
                      refine v_ireturn rfl dX12_read_214 ?_
                      obtain ⟨rfl, rfl⟩ := Prod.mk.inj (Option.some.inj hF)
                      exact ⟨rfl, rfl, hG⟩
                  · rw [if_neg c126] at hF
                    refine v_aload_n (i := 0) dX12_read_198 rfl rfl ?_
                    refine g_X12_215 rfl sh_226 (by exact ltG hG (by decide)) dX12_read_199 ?_
                    refine v_ireturn rfl dX12_read_202 ?_
                    obtain ⟨rfl, rfl⟩ := Prod.mk.inj (Option.some.inj hF)
                    exact ⟨rfl, rfl, hG⟩
                · rw [if_neg c125] at hF
                  refine v_aload_n (i := 0) dX12_read_180 rfl rfl ?_
                  refine g_X12_227 rfl sh_226 (by exact ltG hG (by decide)) dX12_read_181 ?_
                  refine v_goto 188 dX12_read_184 (by decide) ?_
                  refine p_X12_37 rfl sh_226 (by exact ltG hG (by decide)) dX12_read_188 ?_
                  refine v_aload_n (i := 0) dX12_read_191 rfl rfl ?_
                  refine g_X12_215 rfl sh_226 (by exact ltG hG (by decide)) dX12_read_192 ?_
                  refine v_if_le 203 dX12_read_195 (by decide) (fun c132 => ?_) (fun c132 => ?_)
                  · rw [if_pos c132] at hF
                    refine v_aload_n (i := 0) dX12_read_203 rfl rfl ?_
                    refine g_X12_224 rfl sh_226 (by exact ltG hG (by decide)) dX12_read_204 ?_
                    refine v_if_le 215 dX12_read_207 (by decide) (fun c133 => ?_) (fun c133 => ?_)
                    · rw [if_pos c133] at hF
                      refine v_aload_n (i := 0) dX12_read_215 rfl rfl ?_
                      refine v_aload_n (i := 0) dX12_read_216 rfl rfl ?_
                      refine g_X12_248 rfl sh_226 (by exact ltG hG (by decide)) dX12_read_217 ?_
                      refine p_X12_245 rfl sh_226 (by exact ltG hG (by decide)) dX12_read_220 ?_
                      refine v_aload_n (i := 0) dX12_read_223 rfl rfl ?_
                      obtain ⟨q134, q134_e, hF⟩ := Option.bind_eq_some_iff.mp hF
                      refine c_X12_172 rfl sh_226 (by exact ltG hG (by decide)) (Nat.le_of_ble_eq_true rfl) dX12_read_224 (s_X12_begins _ q134_e hG) (fun r1 h1 hq => ?_)
                      obtain ⟨rfl, hq, hG⟩ := hq
                      replace hq := hq.symm
                      subst hq
                      simp only [Option.toList, List.nil_append]
                      refine v_aload_n (i := 0) dX12_read_227 rfl rfl ?_
                      obtain ⟨q136, q136_e, hF⟩ := Option.bind_eq_some_iff.mp hF
                      refine c_X12_175 rfl sh_226 (by exact ltG hG (by decide)) (Nat.le_of_ble_eq_true rfl) dX12_read_228 (s_X12_keepsRow _ q136_e hG) (fun r1 h1 hq => ?_)
                      obtain ⟨rfl, hq, hG⟩ := hq
                      replace hq := hq.symm
                      subst hq
                      simp only [Option.toList, List.nil_append]
                      refine v_aload_n (i := 0) dX12_read_231 rfl rfl ?_
                      refine v_iconst (v := 0) dX12_read_232 (by decide) ?_
                      refine p_X12_271 rfl sh_226 (by exact ltG hG (by decide)) dX12_read_233 ?_
                      refine v_aload_n (i := 0) dX12_read_236 rfl rfl ?_
                      refine v_iconst (v := 0) dX12_read_237 (by decide) ?_
                      refine p_X12_274 rfl sh_226 (by exact ltG hG (by decide)) dX12_read_238 ?_
                      refine v_iconst (v := 0) dX12_read_241 (by decide) ?_
                      refine v_istore_n (i := 1) dX12_read_242 rfl (by decide) (nlT rfl) ?_
                      simp only [List.set_cons_zero, List.set_cons_succ]
                      refine V.weak (la2 := [some (.ref 226), some (.int 0)]) (by simp [wk]) ?_
                      exact (s_X12_read_IH_243) _ _ _ _ hF hG
                    · rw [if_neg c133] at hF
                      refine v_aload_n (i := 0) dX12_read_210 rfl rfl ?_
                      refine g_X12_224 rfl sh_226 (by exact ltG hG (by decide)) dX12_read_211 ?_
                      refine v_ireturn rfl dX12_read_214 ?_
                      obtain ⟨rfl, rfl⟩ := Prod.mk.inj (Option.some.inj hF)
                      exact ⟨rfl, rfl, hG⟩
                  · rw [if_neg c132] at hF
                    refine v_aload_n (i := 0) dX12_read_198 rfl rfl ?_
                    refine g_X12_215 rfl sh_226 (by exact ltG hG (by decide)) dX12_read_199 ?_
                    refine v_ireturn rfl dX12_read_202 ?_
                    obtain ⟨rfl, rfl⟩ := Prod.mk.inj (Option.some.inj hF)
                    exact ⟨rfl, rfl, hG⟩
              · rw [if_neg c124] at hF
                refine v_aload_n (i := 0) dX12_read_166 rfl rfl ?_
                refine g_X12_221 rfl sh_226 (by exact ltG hG (by decide)) dX12_read_167 ?_
                refine v_goto 188 dX12_read_170 (by decide) ?_
                refine p_X12_37 rfl sh_226 (by exact ltG hG (by decide)) dX12_read_188 ?_
                refine v_aload_n (i := 0) dX12_read_191 rfl rfl ?_
                refine g_X12_215 rfl sh_226 (by exact ltG hG (by decide)) dX12_read_192 ?_
                refine v_if_le 203 dX12_read_195 (by decide) (fun c138 => ?_) (fun c138 => ?_)
                · rw [if_pos c138] at hF
                  refine v_aload_n (i := 0) dX12_read_203 rfl rfl ?_
                  refine g_X12_224 rfl sh_226 (by exact ltG hG (by decide)) dX12_read_204 ?_
                  refine v_if_le 215 dX12_read_207 (by decide) (fun c139 => ?_) (fun c139 => ?_)
                  · rw [if_pos c139] at hF
                    refine v_aload_n (i := 0) dX12_read_215 rfl rfl ?_
                    refine v_aload_n (i := 0) dX12_read_216 rfl rfl ?_
                    refine g_X12_248 rfl sh_226 (by exact ltG hG (by decide)) dX12_read_217 ?_
                    refine p_X12_245 rfl sh_226 (by exact ltG hG (by decide)) dX12_read_220 ?_
                    refine v_aload_n (i := 0) dX12_read_223 rfl rfl ?_
                    obtain ⟨q140, q140_e, hF⟩ := Option.bind_eq_some_iff.mp hF
                    refine c_X12_172 rfl sh_226 (by exact ltG hG (by decide)) (Nat.le_of_ble_eq_true rfl) dX12_read_224 (s_X12_begins _ q140_e hG) (fun r1 h1 hq => ?_)
                    obtain ⟨rfl, hq, hG⟩ := hq
                    replace hq := hq.symm
                    subst hq
                    simp only [Option.toList, List.nil_append]
                    refine v_aload_n (i := 0) dX12_read_227 rfl rfl ?_
                    obtain ⟨q142, q142_e, hF⟩ := Option.bind_eq_some_iff.mp hF
                    refine c_X12_175 rfl sh_226 (by exact ltG hG (by decide)) (Nat.le_of_ble_eq_true rfl) dX12_read_228 (s_X12_keepsRow _ q142_e hG) (fun r1 h1 hq => ?_)
                    obtain ⟨rfl, hq, hG⟩ := hq
                    replace hq := hq.symm
                    subst hq
                    simp only [Option.toList, List.nil_append]
                    refine v_aload_n (i := 0) dX12_read_231 rfl rfl ?_
                    refine v_iconst (v := 0) dX12_read_232 (by decide) ?_
                    refine p_X12_271 rfl sh_226 (by exact ltG hG (by decide)) dX12_read_233 ?_
                    refine v_aload_n (i := 0) dX12_read_236 rfl rfl ?_
                    refine v_iconst (v := 0) dX12_read_237 (by decide) ?_
                    refine p_X12_274 rfl sh_226 (by exact ltG hG (by decide)) dX12_read_238 ?_
                    refine v_iconst (v := 0) dX12_read_241 (by decide) ?_
                    refine v_istore_n (i := 1) dX12_read_242 rfl (by decide) (nlT rfl) ?_
                    simp only [List.set_cons_zero, List.set_cons_succ]
                    refine V.weak (la2 := [some (.ref 226), some (.int 0)]) (by simp [wk]) ?_
                    exact (s_X12_read_IH_243) _ _ _ _ hF hG
                  · rw [if_neg c139] at hF
                    refine v_aload_n (i := 0) dX12_read_210 rfl rfl ?_
                    refine g_X12_224 rfl sh_226 (by exact ltG hG (by decide)) dX12_read_211 ?_
                    refine v_ireturn rfl dX12_read_214 ?_
                    obtain ⟨rfl, rfl⟩ := Prod.mk.inj (Option.some.inj hF)
                    exact ⟨rfl, rfl, hG⟩
                · rw [if_neg c138] at hF
                  refine v_aload_n (i := 0) dX12_read_198 rfl rfl ?_
                  refine g_X12_215 rfl sh_226 (by exact ltG hG (by decide)) dX12_read_199 ?_
                  refine v_ireturn rfl dX12_read_202 ?_
                  obtain ⟨rfl, rfl⟩ := Prod.mk.inj (Option.some.inj hF)
                  exact ⟨rfl, rfl, hG⟩
        · rw [if_pos c77] at hF
          refine v_aload_n (i := 0) dX12_read_127 rfl rfl ?_
          obtain ⟨q144, q144_e, hF⟩ := Option.bind_eq_some_iff.mp hF
          refine c_X12_260 rfl sh_226 (by exact ltG hG (by decide)) (Nat.le_of_ble_eq_true rfl) dX12_read_128 (s_X12_tellOne _ q144_e hG) (fun r1 h1 hq => ?_)
          obtain ⟨rfl, hq, hG⟩ := hq
          replace hq := hq.symm
          subst hq
          simp only [Option.toList, List.nil_append]
          refine v_goto 112 dX12_read_131 (by decide) ?_
          refine V.weak (la2 := [some (.ref 226), some (.int l1)]) (by simp [wk]) ?_
          exact (s_X12_read_IH_112) _ _ _ _ hF hG
    · intro l1 h r h' hF hG
      unfold W_X12_read at hF
      rw [if_neg (by decide)] at hF
      rw [if_neg (by decide)] at hF
      rw [if_pos rfl] at hF
      refine v_iload_n (i := 1) dX12_read_243 rfl rfl ?_
      refine v_iconst (v := 3) dX12_read_244 (by decide) ?_
      refine v_icmp_ge 261 dX12_read_245 (by decide) (fun c146 => ?_) (fun c146 => ?_)
      · rw [if_pos c146] at hF
        refine v_iconst (v := 0) dX12_read_261 (by decide) ?_
        refine v_ireturn rfl dX12_read_262 ?_
        obtain ⟨rfl, rfl⟩ := Prod.mk.inj (Option.some.inj hF)
        exact ⟨rfl, rfl, hG⟩
      · rw [if_neg c146] at hF
        refine v_aload_n (i := 0) dX12_read_248 rfl rfl ?_
        refine g_X12_158 (q := 273) rfl sh_226 (by exact ltG hG (by decide)) (by exact rG hG r0_226_68) dX12_read_249 ?_
        refine v_iload_n (i := 1) dX12_read_252 rfl rfl ?_
        refine v_iconst (v := 0) dX12_read_253 (by decide) ?_
        obtain ⟨k147, hF⟩ := ck_some hF
        refine v_zastore sh_273 (by exact ltG hG (by decide)) (ixO k147) dX12_read_254 ?_
        refine v_iinc (i := 1) (v := (l1 + 1)) dX12_read_255 rfl rfl (by decide) (nlT rfl) ?_
        simp only [List.set_cons_zero, List.set_cons_succ]
        refine v_goto 243 dX12_read_258 (by decide) ?_
        refine V.weak (la2 := [some (.ref 226), some (.int (l1 + 1))]) (by simp [wk]) ?_
        exact (s_X12_read_IH_243) _ _ _ _ hF hG
def F_X12_read (n : Nat) (h : Hp) : Option (Int32 × Hp) := W_X12_read n 10 (wrI h 226 4 (hi h 226 2))  0
set_option maxRecDepth 100000 in
set_option maxHeartbeats 4000000 in
theorem s_X12_read (d : Nat) {n : Nat} {h : Hp}  {q0 : (Int32 × Hp)} (hF : F_X12_read n h  = some q0) (hG : G h)  : Kc mX12_read (d + 7) [.ref 226] h (fun r1 h1 => r1 = some (.int q0.1) ∧ h1 = q0.2 ∧ G q0.2) := by
  obtain ⟨r, h'⟩ := q0
  obtain ⟨s_X12_read_IH_10, s_X12_read_IH_112, s_X12_read_IH_243⟩ := sw_X12_read d   n
  unfold F_X12_read at hF
  refine Kc.of [some (.ref 226), none] ok_X12_read rfl (Nat.le_of_ble_eq_true rfl) ?_
  refine v_aload_n (i := 0) dX12_read_0 rfl rfl ?_
  refine v_aload_n (i := 0) dX12_read_1 rfl rfl ?_
  refine g_X12_178 rfl sh_226 (by exact ltG hG (by decide)) dX12_read_2 ?_
  refine p_X12_184 rfl sh_226 (by exact ltG hG (by decide)) dX12_read_5 ?_
  refine v_iconst (v := 0) dX12_read_8 (by decide) ?_
  refine v_istore_n (i := 1) dX12_read_9 rfl (by decide) (nlT rfl) ?_
  simp only [List.set_cons_zero, List.set_cons_succ]
  refine V.weak (la2 := [some (.ref 226), some (.int 0)]) (by simp [wk]) ?_
  exact (s_X12_read_IH_10) _ _ _ _ hF hG
def W_X10_lookBack : Nat → Nat → Hp → Int32 → Int32 → Int32 → Int32 → Option Hp
  | 0 => fun _ _ _ _ _ _ => none
  | n + 1 => fun hd h l1 l2 l3 l4 => (if hd = 12 then (if (l4 : Int32) < 0 then some h else (if ixOK l4 101 = true then ((F_X10_quietAt n (wrI h 206 (Int32.toNatClampNeg l4) l3) ((hi (wrI h 206 (Int32.toNatClampNeg l4) l3) 204 4) + l4) 0).bind (fun q3 => ((F_X3_grown n q3.2 24 ((l3 : Int32) &&& (q3.1 : Int32))).bind (fun q5 => W_X10_lookBack n 12 q5.2  l1 l2 q5.1 (l4 + (-1)))))) else none)) else none)
set_option maxRecDepth 100000 in
set_option maxHeartbeats 4000000 in
theorem sw_X10_lookBack (d : Nat)  (n : Nat) : (∀ (l1 : Int32) (l2 : Int32) (l3 : Int32) (l4 : Int32) (h : Hp), ∀ (h' : Hp), W_X10_lookBack n 12 h  l1 l2 l3 l4 = some h' → G h → V mX10_lookBack (d + 2) 12 [some (.ref 204), some (.int l1), some (.int l2), some (.int l3), some (.int l4)] [] h (fun r1 h1 => r1 = none ∧ h1 = h' ∧ G h')) := by
  induction n with
  | zero => exact by intros; contradiction
  | succ n ih =>
    have s_X10_lookBack_IH_12 := ih
    intro l1 l2 l3 l4 h h' hF hG
    unfold W_X10_lookBack at hF
    rw [if_pos rfl] at hF
    refine v_iload (i := 4) dX10_lookBack_12 rfl ?_
    refine v_if_lt 53 dX10_lookBack_14 (by decide) (fun c1 => ?_) (fun c1 => ?_)
    · rw [if_pos c1] at hF
      refine v_return rfl dX10_lookBack_53 ?_
      obtain rfl := Option.some.inj hF
      exact ⟨rfl, rfl, hG⟩
    · rw [if_neg c1] at hF
      refine v_aload_n (i := 0) dX10_lookBack_17 rfl rfl ?_
      refine g_X10_15 (q := 206) rfl sh_204 (by exact ltG hG (by decide)) (by exact rG hG r0_204_2) dX10_lookBack_18 ?_
      refine v_iload (i := 4) dX10_lookBack_21 rfl ?_
      refine v_iload_n (i := 3) dX10_lookBack_23 rfl rfl ?_
      obtain ⟨k2, hF⟩ := ck_some hF
      refine v_iastore sh_206 (by exact ltG hG (by decide)) (ixO k2) dX10_lookBack_24 ?_
      refine v_aload_n (i := 0) dX10_lookBack_25 rfl rfl ?_
      refine g_X10_31 (q := 24) rfl sh_204 (by exact ltG hG (by decide)) (by exact rG hG r0_204_0) dX10_lookBack_26 ?_
      refine v_iload_n (i := 3) dX10_lookBack_29 rfl rfl ?_
      refine v_aload_n (i := 0) dX10_lookBack_30 rfl rfl ?_
      refine v_aload_n (i := 0) dX10_lookBack_31 rfl rfl ?_
      refine g_X10_22 rfl sh_204 (by exact ltG hG (by decide)) dX10_lookBack_32 ?_
      refine v_iload (i := 4) dX10_lookBack_35 rfl ?_
      refine v_iadd dX10_lookBack_37 ?_
      refine v_iconst (v := 0) dX10_lookBack_38 (by decide) ?_
      obtain ⟨q3, q3_e, hF⟩ := Option.bind_eq_some_iff.mp hF
      refine c_X10_76 rfl sh_204 (by exact ltG hG (by decide)) (Nat.le_of_ble_eq_true rfl) dX10_lookBack_39 (s_X10_quietAt _ q3_e hG) (fun r1 h1 hq => ?_)
      obtain ⟨rfl, hq, hG⟩ := hq
      replace hq := hq.symm
      subst hq
      show V _ _ _ _ (_ :: _) _ _
      refine v_iand dX10_lookBack_42 ?_
      obtain ⟨q5, q5_e, hF⟩ := Option.bind_eq_some_iff.mp hF
      refine c_X10_73 rfl sh_24 (by exact ltG hG (by decide)) (Nat.le_of_ble_eq_true rfl) dX10_lookBack_43 (s_X3_grown _ q5_e hG (by first | assumption | exact sc_30 | exact sc_34 | exact sc_10 | exact fd_24 | exact fd_4 | exact lw_25 | exact lw_5 | exact bd_23 | exact bd_3 | exact ⟨by first | assumption | rfl, by first | decide | omega⟩)) (fun r1 h1 hq => ?_)
      obtain ⟨rfl, hq, hG⟩ := hq
      replace hq := hq.symm
      subst hq
      show V _ _ _ _ (_ :: _) _ _
      refine v_istore_n (i := 3) dX10_lookBack_46 rfl (by decide) (nlT rfl) ?_
      simp only [List.set_cons_zero, List.set_cons_succ]
      refine v_iinc (i := 4) (v := (l4 + (-1))) dX10_lookBack_47 rfl rfl (by decide) (nlT rfl) ?_
      simp only [List.set_cons_zero, List.set_cons_succ]
      refine v_goto 12 dX10_lookBack_50 (by decide) ?_
      refine V.weak (la2 := [some (.ref 204), some (.int l1), some (.int l2), some (.int q5.1), some (.int (l4 + (-1)))]) (by simp [wk]) ?_
      exact (s_X10_lookBack_IH_12) _ _ _ _ _ _ hF hG
def F_X10_lookBack (n : Nat) (h : Hp) (x1 : Int32) (x2 : Int32) : Option Hp := W_X10_lookBack n 12 h  x1 x2 ((1 : Int32) <<< ((x1 : Int32) &&& 31)) (if 100 < x2 then 100 else x2)
set_option maxRecDepth 100000 in
set_option maxHeartbeats 4000000 in
theorem s_X10_lookBack (d : Nat) {n : Nat} {h : Hp} {x1 : Int32} {x2 : Int32} {q0 : Hp} (hF : F_X10_lookBack n h x1 x2 = some q0) (hG : G h)  : Kc mX10_lookBack (d + 2) [.ref 204, .int x1, .int x2] h (fun r1 h1 => r1 = none ∧ h1 = q0 ∧ G q0) := by
  obtain ⟨h', rfl⟩ : ∃ z, z = q0 := ⟨_, rfl⟩
  have s_X10_lookBack_IH_12 := sw_X10_lookBack d   n
  unfold F_X10_lookBack at hF
  refine Kc.of [some (.ref 204), some (.int x1), some (.int x2), none, none] ok_X10_lookBack rfl (Nat.le_of_ble_eq_true rfl) ?_
  refine v_iconst (v := 1) dX10_lookBack_0 (by decide) ?_
  refine v_iload_n (i := 1) dX10_lookBack_1 rfl rfl ?_
  refine v_ishl dX10_lookBack_2 ?_
  refine v_istore_n (i := 3) dX10_lookBack_3 rfl (by decide) (nlT rfl) ?_
  simp only [List.set_cons_zero, List.set_cons_succ]
  refine v_iload_n (i := 2) dX10_lookBack_4 rfl rfl ?_
  refine v_bipush (v := 100) dX10_lookBack_5 (by decide) ?_
  refine v_min ml_X10_87 sm_J9_min_7cf53 in_J9 cw_J9_min_7cf53 (Nat.le_of_ble_eq_true rfl) dX10_lookBack_7 ?_
  refine v_istore (i := 4) dX10_lookBack_10 (by decide) (nlT rfl) ?_
  simp only [List.set_cons_zero, List.set_cons_succ]
  refine V.weak (la2 := [some (.ref 204), some (.int x1), some (.int x2), some (.int ((1 : Int32) <<< ((x1 : Int32) &&& 31))), some (.int (if 100 < x2 then 100 else x2))]) (by simp [wk]) ?_
  exact (s_X10_lookBack_IH_12) _ _ _ _ _ _ hF hG
def F_X10_onwards (n : Nat) (h : Hp) (x1 : Int32) (x2 : Int32) (x3 : Int32) : Option (Int32 × Hp) := ((F_X3_grown n h 24 x1).bind (fun q1 => ((F_X10_quietAt n q1.2 x2 x3).bind (fun q3 => some (((q1.1 : Int32) &&& (q3.1 : Int32)), q3.2)))))
set_option maxRecDepth 100000 in
set_option maxHeartbeats 4000000 in
theorem s_X10_onwards (d : Nat) {n : Nat} {h : Hp} {x1 : Int32} {x2 : Int32} {x3 : Int32} {q0 : (Int32 × Hp)} (hF : F_X10_onwards n h x1 x2 x3 = some q0) (hG : G h)  : Kc mX10_onwards (d + 2) [.ref 204, .int x1, .int x2, .int x3] h (fun r1 h1 => r1 = some (.int q0.1) ∧ h1 = q0.2 ∧ G q0.2) := by
  obtain ⟨r, h'⟩ := q0
  unfold F_X10_onwards at hF
  refine Kc.of [some (.ref 204), some (.int x1), some (.int x2), some (.int x3)] ok_X10_onwards rfl (Nat.le_of_ble_eq_true rfl) ?_
  refine v_aload_n (i := 0) dX10_onwards_0 rfl rfl ?_
  refine g_X10_31 (q := 24) rfl sh_204 (by exact ltG hG (by decide)) (by exact rG hG r0_204_0) dX10_onwards_1 ?_
  refine v_iload_n (i := 1) dX10_onwards_4 rfl rfl ?_
  obtain ⟨q1, q1_e, hF⟩ := Option.bind_eq_some_iff.mp hF
  refine c_X10_73 rfl sh_24 (by exact ltG hG (by decide)) (Nat.le_of_ble_eq_true rfl) dX10_onwards_5 (s_X3_grown _ q1_e hG (by first | assumption | exact sc_30 | exact sc_34 | exact sc_10 | exact fd_24 | exact fd_4 | exact lw_25 | exact lw_5 | exact bd_23 | exact bd_3 | exact ⟨by first | assumption | rfl, by first | decide | omega⟩)) (fun r1 h1 hq => ?_)
  obtain ⟨rfl, hq, hG⟩ := hq
  replace hq := hq.symm
  subst hq
  show V _ _ _ _ (_ :: _) _ _
  refine v_aload_n (i := 0) dX10_onwards_8 rfl rfl ?_
  refine v_iload_n (i := 2) dX10_onwards_9 rfl rfl ?_
  refine v_iload_n (i := 3) dX10_onwards_10 rfl rfl ?_
  obtain ⟨q3, q3_e, hF⟩ := Option.bind_eq_some_iff.mp hF
  refine c_X10_76 rfl sh_204 (by exact ltG hG (by decide)) (Nat.le_of_ble_eq_true rfl) dX10_onwards_11 (s_X10_quietAt _ q3_e hG) (fun r1 h1 hq => ?_)
  obtain ⟨rfl, hq, hG⟩ := hq
  replace hq := hq.symm
  subst hq
  show V _ _ _ _ (_ :: _) _ _
  refine v_iand dX10_onwards_14 ?_
  refine v_ireturn rfl dX10_onwards_15 ?_
  obtain ⟨rfl, rfl⟩ := Prod.mk.inj (Option.some.inj hF)
  exact ⟨rfl, rfl, hG⟩
def W_X10_cellOnWay : Nat → Nat → Hp → Int32 → Int32 → Int32 → Int32 → Int32 → Int32 → Option (Int32 × Hp)
  | 0 => fun _ _ _ _ _ _ _ _ => none
  | n + 1 => fun hd h l1 l2 l3 l4 l5 l6 => (if hd = 12 then (if (l4 : Int32) < (l6 : Int32) then some (l5, h) else (if (l3 : Int32) < (l6 : Int32) then some (l5, h) else (if (100 : Int32) < (l6 : Int32) then some (l5, h) else ((F_X10_onwards n h ((1 : Int32) <<< ((l5 : Int32) &&& 31)) ((hi h 204 4) + l6) 0).bind (fun q4 => (if ixOK l6 101 = true then ((F_X11_lowest n q4.2 ((q4.1 : Int32) &&& ((hi q4.2 206 (Int32.toNatClampNeg l6)) : Int32))).bind (fun q7 => W_X10_cellOnWay n 12 q7.2  l1 l2 l3 l4 q7.1 (l6 + 1))) else none)))))) else none)
set_option maxRecDepth 100000 in
set_option maxHeartbeats 4000000 in
theorem sw_X10_cellOnWay (d : Nat)  (n : Nat) : (∀ (l1 : Int32) (l2 : Int32) (l3 : Int32) (l4 : Int32) (l5 : Int32) (l6 : Int32) (h : Hp), ∀ (r : Int32) (h' : Hp), W_X10_cellOnWay n 12 h  l1 l2 l3 l4 l5 l6 = some (r, h') → G h → V mX10_cellOnWay (d + 3) 12 [some (.ref 204), some (.int l1), some (.int l2), some (.int l3), some (.int l4), some (.int l5), some (.int l6)] [] h (fun r1 h1 => r1 = some (.int r) ∧ h1 = h' ∧ G h')) := by
  induction n with
  | zero => exact by intros; contradiction
  | succ n ih =>
    have s_X10_cellOnWay_IH_12 := ih
    intro l1 l2 l3 l4 l5 l6 h r h' hF hG
    unfold W_X10_cellOnWay at hF
    rw [if_pos rfl] at hF
    refine v_iload (i := 6) dX10_cellOnWay_12 rfl ?_
    refine v_iload (i := 4) dX10_cellOnWay_14 rfl ?_
    refine v_icmp_gt 67 dX10_cellOnWay_16 (by decide) (fun c1 => ?_) (fun c1 => ?_)
    · rw [if_pos c1] at hF
      refine v_iload (i := 5) dX10_cellOnWay_67 rfl ?_
      refine v_ireturn rfl dX10_cellOnWay_69 ?_
      obtain ⟨rfl, rfl⟩ := Prod.mk.inj (Option.some.inj hF)
      exact ⟨rfl, rfl, hG⟩
    · rw [if_neg c1] at hF
      refine v_iload (i := 6) dX10_cellOnWay_19 rfl ?_
      refine v_iload_n (i := 3) dX10_cellOnWay_21 rfl rfl ?_
      refine v_icmp_gt 67 dX10_cellOnWay_22 (by decide) (fun c2 => ?_) (fun c2 => ?_)
      · rw [if_pos c2] at hF
        refine v_iload (i := 5) dX10_cellOnWay_67 rfl ?_
        refine v_ireturn rfl dX10_cellOnWay_69 ?_
        obtain ⟨rfl, rfl⟩ := Prod.mk.inj (Option.some.inj hF)
        exact ⟨rfl, rfl, hG⟩
      · rw [if_neg c2] at hF
        refine v_iload (i := 6) dX10_cellOnWay_25 rfl ?_
        refine v_bipush (v := 100) dX10_cellOnWay_27 (by decide) ?_
        refine v_icmp_gt 67 dX10_cellOnWay_29 (by decide) (fun c3 => ?_) (fun c3 => ?_)
        · rw [if_pos c3] at hF
          refine v_iload (i := 5) dX10_cellOnWay_67 rfl ?_
          refine v_ireturn rfl dX10_cellOnWay_69 ?_
          obtain ⟨rfl, rfl⟩ := Prod.mk.inj (Option.some.inj hF)
          exact ⟨rfl, rfl, hG⟩
        · rw [if_neg c3] at hF
          refine v_aload_n (i := 0) dX10_cellOnWay_32 rfl rfl ?_
          refine v_iconst (v := 1) dX10_cellOnWay_33 (by decide) ?_
          refine v_iload (i := 5) dX10_cellOnWay_34 rfl ?_
          refine v_ishl dX10_cellOnWay_36 ?_
          refine v_aload_n (i := 0) dX10_cellOnWay_37 rfl rfl ?_
          refine g_X10_22 rfl sh_204 (by exact ltG hG (by decide)) dX10_cellOnWay_38 ?_
          refine v_iload (i := 6) dX10_cellOnWay_41 rfl ?_
          refine v_iadd dX10_cellOnWay_43 ?_
          refine v_iconst (v := 0) dX10_cellOnWay_44 (by decide) ?_
          obtain ⟨q4, q4_e, hF⟩ := Option.bind_eq_some_iff.mp hF
          refine c_X10_79 rfl sh_204 (by exact ltG hG (by decide)) (Nat.le_of_ble_eq_true rfl) dX10_cellOnWay_45 (s_X10_onwards _ q4_e hG) (fun r1 h1 hq => ?_)
          obtain ⟨rfl, hq, hG⟩ := hq
          replace hq := hq.symm
          subst hq
          show V _ _ _ _ (_ :: _) _ _
          refine v_aload_n (i := 0) dX10_cellOnWay_48 rfl rfl ?_
          refine g_X10_15 (q := 206) rfl sh_204 (by exact ltG hG (by decide)) (by exact rG hG r0_204_2) dX10_cellOnWay_49 ?_
          refine v_iload (i := 6) dX10_cellOnWay_52 rfl ?_
          obtain ⟨k6, hF⟩ := ck_some hF
          refine v_iaload sh_206 (by exact ltG hG (by decide)) (ixO k6) dX10_cellOnWay_54 ?_
          refine v_iand dX10_cellOnWay_55 ?_
          obtain ⟨q7, q7_e, hF⟩ := Option.bind_eq_some_iff.mp hF
          refine c_X10_57 rfl (Nat.le_of_ble_eq_true rfl) dX10_cellOnWay_56 (s_X11_lowest _ q7_e hG) (fun r1 h1 hq => ?_)
          obtain ⟨rfl, hq, hG⟩ := hq
          replace hq := hq.symm
          subst hq
          show V _ _ _ _ (_ :: _) _ _
          refine v_istore (i := 5) dX10_cellOnWay_59 (by decide) (nlT rfl) ?_
          simp only [List.set_cons_zero, List.set_cons_succ]
          refine v_iinc (i := 6) (v := (l6 + 1)) dX10_cellOnWay_61 rfl rfl (by decide) (nlT rfl) ?_
          simp only [List.set_cons_zero, List.set_cons_succ]
          refine v_goto 12 dX10_cellOnWay_64 (by decide) ?_
          refine V.weak (la2 := [some (.ref 204), some (.int l1), some (.int l2), some (.int l3), some (.int l4), some (.int q7.1), some (.int (l6 + 1))]) (by simp [wk]) ?_
          exact (s_X10_cellOnWay_IH_12) _ _ _ _ _ _ _ _ _ hF hG
def F_X10_cellOnWay (n : Nat) (h : Hp) (x1 : Int32) (x2 : Int32) (x3 : Int32) (x4 : Int32) : Option (Int32 × Hp) := ((F_X10_lookBack n h x2 x3).bind (fun q9 => W_X10_cellOnWay n 12 q9  x1 x2 x3 x4 x1 1))
set_option maxRecDepth 100000 in
set_option maxHeartbeats 4000000 in
theorem s_X10_cellOnWay (d : Nat) {n : Nat} {h : Hp} {x1 : Int32} {x2 : Int32} {x3 : Int32} {x4 : Int32} {q0 : (Int32 × Hp)} (hF : F_X10_cellOnWay n h x1 x2 x3 x4 = some q0) (hG : G h)  : Kc mX10_cellOnWay (d + 3) [.ref 204, .int x1, .int x2, .int x3, .int x4] h (fun r1 h1 => r1 = some (.int q0.1) ∧ h1 = q0.2 ∧ G q0.2) := by
  obtain ⟨r, h'⟩ := q0
  have s_X10_cellOnWay_IH_12 := sw_X10_cellOnWay d   n
  unfold F_X10_cellOnWay at hF
  refine Kc.of [some (.ref 204), some (.int x1), some (.int x2), some (.int x3), some (.int x4), none, none] ok_X10_cellOnWay rfl (Nat.le_of_ble_eq_true rfl) ?_
  refine v_aload_n (i := 0) dX10_cellOnWay_0 rfl rfl ?_
  refine v_iload_n (i := 2) dX10_cellOnWay_1 rfl rfl ?_
  refine v_iload_n (i := 3) dX10_cellOnWay_2 rfl rfl ?_
  obtain ⟨q9, q9_e, hF⟩ := Option.bind_eq_some_iff.mp hF
  refine c_X10_83 rfl sh_204 (by exact ltG hG (by decide)) (Nat.le_of_ble_eq_true rfl) dX10_cellOnWay_3 (s_X10_lookBack _ q9_e hG) (fun r1 h1 hq => ?_)
  obtain ⟨rfl, hq, hG⟩ := hq
  replace hq := hq.symm
  subst hq
  simp only [Option.toList, List.nil_append]
  refine v_iload_n (i := 1) dX10_cellOnWay_6 rfl rfl ?_
  refine v_istore (i := 5) dX10_cellOnWay_7 (by decide) (nlT rfl) ?_
  simp only [List.set_cons_zero, List.set_cons_succ]
  refine v_iconst (v := 1) dX10_cellOnWay_9 (by decide) ?_
  refine v_istore (i := 6) dX10_cellOnWay_10 (by decide) (nlT rfl) ?_
  simp only [List.set_cons_zero, List.set_cons_succ]
  refine V.weak (la2 := [some (.ref 204), some (.int x1), some (.int x2), some (.int x3), some (.int x4), some (.int x1), some (.int 1)]) (by simp [wk]) ?_
  exact (s_X10_cellOnWay_IH_12) _ _ _ _ _ _ _ _ _ hF hG
def W_X10_fewest : Nat → Nat → Hp → Int32 → Int32 → Int32 → Int32 → Int32 → Int32 → Int32 → Option (Int32 × Hp)
  | 0 => fun _ _ _ _ _ _ _ _ _ => none
  | n + 1 => fun hd h l1 l2 l3 l4 l5 l6 l7 => (if hd = 8 then (if (l5 : Int32) < (l7 : Int32) then some ((-1), h) else (if (l6 : Int32) = 0 then some ((-1), h) else (if ((((((l6 : Int32).toUInt32 >>> ((l2 : Int32).toUInt32 &&& Int32.toUInt32 31)).toInt32) : Int32) &&& (1 : Int32)) : Int32) = 0 then ((F_X10_onwards n h l6 ((l3 + l7) + 1) l4).bind (fun q4 => W_X10_fewest n 8 q4.2  l1 l2 l3 l4 l5 q4.1 (l7 + 1))) else some (l7, h)))) else none)
set_option maxRecDepth 100000 in
set_option maxHeartbeats 4000000 in
theorem sw_X10_fewest (d : Nat)  (n : Nat) : (∀ (l1 : Int32) (l2 : Int32) (l3 : Int32) (l4 : Int32) (l5 : Int32) (l6 : Int32) (l7 : Int32) (h : Hp), ∀ (r : Int32) (h' : Hp), W_X10_fewest n 8 h  l1 l2 l3 l4 l5 l6 l7 = some (r, h') → G h → V mX10_fewest (d + 3) 8 [some (.ref 204), some (.int l1), some (.int l2), some (.int l3), some (.int l4), some (.int l5), some (.int l6), some (.int l7)] [] h (fun r1 h1 => r1 = some (.int r) ∧ h1 = h' ∧ G h')) := by
  induction n with
  | zero => exact by intros; contradiction
  | succ n ih =>
    have s_X10_fewest_IH_8 := ih
    intro l1 l2 l3 l4 l5 l6 l7 h r h' hF hG
    unfold W_X10_fewest at hF
    rw [if_pos rfl] at hF
    refine v_iload (i := 7) dX10_fewest_8 rfl ?_
    refine v_iload (i := 5) dX10_fewest_10 rfl ?_
    refine v_icmp_gt 54 dX10_fewest_12 (by decide) (fun c1 => ?_) (fun c1 => ?_)
    · rw [if_pos c1] at hF
      refine v_iconst (v := (-1)) dX10_fewest_54 (by decide) ?_
      refine v_ireturn rfl dX10_fewest_55 ?_
      obtain ⟨rfl, rfl⟩ := Prod.mk.inj (Option.some.inj hF)
      exact ⟨rfl, rfl, hG⟩
    · rw [if_neg c1] at hF
      refine v_iload (i := 6) dX10_fewest_15 rfl ?_
      refine v_if_eq 54 dX10_fewest_17 (by decide) (fun c2 => ?_) (fun c2 => ?_)
      · rw [if_pos c2] at hF
        refine v_iconst (v := (-1)) dX10_fewest_54 (by decide) ?_
        refine v_ireturn rfl dX10_fewest_55 ?_
        obtain ⟨rfl, rfl⟩ := Prod.mk.inj (Option.some.inj hF)
        exact ⟨rfl, rfl, hG⟩
      · rw [if_neg c2] at hF
        refine v_iload (i := 6) dX10_fewest_20 rfl ?_
        refine v_iload_n (i := 2) dX10_fewest_22 rfl rfl ?_
        refine v_iushr dX10_fewest_23 ?_
        refine v_iconst (v := 1) dX10_fewest_24 (by decide) ?_
        refine v_iand dX10_fewest_25 ?_
        refine v_if_eq 32 dX10_fewest_26 (by decide) (fun c3 => ?_) (fun c3 => ?_)
        · rw [if_pos c3] at hF
          refine v_aload_n (i := 0) dX10_fewest_32 rfl rfl ?_
          refine v_iload (i := 6) dX10_fewest_33 rfl ?_
          refine v_iload_n (i := 3) dX10_fewest_35 rfl rfl ?_
          refine v_iload (i := 7) dX10_fewest_36 rfl ?_
          refine v_iadd dX10_fewest_38 ?_
          refine v_iconst (v := 1) dX10_fewest_39 (by decide) ?_
          refine v_iadd dX10_fewest_40 ?_
          refine v_iload (i := 4) dX10_fewest_41 rfl ?_
          obtain ⟨q4, q4_e, hF⟩ := Option.bind_eq_some_iff.mp hF
          refine c_X10_79 rfl sh_204 (by exact ltG hG (by decide)) (Nat.le_of_ble_eq_true rfl) dX10_fewest_43 (s_X10_onwards _ q4_e hG) (fun r1 h1 hq => ?_)
          obtain ⟨rfl, hq, hG⟩ := hq
          replace hq := hq.symm
          subst hq
          show V _ _ _ _ (_ :: _) _ _
          refine v_istore (i := 6) dX10_fewest_46 (by decide) (nlT rfl) ?_
          simp only [List.set_cons_zero, List.set_cons_succ]
          refine v_iinc (i := 7) (v := (l7 + 1)) dX10_fewest_48 rfl rfl (by decide) (nlT rfl) ?_
          simp only [List.set_cons_zero, List.set_cons_succ]
          refine v_goto 8 dX10_fewest_51 (by decide) ?_
          refine V.weak (la2 := [some (.ref 204), some (.int l1), some (.int l2), some (.int l3), some (.int l4), some (.int l5), some (.int q4.1), some (.int (l7 + 1))]) (by simp [wk]) ?_
          exact (s_X10_fewest_IH_8) _ _ _ _ _ _ _ _ _ _ hF hG
        · rw [if_neg c3] at hF
          refine v_iload (i := 7) dX10_fewest_29 rfl ?_
          refine v_ireturn rfl dX10_fewest_31 ?_
          obtain ⟨rfl, rfl⟩ := Prod.mk.inj (Option.some.inj hF)
          exact ⟨rfl, rfl, hG⟩
def F_X10_fewest (n : Nat) (h : Hp) (x1 : Int32) (x2 : Int32) (x3 : Int32) (x4 : Int32) (x5 : Int32) : Option (Int32 × Hp) := W_X10_fewest n 8 h  x1 x2 x3 x4 x5 ((1 : Int32) <<< ((x1 : Int32) &&& 31)) 0
set_option maxRecDepth 100000 in
set_option maxHeartbeats 4000000 in
theorem s_X10_fewest (d : Nat) {n : Nat} {h : Hp} {x1 : Int32} {x2 : Int32} {x3 : Int32} {x4 : Int32} {x5 : Int32} {q0 : (Int32 × Hp)} (hF : F_X10_fewest n h x1 x2 x3 x4 x5 = some q0) (hG : G h)  : Kc mX10_fewest (d + 3) [.ref 204, .int x1, .int x2, .int x3, .int x4, .int x5] h (fun r1 h1 => r1 = some (.int q0.1) ∧ h1 = q0.2 ∧ G q0.2) := by
  obtain ⟨r, h'⟩ := q0
  have s_X10_fewest_IH_8 := sw_X10_fewest d   n
  unfold F_X10_fewest at hF
  refine Kc.of [some (.ref 204), some (.int x1), some (.int x2), some (.int x3), some (.int x4), some (.int x5), none, none] ok_X10_fewest rfl (Nat.le_of_ble_eq_true rfl) ?_
  refine v_iconst (v := 1) dX10_fewest_0 (by decide) ?_
  refine v_iload_n (i := 1) dX10_fewest_1 rfl rfl ?_
  refine v_ishl dX10_fewest_2 ?_
  refine v_istore (i := 6) dX10_fewest_3 (by decide) (nlT rfl) ?_
  simp only [List.set_cons_zero, List.set_cons_succ]
  refine v_iconst (v := 0) dX10_fewest_5 (by decide) ?_
  refine v_istore (i := 7) dX10_fewest_6 (by decide) (nlT rfl) ?_
  simp only [List.set_cons_zero, List.set_cons_succ]
  refine V.weak (la2 := [some (.ref 204), some (.int x1), some (.int x2), some (.int x3), some (.int x4), some (.int x5), some (.int ((1 : Int32) <<< ((x1 : Int32) &&& 31))), some (.int 0)]) (by simp [wk]) ?_
  exact (s_X10_fewest_IH_8) _ _ _ _ _ _ _ _ _ _ hF hG
def W_X10_findMeeting : Nat → Nat → Hp → Int32 → Int32 → Int32 → Int32 → Int32 → Option (Int32 × Hp)
  | 0 => fun _ _ _ _ _ _ _ => none
  | n + 1 => fun hd h l1 l2 l3 l4 l5 => (if hd = 12 then (if (100 : Int32) < (l5 : Int32) then some (0, h) else (if (((l3 : Int32) &&& (l4 : Int32)) : Int32) = 0 then ((F_X10_onwards n h l3 (((hi h 204 4) + l5) + 1) 0).bind (fun q3 => ((F_X10_onwards n q3.2 l4 (((hi q3.2 204 4) + l5) + 1) 0).bind (fun q5 => W_X10_findMeeting n 12 q5.2  l1 l2 q3.1 q5.1 (l5 + 1))))) else ((F_X11_lowest n (wrI h 204 5 l5) ((l3 : Int32) &&& (l4 : Int32))).bind (fun q7 => some (1, (wrI q7.2 204 6 q7.1)))))) else none)
set_option maxRecDepth 100000 in
set_option maxHeartbeats 4000000 in
theorem sw_X10_findMeeting (d : Nat)  (n : Nat) : (∀ (l1 : Int32) (l2 : Int32) (l3 : Int32) (l4 : Int32) (l5 : Int32) (h : Hp), ∀ (r : Int32) (h' : Hp), W_X10_findMeeting n 12 h  l1 l2 l3 l4 l5 = some (r, h') → G h → V mX10_findMeeting (d + 3) 12 [some (.ref 204), some (.int l1), some (.int l2), some (.int l3), some (.int l4), some (.int l5)] [] h (fun r1 h1 => r1 = some (.int r) ∧ h1 = h' ∧ G h')) := by
  induction n with
  | zero => exact by intros; contradiction
  | succ n ih =>
    have s_X10_findMeeting_IH_12 := ih
    intro l1 l2 l3 l4 l5 h r h' hF hG
    unfold W_X10_findMeeting at hF
    rw [if_pos rfl] at hF
    refine v_iload (i := 5) dX10_findMeeting_12 rfl ?_
    refine v_bipush (v := 100) dX10_findMeeting_14 (by decide) ?_
    refine v_icmp_gt 85 dX10_findMeeting_16 (by decide) (fun c1 => ?_) (fun c1 => ?_)
    · rw [if_pos c1] at hF
      refine v_iconst (v := 0) dX10_findMeeting_85 (by decide) ?_
      refine v_zreturn rfl (by decide) dX10_findMeeting_86 ?_
      obtain ⟨rfl, rfl⟩ := Prod.mk.inj (Option.some.inj hF)
      exact ⟨rfl, rfl, hG⟩
    · rw [if_neg c1] at hF
      refine v_iload_n (i := 3) dX10_findMeeting_19 rfl rfl ?_
      refine v_iload (i := 4) dX10_findMeeting_20 rfl ?_
      refine v_iand dX10_findMeeting_22 ?_
      refine v_if_eq 45 dX10_findMeeting_23 (by decide) (fun c2 => ?_) (fun c2 => ?_)
      · rw [if_pos c2] at hF
        refine v_aload_n (i := 0) dX10_findMeeting_45 rfl rfl ?_
        refine v_iload_n (i := 3) dX10_findMeeting_46 rfl rfl ?_
        refine v_aload_n (i := 0) dX10_findMeeting_47 rfl rfl ?_
        refine g_X10_22 rfl sh_204 (by exact ltG hG (by decide)) dX10_findMeeting_48 ?_
        refine v_iload (i := 5) dX10_findMeeting_51 rfl ?_
        refine v_iadd dX10_findMeeting_53 ?_
        refine v_iconst (v := 1) dX10_findMeeting_54 (by decide) ?_
        refine v_iadd dX10_findMeeting_55 ?_
        refine v_iconst (v := 0) dX10_findMeeting_56 (by decide) ?_
        obtain ⟨q3, q3_e, hF⟩ := Option.bind_eq_some_iff.mp hF
        refine c_X10_79 rfl sh_204 (by exact ltG hG (by decide)) (Nat.le_of_ble_eq_true rfl) dX10_findMeeting_57 (s_X10_onwards _ q3_e hG) (fun r1 h1 hq => ?_)
        obtain ⟨rfl, hq, hG⟩ := hq
        replace hq := hq.symm
        subst hq
        show V _ _ _ _ (_ :: _) _ _
        refine v_istore_n (i := 3) dX10_findMeeting_60 rfl (by decide) (nlT rfl) ?_
        simp only [List.set_cons_zero, List.set_cons_succ]
        refine v_aload_n (i := 0) dX10_findMeeting_61 rfl rfl ?_
        refine v_iload (i := 4) dX10_findMeeting_62 rfl ?_
        refine v_aload_n (i := 0) dX10_findMeeting_64 rfl rfl ?_
        refine g_X10_22 rfl sh_204 (by exact ltG hG (by decide)) dX10_findMeeting_65 ?_
        refine v_iload (i := 5) dX10_findMeeting_68 rfl ?_
        refine v_iadd dX10_findMeeting_70 ?_
        refine v_iconst (v := 1) dX10_findMeeting_71 (by decide) ?_
        refine v_iadd dX10_findMeeting_72 ?_
        refine v_iconst (v := 0) dX10_findMeeting_73 (by decide) ?_
        obtain ⟨q5, q5_e, hF⟩ := Option.bind_eq_some_iff.mp hF
        refine c_X10_79 rfl sh_204 (by exact ltG hG (by decide)) (Nat.le_of_ble_eq_true rfl) dX10_findMeeting_74 (s_X10_onwards _ q5_e hG) (fun r1 h1 hq => ?_)
        obtain ⟨rfl, hq, hG⟩ := hq
        replace hq := hq.symm
        subst hq
        show V _ _ _ _ (_ :: _) _ _
        refine v_istore (i := 4) dX10_findMeeting_77 (by decide) (nlT rfl) ?_
        simp only [List.set_cons_zero, List.set_cons_succ]
        refine v_iinc (i := 5) (v := (l5 + 1)) dX10_findMeeting_79 rfl rfl (by decide) (nlT rfl) ?_
        simp only [List.set_cons_zero, List.set_cons_succ]
        refine v_goto 12 dX10_findMeeting_82 (by decide) ?_
        refine V.weak (la2 := [some (.ref 204), some (.int l1), some (.int l2), some (.int q3.1), some (.int q5.1), some (.int (l5 + 1))]) (by simp [wk]) ?_
        exact (s_X10_findMeeting_IH_12) _ _ _ _ _ _ _ _ hF hG
      · rw [if_neg c2] at hF
        refine v_aload_n (i := 0) dX10_findMeeting_26 rfl rfl ?_
        refine v_iload (i := 5) dX10_findMeeting_27 rfl ?_
        refine p_X10_25 rfl sh_204 (by exact ltG hG (by decide)) dX10_findMeeting_29 ?_
        refine v_aload_n (i := 0) dX10_findMeeting_32 rfl rfl ?_
        refine v_iload_n (i := 3) dX10_findMeeting_33 rfl rfl ?_
        refine v_iload (i := 4) dX10_findMeeting_34 rfl ?_
        refine v_iand dX10_findMeeting_36 ?_
        obtain ⟨q7, q7_e, hF⟩ := Option.bind_eq_some_iff.mp hF
        refine c_X10_57 rfl (Nat.le_of_ble_eq_true rfl) dX10_findMeeting_37 (s_X11_lowest _ q7_e hG) (fun r1 h1 hq => ?_)
        obtain ⟨rfl, hq, hG⟩ := hq
        replace hq := hq.symm
        subst hq
        show V _ _ _ _ (_ :: _) _ _
        refine p_X10_28 rfl sh_204 (by exact ltG hG (by decide)) dX10_findMeeting_40 ?_
        refine v_iconst (v := 1) dX10_findMeeting_43 (by decide) ?_
        refine v_zreturn rfl (by decide) dX10_findMeeting_44 ?_
        obtain ⟨rfl, rfl⟩ := Prod.mk.inj (Option.some.inj hF)
        exact ⟨rfl, rfl, hG⟩
def F_X10_findMeeting (n : Nat) (h : Hp) (x1 : Int32) (x2 : Int32) : Option (Int32 × Hp) := W_X10_findMeeting n 12 h  x1 x2 ((1 : Int32) <<< ((x1 : Int32) &&& 31)) ((1 : Int32) <<< ((x2 : Int32) &&& 31)) 0
set_option maxRecDepth 100000 in
set_option maxHeartbeats 4000000 in
theorem s_X10_findMeeting (d : Nat) {n : Nat} {h : Hp} {x1 : Int32} {x2 : Int32} {q0 : (Int32 × Hp)} (hF : F_X10_findMeeting n h x1 x2 = some q0) (hG : G h)  : Kc mX10_findMeeting (d + 3) [.ref 204, .int x1, .int x2] h (fun r1 h1 => r1 = some (.int q0.1) ∧ h1 = q0.2 ∧ G q0.2) := by
  obtain ⟨r, h'⟩ := q0
  have s_X10_findMeeting_IH_12 := sw_X10_findMeeting d   n
  unfold F_X10_findMeeting at hF
  refine Kc.of [some (.ref 204), some (.int x1), some (.int x2), none, none, none] ok_X10_findMeeting rfl (Nat.le_of_ble_eq_true rfl) ?_
  refine v_iconst (v := 1) dX10_findMeeting_0 (by decide) ?_
  refine v_iload_n (i := 1) dX10_findMeeting_1 rfl rfl ?_
  refine v_ishl dX10_findMeeting_2 ?_
  refine v_istore_n (i := 3) dX10_findMeeting_3 rfl (by decide) (nlT rfl) ?_
  simp only [List.set_cons_zero, List.set_cons_succ]
  refine v_iconst (v := 1) dX10_findMeeting_4 (by decide) ?_
  refine v_iload_n (i := 2) dX10_findMeeting_5 rfl rfl ?_
  refine v_ishl dX10_findMeeting_6 ?_
  refine v_istore (i := 4) dX10_findMeeting_7 (by decide) (nlT rfl) ?_
  simp only [List.set_cons_zero, List.set_cons_succ]
  refine v_iconst (v := 0) dX10_findMeeting_9 (by decide) ?_
  refine v_istore (i := 5) dX10_findMeeting_10 (by decide) (nlT rfl) ?_
  simp only [List.set_cons_zero, List.set_cons_succ]
  refine V.weak (la2 := [some (.ref 204), some (.int x1), some (.int x2), some (.int ((1 : Int32) <<< ((x1 : Int32) &&& 31))), some (.int ((1 : Int32) <<< ((x2 : Int32) &&& 31))), some (.int 0)]) (by simp [wk]) ?_
  exact (s_X10_findMeeting_IH_12) _ _ _ _ _ _ _ _ hF hG
def W_X10_mownBy : Nat → Nat → Hp → Int32 → Int32 → Int32 → Int32 → Int32 → Int32 → Int32 → Option (Int32 × Hp)
  | 0 => fun _ _ _ _ _ _ _ _ _ => none
  | n + 1 => fun hd h l1 l2 l3 l4 l5 l6 l7 => (if hd = 6 then (if (256 : Int32) ≤ (l7 : Int32) then some ((-1), h) else (if (l6 : Int32) = (l5 : Int32) then some ((-1), h) else ((F_J6_bitCount_0f7a4 n h l6).bind (fun q3 => (if (q3.1 : Int32) = (l1 : Int32) then ((F_X10_fewest n q3.2 l2 l3 (hi q3.2 204 4) l6 l4).bind (fun q6 => (if (q6.1 : Int32) = ((-1) : Int32) then W_X10_mownBy n 6 q6.2  l1 l2 l3 l4 l5 (((l6 - l5) : Int32) &&& (l5 : Int32)) (l7 + 1) else some (l6, q6.2)))) else W_X10_mownBy n 6 q3.2  l1 l2 l3 l4 l5 (((l6 - l5) : Int32) &&& (l5 : Int32)) (l7 + 1)))))) else none)
set_option maxRecDepth 100000 in
set_option maxHeartbeats 4000000 in
theorem sw_X10_mownBy (d : Nat)  (n : Nat) : (∀ (l1 : Int32) (l2 : Int32) (l3 : Int32) (l4 : Int32) (l5 : Int32) (l6 : Int32) (l7 : Int32) (h : Hp), ∀ (r : Int32) (h' : Hp), W_X10_mownBy n 6 h  l1 l2 l3 l4 l5 l6 l7 = some (r, h') → G h → V mX10_mownBy (d + 4) 6 [some (.ref 204), some (.int l1), some (.int l2), some (.int l3), some (.int l4), some (.int l5), some (.int l6), some (.int l7)] [] h (fun r1 h1 => r1 = some (.int r) ∧ h1 = h' ∧ G h')) := by
  induction n with
  | zero => exact by intros; contradiction
  | succ n ih =>
    have s_X10_mownBy_IH_6 := ih
    intro l1 l2 l3 l4 l5 l6 l7 h r h' hF hG
    unfold W_X10_mownBy at hF
    rw [if_pos rfl] at hF
    refine v_iload (i := 7) dX10_mownBy_6 rfl ?_
    refine v_sipush (v := 256) dX10_mownBy_8 (by decide) ?_
    refine v_icmp_ge 67 dX10_mownBy_11 (by decide) (fun c1 => ?_) (fun c1 => ?_)
    · rw [if_pos c1] at hF
      refine v_iconst (v := (-1)) dX10_mownBy_67 (by decide) ?_
      refine v_ireturn rfl dX10_mownBy_68 ?_
      obtain ⟨rfl, rfl⟩ := Prod.mk.inj (Option.some.inj hF)
      exact ⟨rfl, rfl, hG⟩
    · rw [if_neg c1] at hF
      refine v_iload (i := 6) dX10_mownBy_14 rfl ?_
      refine v_iload (i := 5) dX10_mownBy_16 rfl ?_
      refine v_icmp_eq 67 dX10_mownBy_18 (by decide) (fun c2 => ?_) (fun c2 => ?_)
      · rw [if_pos c2] at hF
        refine v_iconst (v := (-1)) dX10_mownBy_67 (by decide) ?_
        refine v_ireturn rfl dX10_mownBy_68 ?_
        obtain ⟨rfl, rfl⟩ := Prod.mk.inj (Option.some.inj hF)
        exact ⟨rfl, rfl, hG⟩
      · rw [if_neg c2] at hF
        refine v_iload (i := 6) dX10_mownBy_21 rfl ?_
        obtain ⟨q3, q3_e, hF⟩ := Option.bind_eq_some_iff.mp hF
        refine c_X10_94 rfl (Nat.le_of_ble_eq_true rfl) dX10_mownBy_23 (s_J6_bitCount_0f7a4 _ q3_e hG) (fun r1 h1 hq => ?_)
        obtain ⟨rfl, hq, hG⟩ := hq
        replace hq := hq.symm
        subst hq
        show V _ _ _ _ (_ :: _) _ _
        refine v_iload_n (i := 1) dX10_mownBy_26 rfl rfl ?_
        refine v_icmp_ne 51 dX10_mownBy_27 (by decide) (fun c5 => ?_) (fun c5 => ?_)
        · rw [if_neg c5] at hF
          refine v_iload (i := 6) dX10_mownBy_51 rfl ?_
          refine v_iload (i := 5) dX10_mownBy_53 rfl ?_
          refine v_isub dX10_mownBy_55 ?_
          refine v_iload (i := 5) dX10_mownBy_56 rfl ?_
          refine v_iand dX10_mownBy_58 ?_
          refine v_istore (i := 6) dX10_mownBy_59 (by decide) (nlT rfl) ?_
          simp only [List.set_cons_zero, List.set_cons_succ]
          refine v_iinc (i := 7) (v := (l7 + 1)) dX10_mownBy_61 rfl rfl (by decide) (nlT rfl) ?_
          simp only [List.set_cons_zero, List.set_cons_succ]
          refine v_goto 6 dX10_mownBy_64 (by decide) ?_
          refine V.weak (la2 := [some (.ref 204), some (.int l1), some (.int l2), some (.int l3), some (.int l4), some (.int l5), some (.int (((l6 - l5) : Int32) &&& (l5 : Int32))), some (.int (l7 + 1))]) (by simp [wk]) ?_
          exact (s_X10_mownBy_IH_6) _ _ _ _ _ _ _ _ _ _ hF hG
        · rw [if_pos c5] at hF
          refine v_aload_n (i := 0) dX10_mownBy_30 rfl rfl ?_
          refine v_iload_n (i := 2) dX10_mownBy_31 rfl rfl ?_
          refine v_iload_n (i := 3) dX10_mownBy_32 rfl rfl ?_
          refine v_aload_n (i := 0) dX10_mownBy_33 rfl rfl ?_
          refine g_X10_22 rfl sh_204 (by exact ltG hG (by decide)) dX10_mownBy_34 ?_
          refine v_iload (i := 6) dX10_mownBy_37 rfl ?_
          refine v_iload (i := 4) dX10_mownBy_39 rfl ?_
          obtain ⟨q6, q6_e, hF⟩ := Option.bind_eq_some_iff.mp hF
          refine c_X10_90 rfl sh_204 (by exact ltG hG (by decide)) (Nat.le_of_ble_eq_true rfl) dX10_mownBy_41 (s_X10_fewest _ q6_e hG) (fun r1 h1 hq => ?_)
          obtain ⟨rfl, hq, hG⟩ := hq
          replace hq := hq.symm
          subst hq
          show V _ _ _ _ (_ :: _) _ _
          refine v_iconst (v := (-1)) dX10_mownBy_44 (by decide) ?_
          refine v_icmp_eq 51 dX10_mownBy_45 (by decide) (fun c8 => ?_) (fun c8 => ?_)
          · rw [if_pos c8] at hF
            refine v_iload (i := 6) dX10_mownBy_51 rfl ?_
            refine v_iload (i := 5) dX10_mownBy_53 rfl ?_
            refine v_isub dX10_mownBy_55 ?_
            refine v_iload (i := 5) dX10_mownBy_56 rfl ?_
            refine v_iand dX10_mownBy_58 ?_
            refine v_istore (i := 6) dX10_mownBy_59 (by decide) (nlT rfl) ?_
            simp only [List.set_cons_zero, List.set_cons_succ]
            refine v_iinc (i := 7) (v := (l7 + 1)) dX10_mownBy_61 rfl rfl (by decide) (nlT rfl) ?_
            simp only [List.set_cons_zero, List.set_cons_succ]
            refine v_goto 6 dX10_mownBy_64 (by decide) ?_
            refine V.weak (la2 := [some (.ref 204), some (.int l1), some (.int l2), some (.int l3), some (.int l4), some (.int l5), some (.int (((l6 - l5) : Int32) &&& (l5 : Int32))), some (.int (l7 + 1))]) (by simp [wk]) ?_
            exact (s_X10_mownBy_IH_6) _ _ _ _ _ _ _ _ _ _ hF hG
          · rw [if_neg c8] at hF
            refine v_iload (i := 6) dX10_mownBy_48 rfl ?_
            refine v_ireturn rfl dX10_mownBy_50 ?_
            obtain ⟨rfl, rfl⟩ := Prod.mk.inj (Option.some.inj hF)
            exact ⟨rfl, rfl, hG⟩
def F_X10_mownBy (n : Nat) (h : Hp) (x1 : Int32) (x2 : Int32) (x3 : Int32) (x4 : Int32) (x5 : Int32) : Option (Int32 × Hp) := W_X10_mownBy n 6 h  x1 x2 x3 x4 x5 0 0
set_option maxRecDepth 100000 in
set_option maxHeartbeats 4000000 in
theorem s_X10_mownBy (d : Nat) {n : Nat} {h : Hp} {x1 : Int32} {x2 : Int32} {x3 : Int32} {x4 : Int32} {x5 : Int32} {q0 : (Int32 × Hp)} (hF : F_X10_mownBy n h x1 x2 x3 x4 x5 = some q0) (hG : G h)  : Kc mX10_mownBy (d + 4) [.ref 204, .int x1, .int x2, .int x3, .int x4, .int x5] h (fun r1 h1 => r1 = some (.int q0.1) ∧ h1 = q0.2 ∧ G q0.2) := by
  obtain ⟨r, h'⟩ := q0
  have s_X10_mownBy_IH_6 := sw_X10_mownBy d   n
  unfold F_X10_mownBy at hF
  refine Kc.of [some (.ref 204), some (.int x1), some (.int x2), some (.int x3), some (.int x4), some (.int x5), none, none] ok_X10_mownBy rfl (Nat.le_of_ble_eq_true rfl) ?_
  refine v_iconst (v := 0) dX10_mownBy_0 (by decide) ?_
  refine v_istore (i := 6) dX10_mownBy_1 (by decide) (nlT rfl) ?_
  simp only [List.set_cons_zero, List.set_cons_succ]
  refine v_iconst (v := 0) dX10_mownBy_3 (by decide) ?_
  refine v_istore (i := 7) dX10_mownBy_4 (by decide) (nlT rfl) ?_
  simp only [List.set_cons_zero, List.set_cons_succ]
  refine V.weak (la2 := [some (.ref 204), some (.int x1), some (.int x2), some (.int x3), some (.int x4), some (.int x5), some (.int 0), some (.int 0)]) (by simp [wk]) ?_
  exact (s_X10_mownBy_IH_6) _ _ _ _ _ _ _ _ _ _ hF hG
def F_X11_meet (n : Nat) (h : Hp) (x1 : Int32) (x2 : Int32) (x3 : Int32) : Option (Int32 × Hp) := ((F_X0_hasGoer n h 23 x1).bind (fun q1 => (if (q1.1 : Int32) = 0 then some ((-1), q1.2) else ((F_X0_hasGoer n q1.2 23 x2).bind (fun q4 => (if (q4.1 : Int32) = 0 then some ((-1), q4.2) else ((F_X11_isNoughtOrOne n q4.2 x3).bind (fun q7 => (if (q7.1 : Int32) = 0 then some ((-1), q7.2) else ((F_X10_look n q7.2 30).bind (fun q10 => (if ixOK x1 5 = true then (if ixOK x2 5 = true then ((F_X10_findMeeting n q10 (hi q10 32 (Int32.toNatClampNeg x1)) (hi q10 32 (Int32.toNatClampNeg x2))).bind (fun q14 => (if (q14.1 : Int32) = 0 then some ((-2), q14.2) else (if (x3 : Int32) = 0 then some ((hi q14.2 204 5), q14.2) else some ((hi q14.2 204 6), q14.2))))) else none) else none))))))))))))
set_option maxRecDepth 100000 in
set_option maxHeartbeats 4000000 in
theorem s_X11_meet (d : Nat) {n : Nat} {h : Hp} {x1 : Int32} {x2 : Int32} {x3 : Int32} {q0 : (Int32 × Hp)} (hF : F_X11_meet n h x1 x2 x3 = some q0) (hG : G h)  : Kc mX11_meet (d + 4) [.ref 0, .int x1, .int x2, .int x3] h (fun r1 h1 => r1 = some (.int q0.1) ∧ h1 = q0.2 ∧ G q0.2) := by
  obtain ⟨r, h'⟩ := q0
  unfold F_X11_meet at hF
  refine Kc.of [some (.ref 0), some (.int x1), some (.int x2), some (.int x3)] ok_X11_meet rfl (Nat.le_of_ble_eq_true rfl) ?_
  refine v_aload_n (i := 0) dX11_meet_0 rfl rfl ?_
  refine g_X11_32 (q := 23) rfl sh_0 (by exact ltG hG (by decide)) (by exact rG hG r0_0_4) dX11_meet_1 ?_
  refine v_iload_n (i := 1) dX11_meet_4 rfl rfl ?_
  obtain ⟨q1, q1_e, hF⟩ := Option.bind_eq_some_iff.mp hF
  refine c_X11_160 rfl sh_23 (by exact ltG hG (by decide)) (Nat.le_of_ble_eq_true rfl) dX11_meet_5 (s_X0_hasGoer _ q1_e hG (by first | assumption | exact sc_30 | exact sc_34 | exact sc_10 | exact fd_24 | exact fd_4 | exact lw_25 | exact lw_5 | exact bd_23 | exact bd_3 | exact ⟨by first | assumption | rfl, by first | decide | omega⟩)) (fun r1 h1 hq => ?_)
  obtain ⟨rfl, hq, hG⟩ := hq
  replace hq := hq.symm
  subst hq
  show V _ _ _ _ (_ :: _) _ _
  refine v_if_eq 29 dX11_meet_8 (by decide) (fun c3 => ?_) (fun c3 => ?_)
  · rw [if_pos c3] at hF
    refine v_iconst (v := (-1)) dX11_meet_29 (by decide) ?_
    refine v_ireturn rfl dX11_meet_30 ?_
    obtain ⟨rfl, rfl⟩ := Prod.mk.inj (Option.some.inj hF)
    exact ⟨rfl, rfl, hG⟩
  · rw [if_neg c3] at hF
    refine v_aload_n (i := 0) dX11_meet_11 rfl rfl ?_
    refine g_X11_32 (q := 23) rfl sh_0 (by exact ltG hG (by decide)) (by exact rG hG r0_0_4) dX11_meet_12 ?_
    refine v_iload_n (i := 2) dX11_meet_15 rfl rfl ?_
    obtain ⟨q4, q4_e, hF⟩ := Option.bind_eq_some_iff.mp hF
    refine c_X11_160 rfl sh_23 (by exact ltG hG (by decide)) (Nat.le_of_ble_eq_true rfl) dX11_meet_16 (s_X0_hasGoer _ q4_e hG (by first | assumption | exact sc_30 | exact sc_34 | exact sc_10 | exact fd_24 | exact fd_4 | exact lw_25 | exact lw_5 | exact bd_23 | exact bd_3 | exact ⟨by first | assumption | rfl, by first | decide | omega⟩)) (fun r1 h1 hq => ?_)
    obtain ⟨rfl, hq, hG⟩ := hq
    replace hq := hq.symm
    subst hq
    show V _ _ _ _ (_ :: _) _ _
    refine v_if_eq 29 dX11_meet_19 (by decide) (fun c6 => ?_) (fun c6 => ?_)
    · rw [if_pos c6] at hF
      refine v_iconst (v := (-1)) dX11_meet_29 (by decide) ?_
      refine v_ireturn rfl dX11_meet_30 ?_
      obtain ⟨rfl, rfl⟩ := Prod.mk.inj (Option.some.inj hF)
      exact ⟨rfl, rfl, hG⟩
    · rw [if_neg c6] at hF
      refine v_iload_n (i := 3) dX11_meet_22 rfl rfl ?_
      obtain ⟨q7, q7_e, hF⟩ := Option.bind_eq_some_iff.mp hF
      refine c_X11_237 rfl (Nat.le_of_ble_eq_true rfl) dX11_meet_23 (s_X11_isNoughtOrOne _ q7_e hG) (fun r1 h1 hq => ?_)
      obtain ⟨rfl, hq, hG⟩ := hq
      replace hq := hq.symm
      subst hq
      show V _ _ _ _ (_ :: _) _ _
      refine v_if_ne 31 dX11_meet_26 (by decide) (fun c9 => ?_) (fun c9 => ?_)
      · rw [if_neg c9] at hF
        refine v_aload_n (i := 0) dX11_meet_31 rfl rfl ?_
        refine g_X11_77 (q := 204) rfl sh_0 (by exact ltG hG (by decide)) (by exact rG hG r0_0_12) dX11_meet_32 ?_
        refine v_aload_n (i := 0) dX11_meet_35 rfl rfl ?_
        refine g_X11_44 (q := 30) rfl sh_0 (by exact ltG hG (by decide)) (by exact rG hG r0_0_6) dX11_meet_36 ?_
        obtain ⟨q10, q10_e, hF⟩ := Option.bind_eq_some_iff.mp hF
        refine c_X11_246 rfl sh_204 (by exact ltG hG (by decide)) (Nat.le_of_ble_eq_true rfl) dX11_meet_39 (s_X10_look _ q10_e hG (by first | assumption | exact sc_30 | exact sc_34 | exact sc_10 | exact fd_24 | exact fd_4 | exact lw_25 | exact lw_5 | exact bd_23 | exact bd_3 | exact ⟨by first | assumption | rfl, by first | decide | omega⟩)) (fun r1 h1 hq => ?_)
        obtain ⟨rfl, hq, hG⟩ := hq
        replace hq := hq.symm
        subst hq
        simp only [Option.toList, List.nil_append]
        refine v_aload_n (i := 0) dX11_meet_42 rfl rfl ?_
        refine g_X11_77 (q := 204) rfl sh_0 (by exact ltG hG (by decide)) (by exact rG hG r0_0_12) dX11_meet_43 ?_
        refine v_aload_n (i := 0) dX11_meet_46 rfl rfl ?_
        refine g_X11_44 (q := 30) rfl sh_0 (by exact ltG hG (by decide)) (by exact rG hG r0_0_6) dX11_meet_47 ?_
        refine g_X11_163 (q := 32) rfl sh_30 (by exact ltG hG (by decide)) (by exact rG hG r0_30_5) dX11_meet_50 ?_
        refine v_iload_n (i := 1) dX11_meet_53 rfl rfl ?_
        obtain ⟨k12, hF⟩ := ck_some hF
        refine v_iaload sh_32 (by exact ltG hG (by decide)) (ixO k12) dX11_meet_54 ?_
        refine v_aload_n (i := 0) dX11_meet_55 rfl rfl ?_
        refine g_X11_44 (q := 30) rfl sh_0 (by exact ltG hG (by decide)) (by exact rG hG r0_0_6) dX11_meet_56 ?_
        refine g_X11_163 (q := 32) rfl sh_30 (by exact ltG hG (by decide)) (by exact rG hG r0_30_5) dX11_meet_59 ?_
        refine v_iload_n (i := 2) dX11_meet_62 rfl rfl ?_
        obtain ⟨k13, hF⟩ := ck_some hF
        refine v_iaload sh_32 (by exact ltG hG (by decide)) (ixO k13) dX11_meet_63 ?_
        obtain ⟨q14, q14_e, hF⟩ := Option.bind_eq_some_iff.mp hF
        refine c_X11_263 rfl sh_204 (by exact ltG hG (by decide)) (Nat.le_of_ble_eq_true rfl) dX11_meet_64 (s_X10_findMeeting _ q14_e hG) (fun r1 h1 hq => ?_)
        obtain ⟨rfl, hq, hG⟩ := hq
        replace hq := hq.symm
        subst hq
        show V _ _ _ _ (_ :: _) _ _
        refine v_if_ne 73 dX11_meet_67 (by decide) (fun c16 => ?_) (fun c16 => ?_)
        · rw [if_neg c16] at hF
          refine v_iload_n (i := 3) dX11_meet_73 rfl rfl ?_
          refine v_if_ne 87 dX11_meet_74 (by decide) (fun c17 => ?_) (fun c17 => ?_)
          · rw [if_neg c17] at hF
            refine v_aload_n (i := 0) dX11_meet_87 rfl rfl ?_
            refine g_X11_77 (q := 204) rfl sh_0 (by exact ltG hG (by decide)) (by exact rG hG r0_0_12) dX11_meet_88 ?_
            refine g_X11_269 rfl sh_204 (by exact ltG hG (by decide)) dX11_meet_91 ?_
            refine v_ireturn rfl dX11_meet_94 ?_
            obtain ⟨rfl, rfl⟩ := Prod.mk.inj (Option.some.inj hF)
            exact ⟨rfl, rfl, hG⟩
          · rw [if_pos c17] at hF
            refine v_aload_n (i := 0) dX11_meet_77 rfl rfl ?_
            refine g_X11_77 (q := 204) rfl sh_0 (by exact ltG hG (by decide)) (by exact rG hG r0_0_12) dX11_meet_78 ?_
            refine g_X11_266 rfl sh_204 (by exact ltG hG (by decide)) dX11_meet_81 ?_
            refine v_goto 94 dX11_meet_84 (by decide) ?_
            refine v_ireturn rfl dX11_meet_94 ?_
            obtain ⟨rfl, rfl⟩ := Prod.mk.inj (Option.some.inj hF)
            exact ⟨rfl, rfl, hG⟩
        · rw [if_pos c16] at hF
          refine v_bipush (v := (-2)) dX11_meet_70 (by decide) ?_
          refine v_ireturn rfl dX11_meet_72 ?_
          obtain ⟨rfl, rfl⟩ := Prod.mk.inj (Option.some.inj hF)
          exact ⟨rfl, rfl, hG⟩
      · rw [if_pos c9] at hF
        refine v_iconst (v := (-1)) dX11_meet_29 (by decide) ?_
        refine v_ireturn rfl dX11_meet_30 ?_
        obtain ⟨rfl, rfl⟩ := Prod.mk.inj (Option.some.inj hF)
        exact ⟨rfl, rfl, hG⟩
def F_X11_way (n : Nat) (h : Hp) (x1 : Int32) (x2 : Int32) (x3 : Int32) : Option (Int32 × Hp) := ((F_X11_isFree n h x1).bind (fun q1 => (if (q1.1 : Int32) = 0 then some ((-1), q1.2) else ((F_X11_isFree n q1.2 x2).bind (fun q4 => (if (q4.1 : Int32) = 0 then some ((-1), q4.2) else ((F_X10_look n q4.2 30).bind (fun q7 => ((F_X10_fewest n q7 x1 x2 (hi q7 30 0) 0 100).bind (fun q9 => (if (q9.1 : Int32) = ((-1) : Int32) then some ((-2), q9.2) else (if (x3 : Int32) = ((-1) : Int32) then some (q9.1, q9.2) else (if (x3 : Int32) < 0 then some ((-1), q9.2) else (if (x3 : Int32) ≤ (q9.1 : Int32) then ((F_X10_cellOnWay n q9.2 x1 x2 q9.1 x3).bind (fun q15 => some (q15.1, q15.2))) else some ((-1), q9.2)))))))))))))))
set_option maxRecDepth 100000 in
set_option maxHeartbeats 4000000 in
theorem s_X11_way (d : Nat) {n : Nat} {h : Hp} {x1 : Int32} {x2 : Int32} {x3 : Int32} {q0 : (Int32 × Hp)} (hF : F_X11_way n h x1 x2 x3 = some q0) (hG : G h)  : Kc mX11_way (d + 4) [.ref 0, .int x1, .int x2, .int x3] h (fun r1 h1 => r1 = some (.int q0.1) ∧ h1 = q0.2 ∧ G q0.2) := by
  obtain ⟨r, h'⟩ := q0
  unfold F_X11_way at hF
  refine Kc.of [some (.ref 0), some (.int x1), some (.int x2), some (.int x3), none] ok_X11_way rfl (Nat.le_of_ble_eq_true rfl) ?_
  refine v_aload_n (i := 0) dX11_way_0 rfl rfl ?_
  refine v_iload_n (i := 1) dX11_way_1 rfl rfl ?_
  obtain ⟨q1, q1_e, hF⟩ := Option.bind_eq_some_iff.mp hF
  refine c_X11_243 rfl sh_0 (by exact ltG hG (by decide)) (Nat.le_of_ble_eq_true rfl) dX11_way_2 (s_X11_isFree _ q1_e hG) (fun r1 h1 hq => ?_)
  obtain ⟨rfl, hq, hG⟩ := hq
  replace hq := hq.symm
  subst hq
  show V _ _ _ _ (_ :: _) _ _
  refine v_if_eq 16 dX11_way_5 (by decide) (fun c3 => ?_) (fun c3 => ?_)
  · rw [if_pos c3] at hF
    refine v_iconst (v := (-1)) dX11_way_16 (by decide) ?_
    refine v_ireturn rfl dX11_way_17 ?_
    obtain ⟨rfl, rfl⟩ := Prod.mk.inj (Option.some.inj hF)
    exact ⟨rfl, rfl, hG⟩
  · rw [if_neg c3] at hF
    refine v_aload_n (i := 0) dX11_way_8 rfl rfl ?_
    refine v_iload_n (i := 2) dX11_way_9 rfl rfl ?_
    obtain ⟨q4, q4_e, hF⟩ := Option.bind_eq_some_iff.mp hF
    refine c_X11_243 rfl sh_0 (by exact ltG hG (by decide)) (Nat.le_of_ble_eq_true rfl) dX11_way_10 (s_X11_isFree _ q4_e hG) (fun r1 h1 hq => ?_)
    obtain ⟨rfl, hq, hG⟩ := hq
    replace hq := hq.symm
    subst hq
    show V _ _ _ _ (_ :: _) _ _
    refine v_if_ne 18 dX11_way_13 (by decide) (fun c6 => ?_) (fun c6 => ?_)
    · rw [if_neg c6] at hF
      refine v_aload_n (i := 0) dX11_way_18 rfl rfl ?_
      refine g_X11_77 (q := 204) rfl sh_0 (by exact ltG hG (by decide)) (by exact rG hG r0_0_12) dX11_way_19 ?_
      refine v_aload_n (i := 0) dX11_way_22 rfl rfl ?_
      refine g_X11_44 (q := 30) rfl sh_0 (by exact ltG hG (by decide)) (by exact rG hG r0_0_6) dX11_way_23 ?_
      obtain ⟨q7, q7_e, hF⟩ := Option.bind_eq_some_iff.mp hF
      refine c_X11_246 rfl sh_204 (by exact ltG hG (by decide)) (Nat.le_of_ble_eq_true rfl) dX11_way_26 (s_X10_look _ q7_e hG (by first | assumption | exact sc_30 | exact sc_34 | exact sc_10 | exact fd_24 | exact fd_4 | exact lw_25 | exact lw_5 | exact bd_23 | exact bd_3 | exact ⟨by first | assumption | rfl, by first | decide | omega⟩)) (fun r1 h1 hq => ?_)
      obtain ⟨rfl, hq, hG⟩ := hq
      replace hq := hq.symm
      subst hq
      simp only [Option.toList, List.nil_append]
      refine v_aload_n (i := 0) dX11_way_29 rfl rfl ?_
      refine g_X11_77 (q := 204) rfl sh_0 (by exact ltG hG (by decide)) (by exact rG hG r0_0_12) dX11_way_30 ?_
      refine v_iload_n (i := 1) dX11_way_33 rfl rfl ?_
      refine v_iload_n (i := 2) dX11_way_34 rfl rfl ?_
      refine v_aload_n (i := 0) dX11_way_35 rfl rfl ?_
      refine g_X11_44 (q := 30) rfl sh_0 (by exact ltG hG (by decide)) (by exact rG hG r0_0_6) dX11_way_36 ?_
      refine g_X11_139 rfl sh_30 (by exact ltG hG (by decide)) dX11_way_39 ?_
      refine v_iconst (v := 0) dX11_way_42 (by decide) ?_
      refine v_bipush (v := 100) dX11_way_43 (by decide) ?_
      obtain ⟨q9, q9_e, hF⟩ := Option.bind_eq_some_iff.mp hF
      refine c_X11_249 rfl sh_204 (by exact ltG hG (by decide)) (Nat.le_of_ble_eq_true rfl) dX11_way_45 (s_X10_fewest _ q9_e hG) (fun r1 h1 hq => ?_)
      obtain ⟨rfl, hq, hG⟩ := hq
      replace hq := hq.symm
      subst hq
      show V _ _ _ _ (_ :: _) _ _
      refine v_istore (i := 4) dX11_way_48 (by decide) (nlT rfl) ?_
      simp only [List.set_cons_zero, List.set_cons_succ]
      refine v_iload (i := 4) dX11_way_50 rfl ?_
      refine v_iconst (v := (-1)) dX11_way_52 (by decide) ?_
      refine v_icmp_ne 59 dX11_way_53 (by decide) (fun c11 => ?_) (fun c11 => ?_)
      · rw [if_neg c11] at hF
        refine v_iload_n (i := 3) dX11_way_59 rfl rfl ?_
        refine v_iconst (v := (-1)) dX11_way_60 (by decide) ?_
        refine v_icmp_ne 67 dX11_way_61 (by decide) (fun c12 => ?_) (fun c12 => ?_)
        · rw [if_neg c12] at hF
          refine v_iload_n (i := 3) dX11_way_67 rfl rfl ?_
          refine v_if_lt 77 dX11_way_68 (by decide) (fun c13 => ?_) (fun c13 => ?_)
          · rw [if_pos c13] at hF
            refine v_iconst (v := (-1)) dX11_way_77 (by decide) ?_
            refine v_goto 93 dX11_way_78 (by decide) ?_
            refine v_ireturn rfl dX11_way_93 ?_
            obtain ⟨rfl, rfl⟩ := Prod.mk.inj (Option.some.inj hF)
            exact ⟨rfl, rfl, hG⟩
          · rw [if_neg c13] at hF
            refine v_iload_n (i := 3) dX11_way_71 rfl rfl ?_
            refine v_iload (i := 4) dX11_way_72 rfl ?_
            refine v_icmp_le 81 dX11_way_74 (by decide) (fun c14 => ?_) (fun c14 => ?_)
            · rw [if_pos c14] at hF
              refine v_aload_n (i := 0) dX11_way_81 rfl rfl ?_
              refine g_X11_77 (q := 204) rfl sh_0 (by exact ltG hG (by decide)) (by exact rG hG r0_0_12) dX11_way_82 ?_
              refine v_iload_n (i := 1) dX11_way_85 rfl rfl ?_
              refine v_iload_n (i := 2) dX11_way_86 rfl rfl ?_
              refine v_iload (i := 4) dX11_way_87 rfl ?_
              refine v_iload_n (i := 3) dX11_way_89 rfl rfl ?_
              obtain ⟨q15, q15_e, hF⟩ := Option.bind_eq_some_iff.mp hF
              refine c_X11_253 rfl sh_204 (by exact ltG hG (by decide)) (Nat.le_of_ble_eq_true rfl) dX11_way_90 (s_X10_cellOnWay _ q15_e hG) (fun r1 h1 hq => ?_)
              obtain ⟨rfl, hq, hG⟩ := hq
              replace hq := hq.symm
              subst hq
              show V _ _ _ _ (_ :: _) _ _
              refine v_ireturn rfl dX11_way_93 ?_
              obtain ⟨rfl, rfl⟩ := Prod.mk.inj (Option.some.inj hF)
              exact ⟨rfl, rfl, hG⟩
            · rw [if_neg c14] at hF
              refine v_iconst (v := (-1)) dX11_way_77 (by decide) ?_
              refine v_goto 93 dX11_way_78 (by decide) ?_
              refine v_ireturn rfl dX11_way_93 ?_
              obtain ⟨rfl, rfl⟩ := Prod.mk.inj (Option.some.inj hF)
              exact ⟨rfl, rfl, hG⟩
        · rw [if_pos c12] at hF
          refine v_iload (i := 4) dX11_way_64 rfl ?_
          refine v_ireturn rfl dX11_way_66 ?_
          obtain ⟨rfl, rfl⟩ := Prod.mk.inj (Option.some.inj hF)
          exact ⟨rfl, rfl, hG⟩
      · rw [if_pos c11] at hF
        refine v_bipush (v := (-2)) dX11_way_56 (by decide) ?_
        refine v_ireturn rfl dX11_way_58 ?_
        obtain ⟨rfl, rfl⟩ := Prod.mk.inj (Option.some.inj hF)
        exact ⟨rfl, rfl, hG⟩
    · rw [if_pos c6] at hF
      refine v_iconst (v := (-1)) dX11_way_16 (by decide) ?_
      refine v_ireturn rfl dX11_way_17 ?_
      obtain ⟨rfl, rfl⟩ := Prod.mk.inj (Option.some.inj hF)
      exact ⟨rfl, rfl, hG⟩
