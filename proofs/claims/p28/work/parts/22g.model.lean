def hk_500 : Hp := mkH hk_30
def hk_501 : Hp := (wrR (mkH (wrR (mkH (wrR (mkH (wrI (wrR (mkH (wrR (mkH (wrR (mkH (wrR (mkH (wrR (mkH (wrR (mkH (wrR (mkH hk_500) 226 1 (some 227))) 226 3 (some 228))) 226 5 (some 229))) 226 6 (some 230))) 226 7 (some 231))) 226 8 (some 232))) 226 9 (some 233)) 226 17 (-1))) 226 21 (some 234))) 226 22 (some 235))) 226 23 (some 236))
def hk_502 : Hp := (wrR (mkH (wrR (mkH (wrR (mkH (wrR (mkH (wrR (mkH (wrR (mkH (wrR (mkH (wrR (mkH (wrR (mkH (wrR (mkH hk_501) 226 24 (some 237))) 226 25 (some 238))) 226 26 (some 239))) 226 27 (some 240))) 226 28 (some 241))) 226 29 (some 242))) 226 30 (some 243))) 226 31 (some 244))) 226 32 (some 245))) 226 33 (some 246))
def hk_503 : Hp := (wrR (mkH (wrR (mkH (wrR (mkH (wrR (mkH (wrR (mkH (wrR (mkH (wrR (mkH (wrR (mkH (wrR (mkH (wrR (mkH hk_502) 226 34 (some 247))) 226 35 (some 248))) 226 36 (some 249))) 226 37 (some 250))) 226 38 (some 251))) 226 40 (some 252))) 226 41 (some 253))) 226 42 (some 254))) 226 43 (some 255))) 226 44 (some 256))
def hk_504 : Hp := (wrR (mkH (wrR (mkH (wrR (mkH (wrR (mkH (wrR (mkH (wrR (mkH (wrR (mkH (wrR (mkH (wrR (mkH (wrR (mkH hk_503) 226 46 (some 257))) 226 47 (some 258))) 226 48 (some 259))) 226 50 (some 260))) 226 51 (some 261))) 226 53 (some 262))) 226 54 (some 263))) 226 57 (some 264))) 226 58 (some 265))) 226 60 (some 266))
def hk_505 : Hp := (wrR (mkH (wrR (mkH (wrR (mkH (wrR (mkH (wrR (mkH (wrR (mkH (wrR (mkH (wrR (mkH hk_504) 226 61 (some 267))) 226 62 (some 268))) 226 63 (some 269))) 226 64 (some 270))) 226 66 (some 271))) 226 67 (some 272))) 226 68 (some 273))) 226 69 (some 274))
def F_X12_tail (n : Nat) (h : Hp) : Option Hp := ((F_X12_plain n h 0).bind (fun q1 => ((F_X12_plain n q1 1).bind (fun q3 => ((F_X12_letters n q3 108 97 119 110 0 0 0).bind (fun q5 => ((F_X12_letters n (wrL q5.2 233 0 q5.1) 116 117 110 101 0 0 0).bind (fun q7 => ((F_X12_letters n (wrL q7.2 233 1 q7.1) 103 111 101 114 0 0 0).bind (fun q9 => ((F_X12_letters n (wrL q9.2 233 2 q9.1) 114 111 112 101 0 0 0).bind (fun q11 => ((F_X12_letters n (wrL q11.2 233 3 q11.1) 115 116 101 112 115 0 0).bind (fun q13 => ((F_X12_letters n (wrL q13.2 233 4 q13.1) 109 111 118 101 115 0 0).bind (fun q15 => ((F_X12_letters n (wrL q15.2 233 5 q15.1) 115 112 114 101 97 100 115).bind (fun q17 => ((F_X12_letters n (wrL q17.2 233 6 q17.1) 99 111 115 116 115 0 0).bind (fun q19 => ((F_X12_letters n (wrL q19.2 233 7 q19.1) 119 101 116 0 0 0 0).bind (fun q21 => ((F_X12_letters n (wrL q21.2 233 8 q21.1) 115 101 101 100 0 0 0).bind (fun q23 => ((F_X12_letters n (wrL q23.2 233 9 q23.1) 105 102 0 0 0 0 0).bind (fun q25 => ((F_X12_letters n (wrL q25.2 233 10 q25.1) 116 104 101 110 0 0 0).bind (fun q27 => ((F_X12_letters n (wrL q27.2 233 11 q27.1) 101 108 115 101 0 0 0).bind (fun q29 => ((F_X12_letters n (wrL q29.2 233 12 q29.1) 108 101 102 116 0 0 0).bind (fun q31 => ((F_X12_letters n (wrL q31.2 233 13 q31.1) 116 111 112 0 0 0 0).bind (fun q33 => ((F_X12_letters n (wrL q33.2 233 14 q33.1) 116 105 109 101 0 0 0).bind (fun q35 => ((F_X12_letters n (wrL q35.2 233 15 q35.1) 98 101 97 116 0 0 0).bind (fun q37 => ((F_X12_letters n (wrL q37.2 233 16 q37.1) 109 111 118 101 100 0 0).bind (fun q39 => ((F_X12_letters n (wrL q39.2 233 17 q39.1) 119 104 105 99 104 0 0).bind (fun q41 => ((F_X12_letters n (wrL q41.2 233 18 q41.1) 119 105 100 101 0 0 0).bind (fun q43 => ((F_X12_letters n (wrL q43.2 233 19 q43.1) 104 105 103 104 0 0 0).bind (fun q45 => ((F_X12_letters n (wrL q45.2 233 20 q45.1) 116 117 110 101 115 0 0).bind (fun q47 => ((F_X12_begins n (wrL q47.2 233 21 q47.1)).bind (fun q49 => ((F_X12_keepsRow n q49).bind (fun q51 => some q51))))))))))))))))))))))))))))))))))))))))))))))))))))
set_option maxRecDepth 100000 in
set_option maxHeartbeats 4000000 in
theorem s_X12_tail (d : Nat) {n : Nat} {h : Hp}  {q0 : Hp} (hF : F_X12_tail n h  = some q0) (hG : G h)  : V mX12_init (d + 3) 399 [some (.ref 226)] [] h (fun r1 h1 => r1 = none ∧ h1 = q0 ∧ G q0) := by
  obtain ⟨h', rfl⟩ : ∃ z, z = q0 := ⟨_, rfl⟩
  unfold F_X12_tail at hF
  refine v_aload_n (i := 0) dX12_init_399 rfl rfl ?_
  refine v_iconst (v := 0) dX12_init_400 (by decide) ?_
  obtain ⟨q1, q1_e, hF⟩ := Option.bind_eq_some_iff.mp hF
  refine c_X12_164 rfl sh_226 (by exact ltG hG (by decide)) (Nat.le_of_ble_eq_true rfl) dX12_init_401 (s_X12_plain _ q1_e hG) (fun r1 h1 hq => ?_)
  obtain ⟨rfl, hq, hG⟩ := hq
  replace hq := hq.symm
  subst hq
  simp only [Option.toList, List.nil_append]
  refine v_aload_n (i := 0) dX12_init_404 rfl rfl ?_
  refine v_iconst (v := 1) dX12_init_405 (by decide) ?_
  obtain ⟨q3, q3_e, hF⟩ := Option.bind_eq_some_iff.mp hF
  refine c_X12_164 rfl sh_226 (by exact ltG hG (by decide)) (Nat.le_of_ble_eq_true rfl) dX12_init_406 (s_X12_plain _ q3_e hG) (fun r1 h1 hq => ?_)
  obtain ⟨rfl, hq, hG⟩ := hq
  replace hq := hq.symm
  subst hq
  simp only [Option.toList, List.nil_append]
  refine v_aload_n (i := 0) dX12_init_409 rfl rfl ?_
  refine g_X12_34 (q := 233) rfl sh_226 (by exact ltG hG (by decide)) (by exact rG hG r0_226_9) dX12_init_410 ?_
  refine v_iconst (v := 0) dX12_init_413 (by decide) ?_
  refine v_bipush (v := 108) dX12_init_414 (by decide) ?_
  refine v_bipush (v := 97) dX12_init_416 (by decide) ?_
  refine v_bipush (v := 119) dX12_init_418 (by decide) ?_
  refine v_bipush (v := 110) dX12_init_420 (by decide) ?_
  refine v_iconst (v := 0) dX12_init_422 (by decide) ?_
  refine v_iconst (v := 0) dX12_init_423 (by decide) ?_
  refine v_iconst (v := 0) dX12_init_424 (by decide) ?_
  obtain ⟨q5, q5_e, hF⟩ := Option.bind_eq_some_iff.mp hF
  refine c_X12_168 rfl (Nat.le_of_ble_eq_true rfl) dX12_init_425 (s_X12_letters _ q5_e hG) (fun r1 h1 hq => ?_)
  obtain ⟨rfl, hq, hG⟩ := hq
  replace hq := hq.symm
  subst hq
  show V _ _ _ _ (_ :: _) _ _
  refine v_lastore sh_233 (by exact ltG hG (by decide)) (ixK 0 (by decide)) dX12_init_428 ?_
  refine v_aload_n (i := 0) dX12_init_429 rfl rfl ?_
  refine g_X12_34 (q := 233) rfl sh_226 (by exact ltG hG (by decide)) (by exact rG hG r0_226_9) dX12_init_430 ?_
  refine v_iconst (v := 1) dX12_init_433 (by decide) ?_
  refine v_bipush (v := 116) dX12_init_434 (by decide) ?_
  refine v_bipush (v := 117) dX12_init_436 (by decide) ?_
  refine v_bipush (v := 110) dX12_init_438 (by decide) ?_
  refine v_bipush (v := 101) dX12_init_440 (by decide) ?_
  refine v_iconst (v := 0) dX12_init_442 (by decide) ?_
  refine v_iconst (v := 0) dX12_init_443 (by decide) ?_
  refine v_iconst (v := 0) dX12_init_444 (by decide) ?_
  obtain ⟨q7, q7_e, hF⟩ := Option.bind_eq_some_iff.mp hF
  refine c_X12_168 rfl (Nat.le_of_ble_eq_true rfl) dX12_init_445 (s_X12_letters _ q7_e hG) (fun r1 h1 hq => ?_)
  obtain ⟨rfl, hq, hG⟩ := hq
  replace hq := hq.symm
  subst hq
  show V _ _ _ _ (_ :: _) _ _
  refine v_lastore sh_233 (by exact ltG hG (by decide)) (ixK 1 (by decide)) dX12_init_448 ?_
  refine v_aload_n (i := 0) dX12_init_449 rfl rfl ?_
  refine g_X12_34 (q := 233) rfl sh_226 (by exact ltG hG (by decide)) (by exact rG hG r0_226_9) dX12_init_450 ?_
  refine v_iconst (v := 2) dX12_init_453 (by decide) ?_
  refine v_bipush (v := 103) dX12_init_454 (by decide) ?_
  refine v_bipush (v := 111) dX12_init_456 (by decide) ?_
  refine v_bipush (v := 101) dX12_init_458 (by decide) ?_
  refine v_bipush (v := 114) dX12_init_460 (by decide) ?_
  refine v_iconst (v := 0) dX12_init_462 (by decide) ?_
  refine v_iconst (v := 0) dX12_init_463 (by decide) ?_
  refine v_iconst (v := 0) dX12_init_464 (by decide) ?_
  obtain ⟨q9, q9_e, hF⟩ := Option.bind_eq_some_iff.mp hF
  refine c_X12_168 rfl (Nat.le_of_ble_eq_true rfl) dX12_init_465 (s_X12_letters _ q9_e hG) (fun r1 h1 hq => ?_)
  obtain ⟨rfl, hq, hG⟩ := hq
  replace hq := hq.symm
  subst hq
  show V _ _ _ _ (_ :: _) _ _
  refine v_lastore sh_233 (by exact ltG hG (by decide)) (ixK 2 (by decide)) dX12_init_468 ?_
  refine v_aload_n (i := 0) dX12_init_469 rfl rfl ?_
  refine g_X12_34 (q := 233) rfl sh_226 (by exact ltG hG (by decide)) (by exact rG hG r0_226_9) dX12_init_470 ?_
  refine v_iconst (v := 3) dX12_init_473 (by decide) ?_
  refine v_bipush (v := 114) dX12_init_474 (by decide) ?_
  refine v_bipush (v := 111) dX12_init_476 (by decide) ?_
  refine v_bipush (v := 112) dX12_init_478 (by decide) ?_
  refine v_bipush (v := 101) dX12_init_480 (by decide) ?_
  refine v_iconst (v := 0) dX12_init_482 (by decide) ?_
  refine v_iconst (v := 0) dX12_init_483 (by decide) ?_
  refine v_iconst (v := 0) dX12_init_484 (by decide) ?_
  obtain ⟨q11, q11_e, hF⟩ := Option.bind_eq_some_iff.mp hF
  refine c_X12_168 rfl (Nat.le_of_ble_eq_true rfl) dX12_init_485 (s_X12_letters _ q11_e hG) (fun r1 h1 hq => ?_)
  obtain ⟨rfl, hq, hG⟩ := hq
  replace hq := hq.symm
  subst hq
  show V _ _ _ _ (_ :: _) _ _
  refine v_lastore sh_233 (by exact ltG hG (by decide)) (ixK 3 (by decide)) dX12_init_488 ?_
  refine v_aload_n (i := 0) dX12_init_489 rfl rfl ?_
  refine g_X12_34 (q := 233) rfl sh_226 (by exact ltG hG (by decide)) (by exact rG hG r0_226_9) dX12_init_490 ?_
  refine v_iconst (v := 4) dX12_init_493 (by decide) ?_
  refine v_bipush (v := 115) dX12_init_494 (by decide) ?_
  refine v_bipush (v := 116) dX12_init_496 (by decide) ?_
  refine v_bipush (v := 101) dX12_init_498 (by decide) ?_
  refine v_bipush (v := 112) dX12_init_500 (by decide) ?_
  refine v_bipush (v := 115) dX12_init_502 (by decide) ?_
  refine v_iconst (v := 0) dX12_init_504 (by decide) ?_
  refine v_iconst (v := 0) dX12_init_505 (by decide) ?_
  obtain ⟨q13, q13_e, hF⟩ := Option.bind_eq_some_iff.mp hF
  refine c_X12_168 rfl (Nat.le_of_ble_eq_true rfl) dX12_init_506 (s_X12_letters _ q13_e hG) (fun r1 h1 hq => ?_)
  obtain ⟨rfl, hq, hG⟩ := hq
  replace hq := hq.symm
  subst hq
  show V _ _ _ _ (_ :: _) _ _
  refine v_lastore sh_233 (by exact ltG hG (by decide)) (ixK 4 (by decide)) dX12_init_509 ?_
  refine v_aload_n (i := 0) dX12_init_510 rfl rfl ?_
  refine g_X12_34 (q := 233) rfl sh_226 (by exact ltG hG (by decide)) (by exact rG hG r0_226_9) dX12_init_511 ?_
  refine v_iconst (v := 5) dX12_init_514 (by decide) ?_
  refine v_bipush (v := 109) dX12_init_515 (by decide) ?_
  refine v_bipush (v := 111) dX12_init_517 (by decide) ?_
  refine v_bipush (v := 118) dX12_init_519 (by decide) ?_
  refine v_bipush (v := 101) dX12_init_521 (by decide) ?_
  refine v_bipush (v := 115) dX12_init_523 (by decide) ?_
  refine v_iconst (v := 0) dX12_init_525 (by decide) ?_
  refine v_iconst (v := 0) dX12_init_526 (by decide) ?_
  obtain ⟨q15, q15_e, hF⟩ := Option.bind_eq_some_iff.mp hF
  refine c_X12_168 rfl (Nat.le_of_ble_eq_true rfl) dX12_init_527 (s_X12_letters _ q15_e hG) (fun r1 h1 hq => ?_)
  obtain ⟨rfl, hq, hG⟩ := hq
  replace hq := hq.symm
  subst hq
  show V _ _ _ _ (_ :: _) _ _
  refine v_lastore sh_233 (by exact ltG hG (by decide)) (ixK 5 (by decide)) dX12_init_530 ?_
  refine v_aload_n (i := 0) dX12_init_531 rfl rfl ?_
  refine g_X12_34 (q := 233) rfl sh_226 (by exact ltG hG (by decide)) (by exact rG hG r0_226_9) dX12_init_532 ?_
  refine v_bipush (v := 6) dX12_init_535 (by decide) ?_
  refine v_bipush (v := 115) dX12_init_537 (by decide) ?_
  refine v_bipush (v := 112) dX12_init_539 (by decide) ?_
  refine v_bipush (v := 114) dX12_init_541 (by decide) ?_
  refine v_bipush (v := 101) dX12_init_543 (by decide) ?_
  refine v_bipush (v := 97) dX12_init_545 (by decide) ?_
  refine v_bipush (v := 100) dX12_init_547 (by decide) ?_
  refine v_bipush (v := 115) dX12_init_549 (by decide) ?_
  obtain ⟨q17, q17_e, hF⟩ := Option.bind_eq_some_iff.mp hF
  refine c_X12_168 rfl (Nat.le_of_ble_eq_true rfl) dX12_init_551 (s_X12_letters _ q17_e hG) (fun r1 h1 hq => ?_)
  obtain ⟨rfl, hq, hG⟩ := hq
  replace hq := hq.symm
  subst hq
  show V _ _ _ _ (_ :: _) _ _
  refine v_lastore sh_233 (by exact ltG hG (by decide)) (ixK 6 (by decide)) dX12_init_554 ?_
  refine v_aload_n (i := 0) dX12_init_555 rfl rfl ?_
  refine g_X12_34 (q := 233) rfl sh_226 (by exact ltG hG (by decide)) (by exact rG hG r0_226_9) dX12_init_556 ?_
  refine v_bipush (v := 7) dX12_init_559 (by decide) ?_
  refine v_bipush (v := 99) dX12_init_561 (by decide) ?_
  refine v_bipush (v := 111) dX12_init_563 (by decide) ?_
  refine v_bipush (v := 115) dX12_init_565 (by decide) ?_
  refine v_bipush (v := 116) dX12_init_567 (by decide) ?_
  refine v_bipush (v := 115) dX12_init_569 (by decide) ?_
  refine v_iconst (v := 0) dX12_init_571 (by decide) ?_
  refine v_iconst (v := 0) dX12_init_572 (by decide) ?_
  obtain ⟨q19, q19_e, hF⟩ := Option.bind_eq_some_iff.mp hF
  refine c_X12_168 rfl (Nat.le_of_ble_eq_true rfl) dX12_init_573 (s_X12_letters _ q19_e hG) (fun r1 h1 hq => ?_)
  obtain ⟨rfl, hq, hG⟩ := hq
  replace hq := hq.symm
  subst hq
  show V _ _ _ _ (_ :: _) _ _
  refine v_lastore sh_233 (by exact ltG hG (by decide)) (ixK 7 (by decide)) dX12_init_576 ?_
  refine v_aload_n (i := 0) dX12_init_577 rfl rfl ?_
  refine g_X12_34 (q := 233) rfl sh_226 (by exact ltG hG (by decide)) (by exact rG hG r0_226_9) dX12_init_578 ?_
  refine v_bipush (v := 8) dX12_init_581 (by decide) ?_
  refine v_bipush (v := 119) dX12_init_583 (by decide) ?_
  refine v_bipush (v := 101) dX12_init_585 (by decide) ?_
  refine v_bipush (v := 116) dX12_init_587 (by decide) ?_
  refine v_iconst (v := 0) dX12_init_589 (by decide) ?_
  refine v_iconst (v := 0) dX12_init_590 (by decide) ?_
  refine v_iconst (v := 0) dX12_init_591 (by decide) ?_
  refine v_iconst (v := 0) dX12_init_592 (by decide) ?_
  obtain ⟨q21, q21_e, hF⟩ := Option.bind_eq_some_iff.mp hF
  refine c_X12_168 rfl (Nat.le_of_ble_eq_true rfl) dX12_init_593 (s_X12_letters _ q21_e hG) (fun r1 h1 hq => ?_)
  obtain ⟨rfl, hq, hG⟩ := hq
  replace hq := hq.symm
  subst hq
  show V _ _ _ _ (_ :: _) _ _
  refine v_lastore sh_233 (by exact ltG hG (by decide)) (ixK 8 (by decide)) dX12_init_596 ?_
  refine v_aload_n (i := 0) dX12_init_597 rfl rfl ?_
  refine g_X12_34 (q := 233) rfl sh_226 (by exact ltG hG (by decide)) (by exact rG hG r0_226_9) dX12_init_598 ?_
  refine v_bipush (v := 9) dX12_init_601 (by decide) ?_
  refine v_bipush (v := 115) dX12_init_603 (by decide) ?_
  refine v_bipush (v := 101) dX12_init_605 (by decide) ?_
  refine v_bipush (v := 101) dX12_init_607 (by decide) ?_
  refine v_bipush (v := 100) dX12_init_609 (by decide) ?_
  refine v_iconst (v := 0) dX12_init_611 (by decide) ?_
  refine v_iconst (v := 0) dX12_init_612 (by decide) ?_
  refine v_iconst (v := 0) dX12_init_613 (by decide) ?_
  obtain ⟨q23, q23_e, hF⟩ := Option.bind_eq_some_iff.mp hF
  refine c_X12_168 rfl (Nat.le_of_ble_eq_true rfl) dX12_init_614 (s_X12_letters _ q23_e hG) (fun r1 h1 hq => ?_)
  obtain ⟨rfl, hq, hG⟩ := hq
  replace hq := hq.symm
  subst hq
  show V _ _ _ _ (_ :: _) _ _
  refine v_lastore sh_233 (by exact ltG hG (by decide)) (ixK 9 (by decide)) dX12_init_617 ?_
  refine v_aload_n (i := 0) dX12_init_618 rfl rfl ?_
  refine g_X12_34 (q := 233) rfl sh_226 (by exact ltG hG (by decide)) (by exact rG hG r0_226_9) dX12_init_619 ?_
  refine v_bipush (v := 10) dX12_init_622 (by decide) ?_
  refine v_bipush (v := 105) dX12_init_624 (by decide) ?_
  refine v_bipush (v := 102) dX12_init_626 (by decide) ?_
  refine v_iconst (v := 0) dX12_init_628 (by decide) ?_
  refine v_iconst (v := 0) dX12_init_629 (by decide) ?_
  refine v_iconst (v := 0) dX12_init_630 (by decide) ?_
  refine v_iconst (v := 0) dX12_init_631 (by decide) ?_
  refine v_iconst (v := 0) dX12_init_632 (by decide) ?_
  obtain ⟨q25, q25_e, hF⟩ := Option.bind_eq_some_iff.mp hF
  refine c_X12_168 rfl (Nat.le_of_ble_eq_true rfl) dX12_init_633 (s_X12_letters _ q25_e hG) (fun r1 h1 hq => ?_)
  obtain ⟨rfl, hq, hG⟩ := hq
  replace hq := hq.symm
  subst hq
  show V _ _ _ _ (_ :: _) _ _
  refine v_lastore sh_233 (by exact ltG hG (by decide)) (ixK 10 (by decide)) dX12_init_636 ?_
  refine v_aload_n (i := 0) dX12_init_637 rfl rfl ?_
  refine g_X12_34 (q := 233) rfl sh_226 (by exact ltG hG (by decide)) (by exact rG hG r0_226_9) dX12_init_638 ?_
  refine v_bipush (v := 11) dX12_init_641 (by decide) ?_
  refine v_bipush (v := 116) dX12_init_643 (by decide) ?_
  refine v_bipush (v := 104) dX12_init_645 (by decide) ?_
  refine v_bipush (v := 101) dX12_init_647 (by decide) ?_
  refine v_bipush (v := 110) dX12_init_649 (by decide) ?_
  refine v_iconst (v := 0) dX12_init_651 (by decide) ?_
  refine v_iconst (v := 0) dX12_init_652 (by decide) ?_
  refine v_iconst (v := 0) dX12_init_653 (by decide) ?_
  obtain ⟨q27, q27_e, hF⟩ := Option.bind_eq_some_iff.mp hF
  refine c_X12_168 rfl (Nat.le_of_ble_eq_true rfl) dX12_init_654 (s_X12_letters _ q27_e hG) (fun r1 h1 hq => ?_)
  obtain ⟨rfl, hq, hG⟩ := hq
  replace hq := hq.symm
  subst hq
  show V _ _ _ _ (_ :: _) _ _
  refine v_lastore sh_233 (by exact ltG hG (by decide)) (ixK 11 (by decide)) dX12_init_657 ?_
  refine v_aload_n (i := 0) dX12_init_658 rfl rfl ?_
  refine g_X12_34 (q := 233) rfl sh_226 (by exact ltG hG (by decide)) (by exact rG hG r0_226_9) dX12_init_659 ?_
  refine v_bipush (v := 12) dX12_init_662 (by decide) ?_
  refine v_bipush (v := 101) dX12_init_664 (by decide) ?_
  refine v_bipush (v := 108) dX12_init_666 (by decide) ?_
  refine v_bipush (v := 115) dX12_init_668 (by decide) ?_
  refine v_bipush (v := 101) dX12_init_670 (by decide) ?_
  refine v_iconst (v := 0) dX12_init_672 (by decide) ?_
  refine v_iconst (v := 0) dX12_init_673 (by decide) ?_
  refine v_iconst (v := 0) dX12_init_674 (by decide) ?_
  obtain ⟨q29, q29_e, hF⟩ := Option.bind_eq_some_iff.mp hF
  refine c_X12_168 rfl (Nat.le_of_ble_eq_true rfl) dX12_init_675 (s_X12_letters _ q29_e hG) (fun r1 h1 hq => ?_)
  obtain ⟨rfl, hq, hG⟩ := hq
  replace hq := hq.symm
  subst hq
  show V _ _ _ _ (_ :: _) _ _
  refine v_lastore sh_233 (by exact ltG hG (by decide)) (ixK 12 (by decide)) dX12_init_678 ?_
  refine v_aload_n (i := 0) dX12_init_679 rfl rfl ?_
  refine g_X12_34 (q := 233) rfl sh_226 (by exact ltG hG (by decide)) (by exact rG hG r0_226_9) dX12_init_680 ?_
  refine v_bipush (v := 13) dX12_init_683 (by decide) ?_
  refine v_bipush (v := 108) dX12_init_685 (by decide) ?_
  refine v_bipush (v := 101) dX12_init_687 (by decide) ?_
  refine v_bipush (v := 102) dX12_init_689 (by decide) ?_
  refine v_bipush (v := 116) dX12_init_691 (by decide) ?_
  refine v_iconst (v := 0) dX12_init_693 (by decide) ?_
  refine v_iconst (v := 0) dX12_init_694 (by decide) ?_
  refine v_iconst (v := 0) dX12_init_695 (by decide) ?_
  obtain ⟨q31, q31_e, hF⟩ := Option.bind_eq_some_iff.mp hF
  refine c_X12_168 rfl (Nat.le_of_ble_eq_true rfl) dX12_init_696 (s_X12_letters _ q31_e hG) (fun r1 h1 hq => ?_)
  obtain ⟨rfl, hq, hG⟩ := hq
  replace hq := hq.symm
  subst hq
  show V _ _ _ _ (_ :: _) _ _
  refine v_lastore sh_233 (by exact ltG hG (by decide)) (ixK 13 (by decide)) dX12_init_699 ?_
  refine v_aload_n (i := 0) dX12_init_700 rfl rfl ?_
  refine g_X12_34 (q := 233) rfl sh_226 (by exact ltG hG (by decide)) (by exact rG hG r0_226_9) dX12_init_701 ?_
  refine v_bipush (v := 14) dX12_init_704 (by decide) ?_
  refine v_bipush (v := 116) dX12_init_706 (by decide) ?_
  refine v_bipush (v := 111) dX12_init_708 (by decide) ?_
  refine v_bipush (v := 112) dX12_init_710 (by decide) ?_
  refine v_iconst (v := 0) dX12_init_712 (by decide) ?_
  refine v_iconst (v := 0) dX12_init_713 (by decide) ?_
  refine v_iconst (v := 0) dX12_init_714 (by decide) ?_
  refine v_iconst (v := 0) dX12_init_715 (by decide) ?_
  obtain ⟨q33, q33_e, hF⟩ := Option.bind_eq_some_iff.mp hF
  refine c_X12_168 rfl (Nat.le_of_ble_eq_true rfl) dX12_init_716 (s_X12_letters _ q33_e hG) (fun r1 h1 hq => ?_)
  obtain ⟨rfl, hq, hG⟩ := hq
  replace hq := hq.symm
  subst hq
  show V _ _ _ _ (_ :: _) _ _
  refine v_lastore sh_233 (by exact ltG hG (by decide)) (ixK 14 (by decide)) dX12_init_719 ?_
  refine v_aload_n (i := 0) dX12_init_720 rfl rfl ?_
  refine g_X12_34 (q := 233) rfl sh_226 (by exact ltG hG (by decide)) (by exact rG hG r0_226_9) dX12_init_721 ?_
  refine v_bipush (v := 15) dX12_init_724 (by decide) ?_
  refine v_bipush (v := 116) dX12_init_726 (by decide) ?_
  refine v_bipush (v := 105) dX12_init_728 (by decide) ?_
  refine v_bipush (v := 109) dX12_init_730 (by decide) ?_
  refine v_bipush (v := 101) dX12_init_732 (by decide) ?_
  refine v_iconst (v := 0) dX12_init_734 (by decide) ?_
  refine v_iconst (v := 0) dX12_init_735 (by decide) ?_
  refine v_iconst (v := 0) dX12_init_736 (by decide) ?_
  obtain ⟨q35, q35_e, hF⟩ := Option.bind_eq_some_iff.mp hF
  refine c_X12_168 rfl (Nat.le_of_ble_eq_true rfl) dX12_init_737 (s_X12_letters _ q35_e hG) (fun r1 h1 hq => ?_)
  obtain ⟨rfl, hq, hG⟩ := hq
  replace hq := hq.symm
  subst hq
  show V _ _ _ _ (_ :: _) _ _
  refine v_lastore sh_233 (by exact ltG hG (by decide)) (ixK 15 (by decide)) dX12_init_740 ?_
  refine v_aload_n (i := 0) dX12_init_741 rfl rfl ?_
  refine g_X12_34 (q := 233) rfl sh_226 (by exact ltG hG (by decide)) (by exact rG hG r0_226_9) dX12_init_742 ?_
  refine v_bipush (v := 16) dX12_init_745 (by decide) ?_
  refine v_bipush (v := 98) dX12_init_747 (by decide) ?_
  refine v_bipush (v := 101) dX12_init_749 (by decide) ?_
  refine v_bipush (v := 97) dX12_init_751 (by decide) ?_
  refine v_bipush (v := 116) dX12_init_753 (by decide) ?_
  refine v_iconst (v := 0) dX12_init_755 (by decide) ?_
  refine v_iconst (v := 0) dX12_init_756 (by decide) ?_
  refine v_iconst (v := 0) dX12_init_757 (by decide) ?_
  obtain ⟨q37, q37_e, hF⟩ := Option.bind_eq_some_iff.mp hF
  refine c_X12_168 rfl (Nat.le_of_ble_eq_true rfl) dX12_init_758 (s_X12_letters _ q37_e hG) (fun r1 h1 hq => ?_)
  obtain ⟨rfl, hq, hG⟩ := hq
  replace hq := hq.symm
  subst hq
  show V _ _ _ _ (_ :: _) _ _
  refine v_lastore sh_233 (by exact ltG hG (by decide)) (ixK 16 (by decide)) dX12_init_761 ?_
  refine v_aload_n (i := 0) dX12_init_762 rfl rfl ?_
  refine g_X12_34 (q := 233) rfl sh_226 (by exact ltG hG (by decide)) (by exact rG hG r0_226_9) dX12_init_763 ?_
  refine v_bipush (v := 17) dX12_init_766 (by decide) ?_
  refine v_bipush (v := 109) dX12_init_768 (by decide) ?_
  refine v_bipush (v := 111) dX12_init_770 (by decide) ?_
  refine v_bipush (v := 118) dX12_init_772 (by decide) ?_
  refine v_bipush (v := 101) dX12_init_774 (by decide) ?_
  refine v_bipush (v := 100) dX12_init_776 (by decide) ?_
  refine v_iconst (v := 0) dX12_init_778 (by decide) ?_
  refine v_iconst (v := 0) dX12_init_779 (by decide) ?_
  obtain ⟨q39, q39_e, hF⟩ := Option.bind_eq_some_iff.mp hF
  refine c_X12_168 rfl (Nat.le_of_ble_eq_true rfl) dX12_init_780 (s_X12_letters _ q39_e hG) (fun r1 h1 hq => ?_)
  obtain ⟨rfl, hq, hG⟩ := hq
  replace hq := hq.symm
  subst hq
  show V _ _ _ _ (_ :: _) _ _
  refine v_lastore sh_233 (by exact ltG hG (by decide)) (ixK 17 (by decide)) dX12_init_783 ?_
  refine v_aload_n (i := 0) dX12_init_784 rfl rfl ?_
  refine g_X12_34 (q := 233) rfl sh_226 (by exact ltG hG (by decide)) (by exact rG hG r0_226_9) dX12_init_785 ?_
  refine v_bipush (v := 18) dX12_init_788 (by decide) ?_
  refine v_bipush (v := 119) dX12_init_790 (by decide) ?_
  refine v_bipush (v := 104) dX12_init_792 (by decide) ?_
  refine v_bipush (v := 105) dX12_init_794 (by decide) ?_
  refine v_bipush (v := 99) dX12_init_796 (by decide) ?_
  refine v_bipush (v := 104) dX12_init_798 (by decide) ?_
  refine v_iconst (v := 0) dX12_init_800 (by decide) ?_
  refine v_iconst (v := 0) dX12_init_801 (by decide) ?_
  obtain ⟨q41, q41_e, hF⟩ := Option.bind_eq_some_iff.mp hF
  refine c_X12_168 rfl (Nat.le_of_ble_eq_true rfl) dX12_init_802 (s_X12_letters _ q41_e hG) (fun r1 h1 hq => ?_)
  obtain ⟨rfl, hq, hG⟩ := hq
  replace hq := hq.symm
  subst hq
  show V _ _ _ _ (_ :: _) _ _
  refine v_lastore sh_233 (by exact ltG hG (by decide)) (ixK 18 (by decide)) dX12_init_805 ?_
  refine v_aload_n (i := 0) dX12_init_806 rfl rfl ?_
  refine g_X12_34 (q := 233) rfl sh_226 (by exact ltG hG (by decide)) (by exact rG hG r0_226_9) dX12_init_807 ?_
  refine v_bipush (v := 19) dX12_init_810 (by decide) ?_
  refine v_bipush (v := 119) dX12_init_812 (by decide) ?_
  refine v_bipush (v := 105) dX12_init_814 (by decide) ?_
  refine v_bipush (v := 100) dX12_init_816 (by decide) ?_
  refine v_bipush (v := 101) dX12_init_818 (by decide) ?_
  refine v_iconst (v := 0) dX12_init_820 (by decide) ?_
  refine v_iconst (v := 0) dX12_init_821 (by decide) ?_
  refine v_iconst (v := 0) dX12_init_822 (by decide) ?_
  obtain ⟨q43, q43_e, hF⟩ := Option.bind_eq_some_iff.mp hF
  refine c_X12_168 rfl (Nat.le_of_ble_eq_true rfl) dX12_init_823 (s_X12_letters _ q43_e hG) (fun r1 h1 hq => ?_)
  obtain ⟨rfl, hq, hG⟩ := hq
  replace hq := hq.symm
  subst hq
  show V _ _ _ _ (_ :: _) _ _
  refine v_lastore sh_233 (by exact ltG hG (by decide)) (ixK 19 (by decide)) dX12_init_826 ?_
  refine v_aload_n (i := 0) dX12_init_827 rfl rfl ?_
  refine g_X12_34 (q := 233) rfl sh_226 (by exact ltG hG (by decide)) (by exact rG hG r0_226_9) dX12_init_828 ?_
  refine v_bipush (v := 20) dX12_init_831 (by decide) ?_
  refine v_bipush (v := 104) dX12_init_833 (by decide) ?_
  refine v_bipush (v := 105) dX12_init_835 (by decide) ?_
  refine v_bipush (v := 103) dX12_init_837 (by decide) ?_
  refine v_bipush (v := 104) dX12_init_839 (by decide) ?_
  refine v_iconst (v := 0) dX12_init_841 (by decide) ?_
  refine v_iconst (v := 0) dX12_init_842 (by decide) ?_
  refine v_iconst (v := 0) dX12_init_843 (by decide) ?_
  obtain ⟨q45, q45_e, hF⟩ := Option.bind_eq_some_iff.mp hF
  refine c_X12_168 rfl (Nat.le_of_ble_eq_true rfl) dX12_init_844 (s_X12_letters _ q45_e hG) (fun r1 h1 hq => ?_)
  obtain ⟨rfl, hq, hG⟩ := hq
  replace hq := hq.symm
  subst hq
  show V _ _ _ _ (_ :: _) _ _
  refine v_lastore sh_233 (by exact ltG hG (by decide)) (ixK 20 (by decide)) dX12_init_847 ?_
  refine v_aload_n (i := 0) dX12_init_848 rfl rfl ?_
  refine g_X12_34 (q := 233) rfl sh_226 (by exact ltG hG (by decide)) (by exact rG hG r0_226_9) dX12_init_849 ?_
  refine v_bipush (v := 21) dX12_init_852 (by decide) ?_
  refine v_bipush (v := 116) dX12_init_854 (by decide) ?_
  refine v_bipush (v := 117) dX12_init_856 (by decide) ?_
  refine v_bipush (v := 110) dX12_init_858 (by decide) ?_
  refine v_bipush (v := 101) dX12_init_860 (by decide) ?_
  refine v_bipush (v := 115) dX12_init_862 (by decide) ?_
  refine v_iconst (v := 0) dX12_init_864 (by decide) ?_
  refine v_iconst (v := 0) dX12_init_865 (by decide) ?_
  obtain ⟨q47, q47_e, hF⟩ := Option.bind_eq_some_iff.mp hF
  refine c_X12_168 rfl (Nat.le_of_ble_eq_true rfl) dX12_init_866 (s_X12_letters _ q47_e hG) (fun r1 h1 hq => ?_)
  obtain ⟨rfl, hq, hG⟩ := hq
  replace hq := hq.symm
  subst hq
  show V _ _ _ _ (_ :: _) _ _
  refine v_lastore sh_233 (by exact ltG hG (by decide)) (ixK 21 (by decide)) dX12_init_869 ?_
  refine v_aload_n (i := 0) dX12_init_870 rfl rfl ?_
  obtain ⟨q49, q49_e, hF⟩ := Option.bind_eq_some_iff.mp hF
  refine c_X12_172 rfl sh_226 (by exact ltG hG (by decide)) (Nat.le_of_ble_eq_true rfl) dX12_init_871 (s_X12_begins _ q49_e hG) (fun r1 h1 hq => ?_)
  obtain ⟨rfl, hq, hG⟩ := hq
  replace hq := hq.symm
  subst hq
  simp only [Option.toList, List.nil_append]
  refine v_aload_n (i := 0) dX12_init_874 rfl rfl ?_
  obtain ⟨q51, q51_e, hF⟩ := Option.bind_eq_some_iff.mp hF
  refine c_X12_175 rfl sh_226 (by exact ltG hG (by decide)) (Nat.le_of_ble_eq_true rfl) dX12_init_875 (s_X12_keepsRow _ q51_e hG) (fun r1 h1 hq => ?_)
  obtain ⟨rfl, hq, hG⟩ := hq
  replace hq := hq.symm
  subst hq
  simp only [Option.toList, List.nil_append]
  refine v_return rfl dX12_init_878 ?_
  obtain rfl := Option.some.inj hF
  exact ⟨rfl, rfl, hG⟩
def hk_Z : Hp := (F_X12_tail 300 hk_505).getD hE
theorem some12 : (F_X12_tail 300 hk_505).isSome = true := by decide +kernel
theorem g12 : G hk_505 := ⟨by decide +kernel, by decide +kernel⟩
theorem k_X12_init_226 (d : Nat) : Kc mX12_init (d + 3) [.ref 226] hk_500 (fun r h' => r = none ∧ h' = hk_Z ∧ G hk_Z) := by
  refine Kc.of [some (.ref 226)] ok_X12_init rfl (Nat.le_of_ble_eq_true rfl) ?_
  refine v_aload_n (i := 0) dX12_init_0 rfl rfl ?_
  refine v_objInit ml_X12_7 oi_im oi_code (Nat.le_of_ble_eq_true rfl) dX12_init_1 ?_
  refine v_aload_n (i := 0) dX12_init_4 rfl rfl ?_
  refine v_sipush (v := 2000) dX12_init_5 (by decide) ?_
  refine v_newarr (q := 227) (ty := .byte) (N := 2000) (by decide +kernel) rfl 1 (fun _ => rfl) sh_227 ac_byte ⟨nofun, nofun⟩ (fun _ => nofun) (fun _ => nofun) (by decide) (by decide) (by decide) dX12_init_8 ?_
  refine p_X12_13 rfl sh_226 (by decide +kernel) rfl dX12_init_10 ?_
  refine v_aload_n (i := 0) dX12_init_13 rfl rfl ?_
  refine v_sipush (v := 2000) dX12_init_14 (by decide) ?_
  refine v_newarr (q := 228) (ty := .byte) (N := 2000) (by decide +kernel) rfl 1 (fun _ => rfl) sh_228 ac_byte ⟨nofun, nofun⟩ (fun _ => nofun) (fun _ => nofun) (by decide) (by decide) (by decide) dX12_init_17 ?_
  refine p_X12_17 rfl sh_226 (by decide +kernel) rfl dX12_init_19 ?_
  refine v_aload_n (i := 0) dX12_init_22 rfl rfl ?_
  refine v_sipush (v := 403) dX12_init_23 (by decide) ?_
  refine v_newarr (q := 229) (ty := .int) (N := 403) (by decide +kernel) rfl 0 (fun _ => rfl) sh_229 ac_int ⟨nofun, nofun⟩ (fun _ => nofun) (fun _ => nofun) (by decide) (by decide) (by decide) dX12_init_26 ?_
  refine p_X12_20 rfl sh_226 (by decide +kernel) rfl dX12_init_28 ?_
  refine v_aload_n (i := 0) dX12_init_31 rfl rfl ?_
  refine v_sipush (v := 403) dX12_init_32 (by decide) ?_
  refine v_newarr (q := 230) (ty := .int) (N := 403) (by decide +kernel) rfl 0 (fun _ => rfl) sh_230 ac_int ⟨nofun, nofun⟩ (fun _ => nofun) (fun _ => nofun) (by decide) (by decide) (by decide) dX12_init_35 ?_
  refine p_X12_24 rfl sh_226 (by decide +kernel) rfl dX12_init_37 ?_
  refine v_aload_n (i := 0) dX12_init_40 rfl rfl ?_
  refine v_sipush (v := 403) dX12_init_41 (by decide) ?_
  refine v_newarr (q := 231) (ty := .int) (N := 403) (by decide +kernel) rfl 0 (fun _ => rfl) sh_231 ac_int ⟨nofun, nofun⟩ (fun _ => nofun) (fun _ => nofun) (by decide) (by decide) (by decide) dX12_init_44 ?_
  refine p_X12_27 rfl sh_226 (by decide +kernel) rfl dX12_init_46 ?_
  refine v_aload_n (i := 0) dX12_init_49 rfl rfl ?_
  refine v_sipush (v := 403) dX12_init_50 (by decide) ?_
  refine v_newarr (q := 232) (ty := .long) (N := 403) (by decide +kernel) rfl 4 (fun _ => rfl) sh_232 ac_long ⟨nofun, nofun⟩ (fun _ => nofun) (fun _ => nofun) (by decide) (by decide) (by decide) dX12_init_53 ?_
  refine p_X12_30 rfl sh_226 (by decide +kernel) rfl dX12_init_55 ?_
  refine v_aload_n (i := 0) dX12_init_58 rfl rfl ?_
  refine v_bipush (v := 22) dX12_init_59 (by decide) ?_
  refine v_newarr (q := 233) (ty := .long) (N := 22) (by decide +kernel) rfl 4 (fun _ => rfl) sh_233 ac_long ⟨nofun, nofun⟩ (fun _ => nofun) (fun _ => nofun) (by decide) (by decide) (by decide) dX12_init_61 ?_
  refine p_X12_34 rfl sh_226 (by decide +kernel) rfl dX12_init_63 ?_
  refine v_aload_n (i := 0) dX12_init_66 rfl rfl ?_
  refine v_iconst (v := (-1)) dX12_init_67 (by decide) ?_
  refine p_X12_37 rfl sh_226 (by decide +kernel) dX12_init_68 ?_
  refine v_aload_n (i := 0) dX12_init_71 rfl rfl ?_
  refine v_iconst (v := 5) dX12_init_72 (by decide) ?_
  refine v_newarr (q := 234) (ty := .long) (N := 5) (by decide +kernel) rfl 4 (fun _ => rfl) sh_234 ac_long ⟨nofun, nofun⟩ (fun _ => nofun) (fun _ => nofun) (by decide) (by decide) (by decide) dX12_init_73 ?_
  refine p_X12_40 rfl sh_226 (by decide +kernel) rfl dX12_init_75 ?_
  refine v_aload_n (i := 0) dX12_init_78 rfl rfl ?_
  refine v_iconst (v := 2) dX12_init_79 (by decide) ?_
  refine v_newarr (q := 235) (ty := .int) (N := 2) (by decide +kernel) rfl 0 (fun _ => rfl) sh_235 ac_int ⟨nofun, nofun⟩ (fun _ => nofun) (fun _ => nofun) (by decide) (by decide) (by decide) dX12_init_80 ?_
  refine p_X12_43 rfl sh_226 (by decide +kernel) rfl dX12_init_82 ?_
  refine v_aload_n (i := 0) dX12_init_85 rfl rfl ?_
  refine v_iconst (v := 2) dX12_init_86 (by decide) ?_
  refine v_newarr (q := 236) (ty := .int) (N := 2) (by decide +kernel) rfl 0 (fun _ => rfl) sh_236 ac_int ⟨nofun, nofun⟩ (fun _ => nofun) (fun _ => nofun) (by decide) (by decide) (by decide) dX12_init_87 ?_
  refine p_X12_46 rfl sh_226 (by decide +kernel) rfl dX12_init_89 ?_
  show V _ _ _ _ _ hk_501 _
  refine v_aload_n (i := 0) dX12_init_92 rfl rfl ?_
  refine v_iconst (v := 2) dX12_init_93 (by decide) ?_
  refine v_newarr (q := 237) (ty := .int) (N := 2) (by decide +kernel) rfl 0 (fun _ => rfl) sh_237 ac_int ⟨nofun, nofun⟩ (fun _ => nofun) (fun _ => nofun) (by decide) (by decide) (by decide) dX12_init_94 ?_
  refine p_X12_49 rfl sh_226 (by decide +kernel) rfl dX12_init_96 ?_
  refine v_aload_n (i := 0) dX12_init_99 rfl rfl ?_
  refine v_bipush (v := 16) dX12_init_100 (by decide) ?_
  refine v_newarr (q := 238) (ty := .int) (N := 16) (by decide +kernel) rfl 0 (fun _ => rfl) sh_238 ac_int ⟨nofun, nofun⟩ (fun _ => nofun) (fun _ => nofun) (by decide) (by decide) (by decide) dX12_init_102 ?_
  refine p_X12_52 rfl sh_226 (by decide +kernel) rfl dX12_init_104 ?_
  refine v_aload_n (i := 0) dX12_init_107 rfl rfl ?_
  refine v_bipush (v := 16) dX12_init_108 (by decide) ?_
  refine v_newarr (q := 239) (ty := .int) (N := 16) (by decide +kernel) rfl 0 (fun _ => rfl) sh_239 ac_int ⟨nofun, nofun⟩ (fun _ => nofun) (fun _ => nofun) (by decide) (by decide) (by decide) dX12_init_110 ?_
  refine p_X12_55 rfl sh_226 (by decide +kernel) rfl dX12_init_112 ?_
  refine v_aload_n (i := 0) dX12_init_115 rfl rfl ?_
  refine v_bipush (v := 16) dX12_init_116 (by decide) ?_
  refine v_newarr (q := 240) (ty := .int) (N := 16) (by decide +kernel) rfl 0 (fun _ => rfl) sh_240 ac_int ⟨nofun, nofun⟩ (fun _ => nofun) (fun _ => nofun) (by decide) (by decide) (by decide) dX12_init_118 ?_
  refine p_X12_58 rfl sh_226 (by decide +kernel) rfl dX12_init_120 ?_
  refine v_aload_n (i := 0) dX12_init_123 rfl rfl ?_
  refine v_bipush (v := 16) dX12_init_124 (by decide) ?_
  refine v_newarr (q := 241) (ty := .int) (N := 16) (by decide +kernel) rfl 0 (fun _ => rfl) sh_241 ac_int ⟨nofun, nofun⟩ (fun _ => nofun) (fun _ => nofun) (by decide) (by decide) (by decide) dX12_init_126 ?_
  refine p_X12_61 rfl sh_226 (by decide +kernel) rfl dX12_init_128 ?_
  refine v_aload_n (i := 0) dX12_init_131 rfl rfl ?_
  refine v_iconst (v := 2) dX12_init_132 (by decide) ?_
  refine v_newarr (q := 242) (ty := .int) (N := 2) (by decide +kernel) rfl 0 (fun _ => rfl) sh_242 ac_int ⟨nofun, nofun⟩ (fun _ => nofun) (fun _ => nofun) (by decide) (by decide) (by decide) dX12_init_133 ?_
  refine p_X12_64 rfl sh_226 (by decide +kernel) rfl dX12_init_135 ?_
  refine v_aload_n (i := 0) dX12_init_138 rfl rfl ?_
  refine v_bipush (v := 10) dX12_init_139 (by decide) ?_
  refine v_newarr (q := 243) (ty := .int) (N := 10) (by decide +kernel) rfl 0 (fun _ => rfl) sh_243 ac_int ⟨nofun, nofun⟩ (fun _ => nofun) (fun _ => nofun) (by decide) (by decide) (by decide) dX12_init_141 ?_
  refine p_X12_67 rfl sh_226 (by decide +kernel) rfl dX12_init_143 ?_
  refine v_aload_n (i := 0) dX12_init_146 rfl rfl ?_
  refine v_bipush (v := 10) dX12_init_147 (by decide) ?_
  refine v_newarr (q := 244) (ty := .int) (N := 10) (by decide +kernel) rfl 0 (fun _ => rfl) sh_244 ac_int ⟨nofun, nofun⟩ (fun _ => nofun) (fun _ => nofun) (by decide) (by decide) (by decide) dX12_init_149 ?_
  refine p_X12_70 rfl sh_226 (by decide +kernel) rfl dX12_init_151 ?_
  refine v_aload_n (i := 0) dX12_init_154 rfl rfl ?_
  refine v_iconst (v := 2) dX12_init_155 (by decide) ?_
  refine v_newarr (q := 245) (ty := .int) (N := 2) (by decide +kernel) rfl 0 (fun _ => rfl) sh_245 ac_int ⟨nofun, nofun⟩ (fun _ => nofun) (fun _ => nofun) (by decide) (by decide) (by decide) dX12_init_156 ?_
  refine p_X12_73 rfl sh_226 (by decide +kernel) rfl dX12_init_158 ?_
  refine v_aload_n (i := 0) dX12_init_161 rfl rfl ?_
  refine v_bipush (v := 16) dX12_init_162 (by decide) ?_
  refine v_newarr (q := 246) (ty := .int) (N := 16) (by decide +kernel) rfl 0 (fun _ => rfl) sh_246 ac_int ⟨nofun, nofun⟩ (fun _ => nofun) (fun _ => nofun) (by decide) (by decide) (by decide) dX12_init_164 ?_
  refine p_X12_76 rfl sh_226 (by decide +kernel) rfl dX12_init_166 ?_
  show V _ _ _ _ _ hk_502 _
  refine v_aload_n (i := 0) dX12_init_169 rfl rfl ?_
  refine v_bipush (v := 16) dX12_init_170 (by decide) ?_
  refine v_newarr (q := 247) (ty := .int) (N := 16) (by decide +kernel) rfl 0 (fun _ => rfl) sh_247 ac_int ⟨nofun, nofun⟩ (fun _ => nofun) (fun _ => nofun) (by decide) (by decide) (by decide) dX12_init_172 ?_
  refine p_X12_79 rfl sh_226 (by decide +kernel) rfl dX12_init_174 ?_
  refine v_aload_n (i := 0) dX12_init_177 rfl rfl ?_
  refine v_iconst (v := 2) dX12_init_178 (by decide) ?_
  refine v_newarr (q := 248) (ty := .int) (N := 2) (by decide +kernel) rfl 0 (fun _ => rfl) sh_248 ac_int ⟨nofun, nofun⟩ (fun _ => nofun) (fun _ => nofun) (by decide) (by decide) (by decide) dX12_init_179 ?_
  refine p_X12_82 rfl sh_226 (by decide +kernel) rfl dX12_init_181 ?_
  refine v_aload_n (i := 0) dX12_init_184 rfl rfl ?_
  refine v_iconst (v := 2) dX12_init_185 (by decide) ?_
  refine v_newarr (q := 249) (ty := .int) (N := 2) (by decide +kernel) rfl 0 (fun _ => rfl) sh_249 ac_int ⟨nofun, nofun⟩ (fun _ => nofun) (fun _ => nofun) (by decide) (by decide) (by decide) dX12_init_186 ?_
  refine p_X12_85 rfl sh_226 (by decide +kernel) rfl dX12_init_188 ?_
  refine v_aload_n (i := 0) dX12_init_191 rfl rfl ?_
  refine v_bipush (v := 8) dX12_init_192 (by decide) ?_
  refine v_newarr (q := 250) (ty := .int) (N := 8) (by decide +kernel) rfl 0 (fun _ => rfl) sh_250 ac_int ⟨nofun, nofun⟩ (fun _ => nofun) (fun _ => nofun) (by decide) (by decide) (by decide) dX12_init_194 ?_
  refine p_X12_88 rfl sh_226 (by decide +kernel) rfl dX12_init_196 ?_
  refine v_aload_n (i := 0) dX12_init_199 rfl rfl ?_
  refine v_bipush (v := 8) dX12_init_200 (by decide) ?_
  refine v_newarr (q := 251) (ty := .int) (N := 8) (by decide +kernel) rfl 0 (fun _ => rfl) sh_251 ac_int ⟨nofun, nofun⟩ (fun _ => nofun) (fun _ => nofun) (by decide) (by decide) (by decide) dX12_init_202 ?_
  refine p_X12_91 rfl sh_226 (by decide +kernel) rfl dX12_init_204 ?_
  refine v_aload_n (i := 0) dX12_init_207 rfl rfl ?_
  refine v_sipush (v := 260) dX12_init_208 (by decide) ?_
  refine v_newarr (q := 252) (ty := .boolean) (N := 260) (by decide +kernel) rfl 2 (fun _ => rfl) sh_252 ac_boolean ⟨nofun, nofun⟩ (fun _ => nofun) (fun _ => nofun) (by decide) (by decide) (by decide) dX12_init_211 ?_
  refine p_X12_94 rfl sh_226 (by decide +kernel) rfl dX12_init_213 ?_
  refine v_aload_n (i := 0) dX12_init_216 rfl rfl ?_
  refine v_sipush (v := 260) dX12_init_217 (by decide) ?_
  refine v_newarr (q := 253) (ty := .int) (N := 260) (by decide +kernel) rfl 0 (fun _ => rfl) sh_253 ac_int ⟨nofun, nofun⟩ (fun _ => nofun) (fun _ => nofun) (by decide) (by decide) (by decide) dX12_init_220 ?_
  refine p_X12_98 rfl sh_226 (by decide +kernel) rfl dX12_init_222 ?_
  refine v_aload_n (i := 0) dX12_init_225 rfl rfl ?_
  refine v_sipush (v := 260) dX12_init_226 (by decide) ?_
  refine v_newarr (q := 254) (ty := .int) (N := 260) (by decide +kernel) rfl 0 (fun _ => rfl) sh_254 ac_int ⟨nofun, nofun⟩ (fun _ => nofun) (fun _ => nofun) (by decide) (by decide) (by decide) dX12_init_229 ?_
  refine p_X12_101 rfl sh_226 (by decide +kernel) rfl dX12_init_231 ?_
  refine v_aload_n (i := 0) dX12_init_234 rfl rfl ?_
  refine v_sipush (v := 260) dX12_init_235 (by decide) ?_
  refine v_newarr (q := 255) (ty := .int) (N := 260) (by decide +kernel) rfl 0 (fun _ => rfl) sh_255 ac_int ⟨nofun, nofun⟩ (fun _ => nofun) (fun _ => nofun) (by decide) (by decide) (by decide) dX12_init_238 ?_
  refine p_X12_104 rfl sh_226 (by decide +kernel) rfl dX12_init_240 ?_
  refine v_aload_n (i := 0) dX12_init_243 rfl rfl ?_
  refine v_sipush (v := 260) dX12_init_244 (by decide) ?_
  refine v_newarr (q := 256) (ty := .int) (N := 260) (by decide +kernel) rfl 0 (fun _ => rfl) sh_256 ac_int ⟨nofun, nofun⟩ (fun _ => nofun) (fun _ => nofun) (by decide) (by decide) (by decide) dX12_init_247 ?_
  refine p_X12_107 rfl sh_226 (by decide +kernel) rfl dX12_init_249 ?_
  show V _ _ _ _ _ hk_503 _
  refine v_aload_n (i := 0) dX12_init_252 rfl rfl ?_
  refine v_sipush (v := 840) dX12_init_253 (by decide) ?_
  refine v_newarr (q := 257) (ty := .int) (N := 840) (by decide +kernel) rfl 0 (fun _ => rfl) sh_257 ac_int ⟨nofun, nofun⟩ (fun _ => nofun) (fun _ => nofun) (by decide) (by decide) (by decide) dX12_init_256 ?_
  refine p_X12_110 rfl sh_226 (by decide +kernel) rfl dX12_init_258 ?_
  refine v_aload_n (i := 0) dX12_init_261 rfl rfl ?_
  refine v_sipush (v := 840) dX12_init_262 (by decide) ?_
  refine v_newarr (q := 258) (ty := .int) (N := 840) (by decide +kernel) rfl 0 (fun _ => rfl) sh_258 ac_int ⟨nofun, nofun⟩ (fun _ => nofun) (fun _ => nofun) (by decide) (by decide) (by decide) dX12_init_265 ?_
  refine p_X12_113 rfl sh_226 (by decide +kernel) rfl dX12_init_267 ?_
  refine v_aload_n (i := 0) dX12_init_270 rfl rfl ?_
  refine v_bipush (v := 64) dX12_init_271 (by decide) ?_
  refine v_newarr (q := 259) (ty := .int) (N := 64) (by decide +kernel) rfl 0 (fun _ => rfl) sh_259 ac_int ⟨nofun, nofun⟩ (fun _ => nofun) (fun _ => nofun) (by decide) (by decide) (by decide) dX12_init_273 ?_
  refine p_X12_116 rfl sh_226 (by decide +kernel) rfl dX12_init_275 ?_
  refine v_aload_n (i := 0) dX12_init_278 rfl rfl ?_
  refine v_bipush (v := 9) dX12_init_279 (by decide) ?_
  refine v_newarr (q := 260) (ty := .int) (N := 9) (by decide +kernel) rfl 0 (fun _ => rfl) sh_260 ac_int ⟨nofun, nofun⟩ (fun _ => nofun) (fun _ => nofun) (by decide) (by decide) (by decide) dX12_init_281 ?_
  refine p_X12_119 rfl sh_226 (by decide +kernel) rfl dX12_init_283 ?_
  refine v_aload_n (i := 0) dX12_init_286 rfl rfl ?_
  refine v_sipush (v := 400) dX12_init_287 (by decide) ?_
  refine v_newarr (q := 261) (ty := .int) (N := 400) (by decide +kernel) rfl 0 (fun _ => rfl) sh_261 ac_int ⟨nofun, nofun⟩ (fun _ => nofun) (fun _ => nofun) (by decide) (by decide) (by decide) dX12_init_290 ?_
  refine p_X12_122 rfl sh_226 (by decide +kernel) rfl dX12_init_292 ?_
  refine v_aload_n (i := 0) dX12_init_295 rfl rfl ?_
  refine v_bipush (v := 63) dX12_init_296 (by decide) ?_
  refine v_newarr (q := 262) (ty := .int) (N := 63) (by decide +kernel) rfl 0 (fun _ => rfl) sh_262 ac_int ⟨nofun, nofun⟩ (fun _ => nofun) (fun _ => nofun) (by decide) (by decide) (by decide) dX12_init_298 ?_
  refine p_X12_125 rfl sh_226 (by decide +kernel) rfl dX12_init_300 ?_
  refine v_aload_n (i := 0) dX12_init_303 rfl rfl ?_
  refine v_bipush (v := 63) dX12_init_304 (by decide) ?_
  refine v_newarr (q := 263) (ty := .int) (N := 63) (by decide +kernel) rfl 0 (fun _ => rfl) sh_263 ac_int ⟨nofun, nofun⟩ (fun _ => nofun) (fun _ => nofun) (by decide) (by decide) (by decide) dX12_init_306 ?_
  refine p_X12_128 rfl sh_226 (by decide +kernel) rfl dX12_init_308 ?_
  refine v_aload_n (i := 0) dX12_init_311 rfl rfl ?_
  refine v_bipush (v := 125) dX12_init_312 (by decide) ?_
  refine v_newarr (q := 264) (ty := .int) (N := 125) (by decide +kernel) rfl 0 (fun _ => rfl) sh_264 ac_int ⟨nofun, nofun⟩ (fun _ => nofun) (fun _ => nofun) (by decide) (by decide) (by decide) dX12_init_314 ?_
  refine p_X12_131 rfl sh_226 (by decide +kernel) rfl dX12_init_316 ?_
  refine v_aload_n (i := 0) dX12_init_319 rfl rfl ?_
  refine v_iconst (v := 5) dX12_init_320 (by decide) ?_
  refine v_newarr (q := 265) (ty := .int) (N := 5) (by decide +kernel) rfl 0 (fun _ => rfl) sh_265 ac_int ⟨nofun, nofun⟩ (fun _ => nofun) (fun _ => nofun) (by decide) (by decide) (by decide) dX12_init_321 ?_
  refine p_X12_134 rfl sh_226 (by decide +kernel) rfl dX12_init_323 ?_
  refine v_aload_n (i := 0) dX12_init_326 rfl rfl ?_
  refine v_sipush (v := 2520) dX12_init_327 (by decide) ?_
  refine v_newarr (q := 266) (ty := .int) (N := 2520) (by decide +kernel) rfl 0 (fun _ => rfl) sh_266 ac_int ⟨nofun, nofun⟩ (fun _ => nofun) (fun _ => nofun) (by decide) (by decide) (by decide) dX12_init_330 ?_
  refine p_X12_137 rfl sh_226 (by decide +kernel) rfl dX12_init_332 ?_
  show V _ _ _ _ _ hk_504 _
  refine v_aload_n (i := 0) dX12_init_335 rfl rfl ?_
  refine v_bipush (v := 101) dX12_init_336 (by decide) ?_
  refine v_newarr (q := 267) (ty := .int) (N := 101) (by decide +kernel) rfl 0 (fun _ => rfl) sh_267 ac_int ⟨nofun, nofun⟩ (fun _ => nofun) (fun _ => nofun) (by decide) (by decide) (by decide) dX12_init_338 ?_
  refine p_X12_140 rfl sh_226 (by decide +kernel) rfl dX12_init_340 ?_
  refine v_aload_n (i := 0) dX12_init_343 rfl rfl ?_
  refine v_bipush (v := 101) dX12_init_344 (by decide) ?_
  refine v_newarr (q := 268) (ty := .int) (N := 101) (by decide +kernel) rfl 0 (fun _ => rfl) sh_268 ac_int ⟨nofun, nofun⟩ (fun _ => nofun) (fun _ => nofun) (by decide) (by decide) (by decide) dX12_init_346 ?_
  refine p_X12_143 rfl sh_226 (by decide +kernel) rfl dX12_init_348 ?_
  refine v_aload_n (i := 0) dX12_init_351 rfl rfl ?_
  refine v_bipush (v := 101) dX12_init_352 (by decide) ?_
  refine v_newarr (q := 269) (ty := .int) (N := 101) (by decide +kernel) rfl 0 (fun _ => rfl) sh_269 ac_int ⟨nofun, nofun⟩ (fun _ => nofun) (fun _ => nofun) (by decide) (by decide) (by decide) dX12_init_354 ?_
  refine p_X12_146 rfl sh_226 (by decide +kernel) rfl dX12_init_356 ?_
  refine v_aload_n (i := 0) dX12_init_359 rfl rfl ?_
  refine v_bipush (v := 32) dX12_init_360 (by decide) ?_
  refine v_newarr (q := 270) (ty := .int) (N := 32) (by decide +kernel) rfl 0 (fun _ => rfl) sh_270 ac_int ⟨nofun, nofun⟩ (fun _ => nofun) (fun _ => nofun) (by decide) (by decide) (by decide) dX12_init_362 ?_
  refine p_X12_149 rfl sh_226 (by decide +kernel) rfl dX12_init_364 ?_
  refine v_aload_n (i := 0) dX12_init_367 rfl rfl ?_
  refine v_bipush (v := 20) dX12_init_368 (by decide) ?_
  refine v_newarr (q := 271) (ty := .int) (N := 20) (by decide +kernel) rfl 0 (fun _ => rfl) sh_271 ac_int ⟨nofun, nofun⟩ (fun _ => nofun) (fun _ => nofun) (by decide) (by decide) (by decide) dX12_init_370 ?_
  refine p_X12_152 rfl sh_226 (by decide +kernel) rfl dX12_init_372 ?_
  refine v_aload_n (i := 0) dX12_init_375 rfl rfl ?_
  refine v_bipush (v := 20) dX12_init_376 (by decide) ?_
  refine v_newarr (q := 272) (ty := .boolean) (N := 20) (by decide +kernel) rfl 2 (fun _ => rfl) sh_272 ac_boolean ⟨nofun, nofun⟩ (fun _ => nofun) (fun _ => nofun) (by decide) (by decide) (by decide) dX12_init_378 ?_
  refine p_X12_155 rfl sh_226 (by decide +kernel) rfl dX12_init_380 ?_
  refine v_aload_n (i := 0) dX12_init_383 rfl rfl ?_
  refine v_iconst (v := 3) dX12_init_384 (by decide) ?_
  refine v_newarr (q := 273) (ty := .boolean) (N := 3) (by decide +kernel) rfl 2 (fun _ => rfl) sh_273 ac_boolean ⟨nofun, nofun⟩ (fun _ => nofun) (fun _ => nofun) (by decide) (by decide) (by decide) dX12_init_385 ?_
  refine p_X12_158 rfl sh_226 (by decide +kernel) rfl dX12_init_387 ?_
  refine v_aload_n (i := 0) dX12_init_390 rfl rfl ?_
  refine v_sipush (v := 189) dX12_init_391 (by decide) ?_
  refine v_newarr (q := 274) (ty := .int) (N := 189) (by decide +kernel) rfl 0 (fun _ => rfl) sh_274 ac_int ⟨nofun, nofun⟩ (fun _ => nofun) (fun _ => nofun) (by decide) (by decide) (by decide) dX12_init_394 ?_
  refine p_X12_161 rfl sh_226 (by decide +kernel) rfl dX12_init_396 ?_
  show V _ _ _ _ _ hk_505 _
  exact s_X12_tail d (ogetD hE some12) g12
