section
theorem dJ6_bitCount_0f7a4_0 : decode cJ6_bitCount_0f7a4 0 = .ok (.iload_n 0, 1) := by decide +kernel
theorem dJ6_bitCount_0f7a4_1 : decode cJ6_bitCount_0f7a4 1 = .ok (.iload_n 0, 1) := by decide +kernel
theorem dJ6_bitCount_0f7a4_2 : decode cJ6_bitCount_0f7a4 2 = .ok (.iconst 1, 1) := by decide +kernel
theorem dJ6_bitCount_0f7a4_3 : decode cJ6_bitCount_0f7a4 3 = .ok (.iushr, 1) := by decide +kernel
theorem dJ6_bitCount_0f7a4_4 : decode cJ6_bitCount_0f7a4 4 = .ok (.ldc_w 265, 3) := by decide +kernel
theorem dJ6_bitCount_0f7a4_7 : decode cJ6_bitCount_0f7a4 7 = .ok (.iand, 1) := by decide +kernel
theorem dJ6_bitCount_0f7a4_8 : decode cJ6_bitCount_0f7a4 8 = .ok (.isub, 1) := by decide +kernel
theorem dJ6_bitCount_0f7a4_9 : decode cJ6_bitCount_0f7a4 9 = .ok (.istore_n 0, 1) := by decide +kernel
theorem dJ6_bitCount_0f7a4_10 : decode cJ6_bitCount_0f7a4 10 = .ok (.iload_n 0, 1) := by decide +kernel
theorem dJ6_bitCount_0f7a4_11 : decode cJ6_bitCount_0f7a4 11 = .ok (.ldc_w 266, 3) := by decide +kernel
theorem dJ6_bitCount_0f7a4_14 : decode cJ6_bitCount_0f7a4 14 = .ok (.iand, 1) := by decide +kernel
theorem dJ6_bitCount_0f7a4_15 : decode cJ6_bitCount_0f7a4 15 = .ok (.iload_n 0, 1) := by decide +kernel
theorem dJ6_bitCount_0f7a4_16 : decode cJ6_bitCount_0f7a4 16 = .ok (.iconst 2, 1) := by decide +kernel
theorem dJ6_bitCount_0f7a4_17 : decode cJ6_bitCount_0f7a4 17 = .ok (.iushr, 1) := by decide +kernel
theorem dJ6_bitCount_0f7a4_18 : decode cJ6_bitCount_0f7a4 18 = .ok (.ldc_w 266, 3) := by decide +kernel
theorem dJ6_bitCount_0f7a4_21 : decode cJ6_bitCount_0f7a4 21 = .ok (.iand, 1) := by decide +kernel
theorem dJ6_bitCount_0f7a4_22 : decode cJ6_bitCount_0f7a4 22 = .ok (.iadd, 1) := by decide +kernel
theorem dJ6_bitCount_0f7a4_23 : decode cJ6_bitCount_0f7a4 23 = .ok (.istore_n 0, 1) := by decide +kernel
theorem dJ6_bitCount_0f7a4_24 : decode cJ6_bitCount_0f7a4 24 = .ok (.iload_n 0, 1) := by decide +kernel
theorem dJ6_bitCount_0f7a4_25 : decode cJ6_bitCount_0f7a4 25 = .ok (.iload_n 0, 1) := by decide +kernel
theorem dJ6_bitCount_0f7a4_26 : decode cJ6_bitCount_0f7a4 26 = .ok (.iconst 4, 1) := by decide +kernel
theorem dJ6_bitCount_0f7a4_27 : decode cJ6_bitCount_0f7a4 27 = .ok (.iushr, 1) := by decide +kernel
theorem dJ6_bitCount_0f7a4_28 : decode cJ6_bitCount_0f7a4 28 = .ok (.iadd, 1) := by decide +kernel
theorem dJ6_bitCount_0f7a4_29 : decode cJ6_bitCount_0f7a4 29 = .ok (.ldc_w 267, 3) := by decide +kernel
theorem dJ6_bitCount_0f7a4_32 : decode cJ6_bitCount_0f7a4 32 = .ok (.iand, 1) := by decide +kernel
theorem dJ6_bitCount_0f7a4_33 : decode cJ6_bitCount_0f7a4 33 = .ok (.istore_n 0, 1) := by decide +kernel
theorem dJ6_bitCount_0f7a4_34 : decode cJ6_bitCount_0f7a4 34 = .ok (.iload_n 0, 1) := by decide +kernel
theorem dJ6_bitCount_0f7a4_35 : decode cJ6_bitCount_0f7a4 35 = .ok (.iload_n 0, 1) := by decide +kernel
theorem dJ6_bitCount_0f7a4_36 : decode cJ6_bitCount_0f7a4 36 = .ok (.bipush 8, 2) := by decide +kernel
theorem dJ6_bitCount_0f7a4_38 : decode cJ6_bitCount_0f7a4 38 = .ok (.iushr, 1) := by decide +kernel
theorem dJ6_bitCount_0f7a4_39 : decode cJ6_bitCount_0f7a4 39 = .ok (.iadd, 1) := by decide +kernel
theorem dJ6_bitCount_0f7a4_40 : decode cJ6_bitCount_0f7a4 40 = .ok (.istore_n 0, 1) := by decide +kernel
theorem dJ6_bitCount_0f7a4_41 : decode cJ6_bitCount_0f7a4 41 = .ok (.iload_n 0, 1) := by decide +kernel
theorem dJ6_bitCount_0f7a4_42 : decode cJ6_bitCount_0f7a4 42 = .ok (.iload_n 0, 1) := by decide +kernel
theorem dJ6_bitCount_0f7a4_43 : decode cJ6_bitCount_0f7a4 43 = .ok (.bipush 16, 2) := by decide +kernel
theorem dJ6_bitCount_0f7a4_45 : decode cJ6_bitCount_0f7a4 45 = .ok (.iushr, 1) := by decide +kernel
theorem dJ6_bitCount_0f7a4_46 : decode cJ6_bitCount_0f7a4 46 = .ok (.iadd, 1) := by decide +kernel
theorem dJ6_bitCount_0f7a4_47 : decode cJ6_bitCount_0f7a4 47 = .ok (.istore_n 0, 1) := by decide +kernel
theorem dJ6_bitCount_0f7a4_48 : decode cJ6_bitCount_0f7a4 48 = .ok (.iload_n 0, 1) := by decide +kernel
theorem dJ6_bitCount_0f7a4_49 : decode cJ6_bitCount_0f7a4 49 = .ok (.bipush 63, 2) := by decide +kernel
theorem dJ6_bitCount_0f7a4_51 : decode cJ6_bitCount_0f7a4 51 = .ok (.iand, 1) := by decide +kernel
theorem dJ6_bitCount_0f7a4_52 : decode cJ6_bitCount_0f7a4 52 = .ok (.ireturn, 1) := by decide +kernel
theorem dJ9_floorMod_7cf53_0 : decode cJ9_floorMod_7cf53 0 = .ok (.iload_n 0, 1) := by decide +kernel
theorem dJ9_floorMod_7cf53_1 : decode cJ9_floorMod_7cf53 1 = .ok (.iload_n 1, 1) := by decide +kernel
theorem dJ9_floorMod_7cf53_2 : decode cJ9_floorMod_7cf53 2 = .ok (.irem, 1) := by decide +kernel
theorem dJ9_floorMod_7cf53_3 : decode cJ9_floorMod_7cf53 3 = .ok (.istore_n 2, 1) := by decide +kernel
theorem dJ9_floorMod_7cf53_4 : decode cJ9_floorMod_7cf53 4 = .ok (.iload_n 0, 1) := by decide +kernel
theorem dJ9_floorMod_7cf53_5 : decode cJ9_floorMod_7cf53 5 = .ok (.iload_n 1, 1) := by decide +kernel
theorem dJ9_floorMod_7cf53_6 : decode cJ9_floorMod_7cf53 6 = .ok (.ixor, 1) := by decide +kernel
theorem dJ9_floorMod_7cf53_7 : decode cJ9_floorMod_7cf53 7 = .ok (.ifCond .ge 11, 3) := by decide +kernel
theorem dJ9_floorMod_7cf53_10 : decode cJ9_floorMod_7cf53 10 = .ok (.iload_n 2, 1) := by decide +kernel
theorem dJ9_floorMod_7cf53_11 : decode cJ9_floorMod_7cf53 11 = .ok (.ifCond .eq 7, 3) := by decide +kernel
theorem dJ9_floorMod_7cf53_14 : decode cJ9_floorMod_7cf53 14 = .ok (.iload_n 2, 1) := by decide +kernel
theorem dJ9_floorMod_7cf53_15 : decode cJ9_floorMod_7cf53 15 = .ok (.iload_n 1, 1) := by decide +kernel
theorem dJ9_floorMod_7cf53_16 : decode cJ9_floorMod_7cf53 16 = .ok (.iadd, 1) := by decide +kernel
theorem dJ9_floorMod_7cf53_17 : decode cJ9_floorMod_7cf53 17 = .ok (.ireturn, 1) := by decide +kernel
theorem dJ9_floorMod_7cf53_18 : decode cJ9_floorMod_7cf53 18 = .ok (.iload_n 2, 1) := by decide +kernel
theorem dJ9_floorMod_7cf53_19 : decode cJ9_floorMod_7cf53 19 = .ok (.ireturn, 1) := by decide +kernel
theorem dJ9_abs_0f7a4_0 : decode cJ9_abs_0f7a4 0 = .ok (.iload_n 0, 1) := by decide +kernel
theorem dJ9_abs_0f7a4_1 : decode cJ9_abs_0f7a4 1 = .ok (.ifCond .ge 8, 3) := by decide +kernel
theorem dJ9_abs_0f7a4_4 : decode cJ9_abs_0f7a4 4 = .ok (.iload_n 0, 1) := by decide +kernel
theorem dJ9_abs_0f7a4_5 : decode cJ9_abs_0f7a4 5 = .ok (.ineg, 1) := by decide +kernel
theorem dJ9_abs_0f7a4_6 : decode cJ9_abs_0f7a4 6 = .ok (.goto 4, 3) := by decide +kernel
theorem dJ9_abs_0f7a4_9 : decode cJ9_abs_0f7a4 9 = .ok (.iload_n 0, 1) := by decide +kernel
theorem dJ9_abs_0f7a4_10 : decode cJ9_abs_0f7a4 10 = .ok (.ireturn, 1) := by decide +kernel
theorem dJ9_max_7cf53_0 : decode cJ9_max_7cf53 0 = .ok (.iload_n 0, 1) := by decide +kernel
theorem dJ9_max_7cf53_1 : decode cJ9_max_7cf53 1 = .ok (.iload_n 1, 1) := by decide +kernel
theorem dJ9_max_7cf53_2 : decode cJ9_max_7cf53 2 = .ok (.if_icmp .lt 7, 3) := by decide +kernel
theorem dJ9_max_7cf53_5 : decode cJ9_max_7cf53 5 = .ok (.iload_n 0, 1) := by decide +kernel
theorem dJ9_max_7cf53_6 : decode cJ9_max_7cf53 6 = .ok (.goto 4, 3) := by decide +kernel
theorem dJ9_max_7cf53_9 : decode cJ9_max_7cf53 9 = .ok (.iload_n 1, 1) := by decide +kernel
theorem dJ9_max_7cf53_10 : decode cJ9_max_7cf53 10 = .ok (.ireturn, 1) := by decide +kernel
theorem dJ9_min_7cf53_0 : decode cJ9_min_7cf53 0 = .ok (.iload_n 0, 1) := by decide +kernel
theorem dJ9_min_7cf53_1 : decode cJ9_min_7cf53 1 = .ok (.iload_n 1, 1) := by decide +kernel
theorem dJ9_min_7cf53_2 : decode cJ9_min_7cf53 2 = .ok (.if_icmp .gt 7, 3) := by decide +kernel
theorem dJ9_min_7cf53_5 : decode cJ9_min_7cf53 5 = .ok (.iload_n 0, 1) := by decide +kernel
theorem dJ9_min_7cf53_6 : decode cJ9_min_7cf53 6 = .ok (.goto 4, 3) := by decide +kernel
theorem dJ9_min_7cf53_9 : decode cJ9_min_7cf53 9 = .ok (.iload_n 1, 1) := by decide +kernel
theorem dJ9_min_7cf53_10 : decode cJ9_min_7cf53 10 = .ok (.ireturn, 1) := by decide +kernel
theorem dJ7_fill_53178_0 : decode cJ7_fill_53178 0 = .ok (.iconst 0, 1) := by decide +kernel
theorem dJ7_fill_53178_1 : decode cJ7_fill_53178 1 = .ok (.istore_n 2, 1) := by decide +kernel
theorem dJ7_fill_53178_2 : decode cJ7_fill_53178 2 = .ok (.aload_n 0, 1) := by decide +kernel
theorem dJ7_fill_53178_3 : decode cJ7_fill_53178 3 = .ok (.arraylength, 1) := by decide +kernel
theorem dJ7_fill_53178_4 : decode cJ7_fill_53178 4 = .ok (.istore_n 3, 1) := by decide +kernel
theorem dJ7_fill_53178_5 : decode cJ7_fill_53178 5 = .ok (.iload_n 2, 1) := by decide +kernel
theorem dJ7_fill_53178_6 : decode cJ7_fill_53178 6 = .ok (.iload_n 3, 1) := by decide +kernel
theorem dJ7_fill_53178_7 : decode cJ7_fill_53178 7 = .ok (.if_icmp .ge 13, 3) := by decide +kernel
theorem dJ7_fill_53178_10 : decode cJ7_fill_53178 10 = .ok (.aload_n 0, 1) := by decide +kernel
theorem dJ7_fill_53178_11 : decode cJ7_fill_53178 11 = .ok (.iload_n 2, 1) := by decide +kernel
theorem dJ7_fill_53178_12 : decode cJ7_fill_53178 12 = .ok (.iload_n 1, 1) := by decide +kernel
theorem dJ7_fill_53178_13 : decode cJ7_fill_53178 13 = .ok (.iastore, 1) := by decide +kernel
theorem dJ7_fill_53178_14 : decode cJ7_fill_53178 14 = .ok (.iinc 2 1, 3) := by decide +kernel
theorem dJ7_fill_53178_17 : decode cJ7_fill_53178 17 = .ok (.goto (-12), 3) := by decide +kernel
theorem dJ7_fill_53178_20 : decode cJ7_fill_53178 20 = .ok (.return_, 1) := by decide +kernel
end
section
theorem dX0_init_0 : decode cX0_init 0 = .ok (.aload_n 0, 1) := by decide +kernel
theorem dX0_init_1 : decode cX0_init 1 = .ok (.invokespecial 3, 3) := by decide +kernel
theorem dX0_init_4 : decode cX0_init 4 = .ok (.aload_n 0, 1) := by decide +kernel
theorem dX0_init_5 : decode cX0_init 5 = .ok (.new 9, 3) := by decide +kernel
theorem dX0_init_8 : decode cX0_init 8 = .ok (.dup, 1) := by decide +kernel
theorem dX0_init_9 : decode cX0_init 9 = .ok (.invokespecial 11, 3) := by decide +kernel
theorem dX0_init_12 : decode cX0_init 12 = .ok (.putfield 12, 3) := by decide +kernel
theorem dX0_init_15 : decode cX0_init 15 = .ok (.aload_n 0, 1) := by decide +kernel
theorem dX0_init_16 : decode cX0_init 16 = .ok (.new 18, 3) := by decide +kernel
theorem dX0_init_19 : decode cX0_init 19 = .ok (.dup, 1) := by decide +kernel
theorem dX0_init_20 : decode cX0_init 20 = .ok (.invokespecial 20, 3) := by decide +kernel
theorem dX0_init_23 : decode cX0_init 23 = .ok (.putfield 21, 3) := by decide +kernel
theorem dX0_init_26 : decode cX0_init 26 = .ok (.aload_n 0, 1) := by decide +kernel
theorem dX0_init_27 : decode cX0_init 27 = .ok (.iconst 0, 1) := by decide +kernel
theorem dX0_init_28 : decode cX0_init 28 = .ok (.putfield 25, 3) := by decide +kernel
theorem dX0_init_31 : decode cX0_init 31 = .ok (.aload_n 0, 1) := by decide +kernel
theorem dX0_init_32 : decode cX0_init 32 = .ok (.iconst 0, 1) := by decide +kernel
theorem dX0_init_33 : decode cX0_init 33 = .ok (.putfield 29, 3) := by decide +kernel
theorem dX0_init_36 : decode cX0_init 36 = .ok (.aload_n 0, 1) := by decide +kernel
theorem dX0_init_37 : decode cX0_init 37 = .ok (.iconst 0, 1) := by decide +kernel
theorem dX0_init_38 : decode cX0_init 38 = .ok (.putfield 32, 3) := by decide +kernel
theorem dX0_init_41 : decode cX0_init 41 = .ok (.aload_n 0, 1) := by decide +kernel
theorem dX0_init_42 : decode cX0_init 42 = .ok (.bipush 9, 2) := by decide +kernel
theorem dX0_init_44 : decode cX0_init 44 = .ok (.newarray .int, 2) := by decide +kernel
theorem dX0_init_46 : decode cX0_init 46 = .ok (.putfield 35, 3) := by decide +kernel
theorem dX0_init_49 : decode cX0_init 49 = .ok (.return_, 1) := by decide +kernel
theorem dX0_clear_0 : decode cX0_clear 0 = .ok (.aload_n 0, 1) := by decide +kernel
theorem dX0_clear_1 : decode cX0_clear 1 = .ok (.getfield 12, 3) := by decide +kernel
theorem dX0_clear_4 : decode cX0_clear 4 = .ok (.iconst 4, 1) := by decide +kernel
theorem dX0_clear_5 : decode cX0_clear 5 = .ok (.iconst 4, 1) := by decide +kernel
theorem dX0_clear_6 : decode cX0_clear 6 = .ok (.invokevirtual 39, 3) := by decide +kernel
theorem dX0_clear_9 : decode cX0_clear 9 = .ok (.aload_n 0, 1) := by decide +kernel
theorem dX0_clear_10 : decode cX0_clear 10 = .ok (.getfield 21, 3) := by decide +kernel
theorem dX0_clear_13 : decode cX0_clear 13 = .ok (.invokevirtual 43, 3) := by decide +kernel
theorem dX0_clear_16 : decode cX0_clear 16 = .ok (.aload_n 0, 1) := by decide +kernel
theorem dX0_clear_17 : decode cX0_clear 17 = .ok (.iconst 0, 1) := by decide +kernel
theorem dX0_clear_18 : decode cX0_clear 18 = .ok (.putfield 25, 3) := by decide +kernel
theorem dX0_clear_21 : decode cX0_clear 21 = .ok (.aload_n 0, 1) := by decide +kernel
theorem dX0_clear_22 : decode cX0_clear 22 = .ok (.iconst 0, 1) := by decide +kernel
theorem dX0_clear_23 : decode cX0_clear 23 = .ok (.putfield 29, 3) := by decide +kernel
theorem dX0_clear_26 : decode cX0_clear 26 = .ok (.aload_n 0, 1) := by decide +kernel
theorem dX0_clear_27 : decode cX0_clear 27 = .ok (.iconst 0, 1) := by decide +kernel
theorem dX0_clear_28 : decode cX0_clear 28 = .ok (.putfield 32, 3) := by decide +kernel
theorem dX0_clear_31 : decode cX0_clear 31 = .ok (.return_, 1) := by decide +kernel
theorem dX0_become_0 : decode cX0_become 0 = .ok (.aload_n 0, 1) := by decide +kernel
theorem dX0_become_1 : decode cX0_become 1 = .ok (.getfield 12, 3) := by decide +kernel
theorem dX0_become_4 : decode cX0_become 4 = .ok (.aload_n 1, 1) := by decide +kernel
theorem dX0_become_5 : decode cX0_become 5 = .ok (.getfield 12, 3) := by decide +kernel
theorem dX0_become_8 : decode cX0_become 8 = .ok (.invokevirtual 46, 3) := by decide +kernel
theorem dX0_become_11 : decode cX0_become 11 = .ok (.aload_n 0, 1) := by decide +kernel
theorem dX0_become_12 : decode cX0_become 12 = .ok (.getfield 21, 3) := by decide +kernel
theorem dX0_become_15 : decode cX0_become 15 = .ok (.aload_n 1, 1) := by decide +kernel
theorem dX0_become_16 : decode cX0_become 16 = .ok (.getfield 21, 3) := by decide +kernel
theorem dX0_become_19 : decode cX0_become 19 = .ok (.invokevirtual 50, 3) := by decide +kernel
theorem dX0_become_22 : decode cX0_become 22 = .ok (.aload_n 0, 1) := by decide +kernel
theorem dX0_become_23 : decode cX0_become 23 = .ok (.aload_n 1, 1) := by decide +kernel
theorem dX0_become_24 : decode cX0_become 24 = .ok (.getfield 25, 3) := by decide +kernel
theorem dX0_become_27 : decode cX0_become 27 = .ok (.putfield 25, 3) := by decide +kernel
theorem dX0_become_30 : decode cX0_become 30 = .ok (.aload_n 0, 1) := by decide +kernel
theorem dX0_become_31 : decode cX0_become 31 = .ok (.aload_n 1, 1) := by decide +kernel
theorem dX0_become_32 : decode cX0_become 32 = .ok (.getfield 29, 3) := by decide +kernel
theorem dX0_become_35 : decode cX0_become 35 = .ok (.putfield 29, 3) := by decide +kernel
theorem dX0_become_38 : decode cX0_become 38 = .ok (.aload_n 0, 1) := by decide +kernel
theorem dX0_become_39 : decode cX0_become 39 = .ok (.aload_n 1, 1) := by decide +kernel
theorem dX0_become_40 : decode cX0_become 40 = .ok (.getfield 32, 3) := by decide +kernel
theorem dX0_become_43 : decode cX0_become 43 = .ok (.putfield 32, 3) := by decide +kernel
theorem dX0_become_46 : decode cX0_become 46 = .ok (.return_, 1) := by decide +kernel
theorem dX0_hasGoer_0 : decode cX0_hasGoer 0 = .ok (.iload_n 1, 1) := by decide +kernel
theorem dX0_hasGoer_1 : decode cX0_hasGoer 1 = .ok (.ifCond .lt 20, 3) := by decide +kernel
theorem dX0_hasGoer_4 : decode cX0_hasGoer 4 = .ok (.iload_n 1, 1) := by decide +kernel
theorem dX0_hasGoer_5 : decode cX0_hasGoer 5 = .ok (.aload_n 0, 1) := by decide +kernel
theorem dX0_hasGoer_6 : decode cX0_hasGoer 6 = .ok (.getfield 25, 3) := by decide +kernel
theorem dX0_hasGoer_9 : decode cX0_hasGoer 9 = .ok (.if_icmp .ge 12, 3) := by decide +kernel
theorem dX0_hasGoer_12 : decode cX0_hasGoer 12 = .ok (.iload_n 1, 1) := by decide +kernel
theorem dX0_hasGoer_13 : decode cX0_hasGoer 13 = .ok (.iconst 5, 1) := by decide +kernel
theorem dX0_hasGoer_14 : decode cX0_hasGoer 14 = .ok (.if_icmp .ge 7, 3) := by decide +kernel
theorem dX0_hasGoer_17 : decode cX0_hasGoer 17 = .ok (.iconst 1, 1) := by decide +kernel
theorem dX0_hasGoer_18 : decode cX0_hasGoer 18 = .ok (.goto 4, 3) := by decide +kernel
theorem dX0_hasGoer_21 : decode cX0_hasGoer 21 = .ok (.iconst 0, 1) := by decide +kernel
theorem dX0_hasGoer_22 : decode cX0_hasGoer 22 = .ok (.ireturn, 1) := by decide +kernel
theorem dX0_ask_0 : decode cX0_ask 0 = .ok (.aload_n 0, 1) := by decide +kernel
theorem dX0_ask_1 : decode cX0_ask 1 = .ok (.getfield 35, 3) := by decide +kernel
theorem dX0_ask_4 : decode cX0_ask 4 = .ok (.iconst 0, 1) := by decide +kernel
theorem dX0_ask_5 : decode cX0_ask 5 = .ok (.aload_n 0, 1) := by decide +kernel
theorem dX0_ask_6 : decode cX0_ask 6 = .ok (.getfield 12, 3) := by decide +kernel
theorem dX0_ask_9 : decode cX0_ask 9 = .ok (.iload_n 3, 1) := by decide +kernel
theorem dX0_ask_10 : decode cX0_ask 10 = .ok (.invokevirtual 53, 3) := by decide +kernel
theorem dX0_ask_13 : decode cX0_ask 13 = .ok (.iastore, 1) := by decide +kernel
theorem dX0_ask_14 : decode cX0_ask 14 = .ok (.aload_n 0, 1) := by decide +kernel
theorem dX0_ask_15 : decode cX0_ask 15 = .ok (.getfield 35, 3) := by decide +kernel
theorem dX0_ask_18 : decode cX0_ask 18 = .ok (.iconst 1, 1) := by decide +kernel
theorem dX0_ask_19 : decode cX0_ask 19 = .ok (.aload_n 0, 1) := by decide +kernel
theorem dX0_ask_20 : decode cX0_ask 20 = .ok (.getfield 12, 3) := by decide +kernel
theorem dX0_ask_23 : decode cX0_ask 23 = .ok (.iload_n 3, 1) := by decide +kernel
theorem dX0_ask_24 : decode cX0_ask 24 = .ok (.invokevirtual 57, 3) := by decide +kernel
theorem dX0_ask_27 : decode cX0_ask 27 = .ok (.iastore, 1) := by decide +kernel
theorem dX0_ask_28 : decode cX0_ask 28 = .ok (.aload_n 0, 1) := by decide +kernel
theorem dX0_ask_29 : decode cX0_ask 29 = .ok (.getfield 35, 3) := by decide +kernel
theorem dX0_ask_32 : decode cX0_ask 32 = .ok (.iconst 2, 1) := by decide +kernel
theorem dX0_ask_33 : decode cX0_ask 33 = .ok (.aload_n 1, 1) := by decide +kernel
theorem dX0_ask_34 : decode cX0_ask 34 = .ok (.getfield 60, 3) := by decide +kernel
theorem dX0_ask_37 : decode cX0_ask 37 = .ok (.iastore, 1) := by decide +kernel
theorem dX0_ask_38 : decode cX0_ask 38 = .ok (.aload_n 0, 1) := by decide +kernel
theorem dX0_ask_39 : decode cX0_ask 39 = .ok (.getfield 35, 3) := by decide +kernel
theorem dX0_ask_42 : decode cX0_ask 42 = .ok (.iconst 3, 1) := by decide +kernel
theorem dX0_ask_43 : decode cX0_ask 43 = .ok (.aload_n 1, 1) := by decide +kernel
theorem dX0_ask_44 : decode cX0_ask 44 = .ok (.iload_n 3, 1) := by decide +kernel
theorem dX0_ask_45 : decode cX0_ask 45 = .ok (.invokevirtual 65, 3) := by decide +kernel
theorem dX0_ask_48 : decode cX0_ask 48 = .ok (.iastore, 1) := by decide +kernel
theorem dX0_ask_49 : decode cX0_ask 49 = .ok (.aload_n 0, 1) := by decide +kernel
theorem dX0_ask_50 : decode cX0_ask 50 = .ok (.getfield 35, 3) := by decide +kernel
theorem dX0_ask_53 : decode cX0_ask 53 = .ok (.iconst 4, 1) := by decide +kernel
theorem dX0_ask_54 : decode cX0_ask 54 = .ok (.iload 4, 2) := by decide +kernel
theorem dX0_ask_56 : decode cX0_ask 56 = .ok (.iastore, 1) := by decide +kernel
theorem dX0_ask_57 : decode cX0_ask 57 = .ok (.aload_n 0, 1) := by decide +kernel
theorem dX0_ask_58 : decode cX0_ask 58 = .ok (.getfield 35, 3) := by decide +kernel
theorem dX0_ask_61 : decode cX0_ask 61 = .ok (.iconst 5, 1) := by decide +kernel
theorem dX0_ask_62 : decode cX0_ask 62 = .ok (.iload 5, 2) := by decide +kernel
theorem dX0_ask_64 : decode cX0_ask 64 = .ok (.iastore, 1) := by decide +kernel
theorem dX0_ask_65 : decode cX0_ask 65 = .ok (.aload_n 0, 1) := by decide +kernel
theorem dX0_ask_66 : decode cX0_ask 66 = .ok (.getfield 35, 3) := by decide +kernel
theorem dX0_ask_69 : decode cX0_ask 69 = .ok (.bipush 6, 2) := by decide +kernel
theorem dX0_ask_71 : decode cX0_ask 71 = .ok (.aload_n 0, 1) := by decide +kernel
theorem dX0_ask_72 : decode cX0_ask 72 = .ok (.getfield 12, 3) := by decide +kernel
theorem dX0_ask_75 : decode cX0_ask 75 = .ok (.getfield 68, 3) := by decide +kernel
theorem dX0_ask_78 : decode cX0_ask 78 = .ok (.iastore, 1) := by decide +kernel
theorem dX0_ask_79 : decode cX0_ask 79 = .ok (.aload_n 0, 1) := by decide +kernel
theorem dX0_ask_80 : decode cX0_ask 80 = .ok (.getfield 35, 3) := by decide +kernel
theorem dX0_ask_83 : decode cX0_ask 83 = .ok (.bipush 7, 2) := by decide +kernel
theorem dX0_ask_85 : decode cX0_ask 85 = .ok (.aload_n 0, 1) := by decide +kernel
theorem dX0_ask_86 : decode cX0_ask 86 = .ok (.getfield 12, 3) := by decide +kernel
theorem dX0_ask_89 : decode cX0_ask 89 = .ok (.getfield 71, 3) := by decide +kernel
theorem dX0_ask_92 : decode cX0_ask 92 = .ok (.iastore, 1) := by decide +kernel
theorem dX0_ask_93 : decode cX0_ask 93 = .ok (.aload_n 0, 1) := by decide +kernel
theorem dX0_ask_94 : decode cX0_ask 94 = .ok (.getfield 35, 3) := by decide +kernel
theorem dX0_ask_97 : decode cX0_ask 97 = .ok (.bipush 8, 2) := by decide +kernel
theorem dX0_ask_99 : decode cX0_ask 99 = .ok (.aload_n 1, 1) := by decide +kernel
theorem dX0_ask_100 : decode cX0_ask 100 = .ok (.getfield 74, 3) := by decide +kernel
theorem dX0_ask_103 : decode cX0_ask 103 = .ok (.invokestatic 77, 3) := by decide +kernel
theorem dX0_ask_106 : decode cX0_ask 106 = .ok (.iastore, 1) := by decide +kernel
theorem dX0_ask_107 : decode cX0_ask 107 = .ok (.aload_n 0, 1) := by decide +kernel
theorem dX0_ask_108 : decode cX0_ask 108 = .ok (.getfield 21, 3) := by decide +kernel
theorem dX0_ask_111 : decode cX0_ask 111 = .ok (.iload_n 2, 1) := by decide +kernel
theorem dX0_ask_112 : decode cX0_ask 112 = .ok (.aload_n 0, 1) := by decide +kernel
theorem dX0_ask_113 : decode cX0_ask 113 = .ok (.getfield 35, 3) := by decide +kernel
theorem dX0_ask_116 : decode cX0_ask 116 = .ok (.invokevirtual 82, 3) := by decide +kernel
theorem dX0_ask_119 : decode cX0_ask 119 = .ok (.ireturn, 1) := by decide +kernel
theorem dX0_costOf_0 : decode cX0_costOf 0 = .ok (.iconst 0, 1) := by decide +kernel
theorem dX0_costOf_1 : decode cX0_costOf 1 = .ok (.bipush 99, 2) := by decide +kernel
theorem dX0_costOf_3 : decode cX0_costOf 3 = .ok (.aload_n 0, 1) := by decide +kernel
theorem dX0_costOf_4 : decode cX0_costOf 4 = .ok (.aload_n 1, 1) := by decide +kernel
theorem dX0_costOf_5 : decode cX0_costOf 5 = .ok (.iconst 3, 1) := by decide +kernel
theorem dX0_costOf_6 : decode cX0_costOf 6 = .ok (.iload_n 2, 1) := by decide +kernel
theorem dX0_costOf_7 : decode cX0_costOf 7 = .ok (.iconst 0, 1) := by decide +kernel
theorem dX0_costOf_8 : decode cX0_costOf 8 = .ok (.iconst 0, 1) := by decide +kernel
theorem dX0_costOf_9 : decode cX0_costOf 9 = .ok (.invokevirtual 86, 3) := by decide +kernel
theorem dX0_costOf_12 : decode cX0_costOf 12 = .ok (.invokestatic 90, 3) := by decide +kernel
theorem dX0_costOf_15 : decode cX0_costOf 15 = .ok (.invokestatic 96, 3) := by decide +kernel
theorem dX0_costOf_18 : decode cX0_costOf 18 = .ok (.ireturn, 1) := by decide +kernel
theorem dX0_whereTo_0 : decode cX0_whereTo 0 = .ok (.aload_n 0, 1) := by decide +kernel
theorem dX0_whereTo_1 : decode cX0_whereTo 1 = .ok (.iload_n 3, 1) := by decide +kernel
theorem dX0_whereTo_2 : decode cX0_whereTo 2 = .ok (.invokevirtual 99, 3) := by decide +kernel
theorem dX0_whereTo_5 : decode cX0_whereTo 5 = .ok (.ifCond .ne 5, 3) := by decide +kernel
theorem dX0_whereTo_8 : decode cX0_whereTo 8 = .ok (.iconst (-1), 1) := by decide +kernel
theorem dX0_whereTo_9 : decode cX0_whereTo 9 = .ok (.ireturn, 1) := by decide +kernel
theorem dX0_whereTo_10 : decode cX0_whereTo 10 = .ok (.aload_n 1, 1) := by decide +kernel
theorem dX0_whereTo_11 : decode cX0_whereTo 11 = .ok (.getfield 103, 3) := by decide +kernel
theorem dX0_whereTo_14 : decode cX0_whereTo 14 = .ok (.iload_n 3, 1) := by decide +kernel
theorem dX0_whereTo_15 : decode cX0_whereTo 15 = .ok (.iaload, 1) := by decide +kernel
theorem dX0_whereTo_16 : decode cX0_whereTo 16 = .ok (.istore 4, 2) := by decide +kernel
theorem dX0_whereTo_18 : decode cX0_whereTo 18 = .ok (.iconst 0, 1) := by decide +kernel
theorem dX0_whereTo_19 : decode cX0_whereTo 19 = .ok (.aload_n 0, 1) := by decide +kernel
theorem dX0_whereTo_20 : decode cX0_whereTo 20 = .ok (.aload_n 1, 1) := by decide +kernel
theorem dX0_whereTo_21 : decode cX0_whereTo 21 = .ok (.iload_n 2, 1) := by decide +kernel
theorem dX0_whereTo_22 : decode cX0_whereTo 22 = .ok (.iload 4, 2) := by decide +kernel
theorem dX0_whereTo_24 : decode cX0_whereTo 24 = .ok (.aload_n 1, 1) := by decide +kernel
theorem dX0_whereTo_25 : decode cX0_whereTo 25 = .ok (.getfield 106, 3) := by decide +kernel
theorem dX0_whereTo_28 : decode cX0_whereTo 28 = .ok (.iload_n 3, 1) := by decide +kernel
theorem dX0_whereTo_29 : decode cX0_whereTo 29 = .ok (.iaload, 1) := by decide +kernel
theorem dX0_whereTo_30 : decode cX0_whereTo 30 = .ok (.iload_n 3, 1) := by decide +kernel
theorem dX0_whereTo_31 : decode cX0_whereTo 31 = .ok (.invokevirtual 86, 3) := by decide +kernel
theorem dX0_whereTo_34 : decode cX0_whereTo 34 = .ok (.invokestatic 96, 3) := by decide +kernel
theorem dX0_whereTo_37 : decode cX0_whereTo 37 = .ok (.istore 5, 2) := by decide +kernel
theorem dX0_whereTo_39 : decode cX0_whereTo 39 = .ok (.aload_n 0, 1) := by decide +kernel
theorem dX0_whereTo_40 : decode cX0_whereTo 40 = .ok (.getfield 12, 3) := by decide +kernel
theorem dX0_whereTo_43 : decode cX0_whereTo 43 = .ok (.iload 4, 2) := by decide +kernel
theorem dX0_whereTo_45 : decode cX0_whereTo 45 = .ok (.iload 5, 2) := by decide +kernel
theorem dX0_whereTo_47 : decode cX0_whereTo 47 = .ok (.iconst 5, 1) := by decide +kernel
theorem dX0_whereTo_48 : decode cX0_whereTo 48 = .ok (.irem, 1) := by decide +kernel
theorem dX0_whereTo_49 : decode cX0_whereTo 49 = .ok (.invokevirtual 109, 3) := by decide +kernel
theorem dX0_whereTo_52 : decode cX0_whereTo 52 = .ok (.istore 6, 2) := by decide +kernel
theorem dX0_whereTo_54 : decode cX0_whereTo 54 = .ok (.aload_n 1, 1) := by decide +kernel
theorem dX0_whereTo_55 : decode cX0_whereTo 55 = .ok (.iload 6, 2) := by decide +kernel
theorem dX0_whereTo_57 : decode cX0_whereTo 57 = .ok (.invokevirtual 112, 3) := by decide +kernel
theorem dX0_whereTo_60 : decode cX0_whereTo 60 = .ok (.ifCond .eq 8, 3) := by decide +kernel
theorem dX0_whereTo_63 : decode cX0_whereTo 63 = .ok (.iload 4, 2) := by decide +kernel
theorem dX0_whereTo_65 : decode cX0_whereTo 65 = .ok (.goto 5, 3) := by decide +kernel
theorem dX0_whereTo_68 : decode cX0_whereTo 68 = .ok (.iload 6, 2) := by decide +kernel
theorem dX0_whereTo_70 : decode cX0_whereTo 70 = .ok (.ireturn, 1) := by decide +kernel
theorem dX0_walk_0 : decode cX0_walk 0 = .ok (.iconst 0, 1) := by decide +kernel
theorem dX0_walk_1 : decode cX0_walk 1 = .ok (.istore_n 2, 1) := by decide +kernel
theorem dX0_walk_2 : decode cX0_walk 2 = .ok (.iload_n 2, 1) := by decide +kernel
theorem dX0_walk_3 : decode cX0_walk 3 = .ok (.aload_n 0, 1) := by decide +kernel
theorem dX0_walk_4 : decode cX0_walk 4 = .ok (.getfield 25, 3) := by decide +kernel
theorem dX0_walk_7 : decode cX0_walk 7 = .ok (.if_icmp .ge 27, 3) := by decide +kernel
theorem dX0_walk_10 : decode cX0_walk 10 = .ok (.iload_n 2, 1) := by decide +kernel
theorem dX0_walk_11 : decode cX0_walk 11 = .ok (.iconst 5, 1) := by decide +kernel
theorem dX0_walk_12 : decode cX0_walk 12 = .ok (.if_icmp .ge 22, 3) := by decide +kernel
theorem dX0_walk_15 : decode cX0_walk 15 = .ok (.aload_n 1, 1) := by decide +kernel
theorem dX0_walk_16 : decode cX0_walk 16 = .ok (.getfield 103, 3) := by decide +kernel
theorem dX0_walk_19 : decode cX0_walk 19 = .ok (.iload_n 2, 1) := by decide +kernel
theorem dX0_walk_20 : decode cX0_walk 20 = .ok (.aload_n 0, 1) := by decide +kernel
theorem dX0_walk_21 : decode cX0_walk 21 = .ok (.aload_n 1, 1) := by decide +kernel
theorem dX0_walk_22 : decode cX0_walk 22 = .ok (.iconst 0, 1) := by decide +kernel
theorem dX0_walk_23 : decode cX0_walk 23 = .ok (.iload_n 2, 1) := by decide +kernel
theorem dX0_walk_24 : decode cX0_walk 24 = .ok (.invokevirtual 115, 3) := by decide +kernel
theorem dX0_walk_27 : decode cX0_walk 27 = .ok (.iastore, 1) := by decide +kernel
theorem dX0_walk_28 : decode cX0_walk 28 = .ok (.iinc 2 1, 3) := by decide +kernel
theorem dX0_walk_31 : decode cX0_walk 31 = .ok (.goto (-29), 3) := by decide +kernel
theorem dX0_walk_34 : decode cX0_walk 34 = .ok (.aload_n 1, 1) := by decide +kernel
theorem dX0_walk_35 : decode cX0_walk 35 = .ok (.dup, 1) := by decide +kernel
theorem dX0_walk_36 : decode cX0_walk 36 = .ok (.getfield 60, 3) := by decide +kernel
theorem dX0_walk_39 : decode cX0_walk 39 = .ok (.iconst 1, 1) := by decide +kernel
theorem dX0_walk_40 : decode cX0_walk 40 = .ok (.iadd, 1) := by decide +kernel
theorem dX0_walk_41 : decode cX0_walk 41 = .ok (.putfield 60, 3) := by decide +kernel
theorem dX0_walk_44 : decode cX0_walk 44 = .ok (.iconst 0, 1) := by decide +kernel
theorem dX0_walk_45 : decode cX0_walk 45 = .ok (.istore_n 2, 1) := by decide +kernel
theorem dX0_walk_46 : decode cX0_walk 46 = .ok (.iload_n 2, 1) := by decide +kernel
theorem dX0_walk_47 : decode cX0_walk 47 = .ok (.aload_n 0, 1) := by decide +kernel
theorem dX0_walk_48 : decode cX0_walk 48 = .ok (.getfield 25, 3) := by decide +kernel
theorem dX0_walk_51 : decode cX0_walk 51 = .ok (.if_icmp .ge 54, 3) := by decide +kernel
theorem dX0_walk_54 : decode cX0_walk 54 = .ok (.iload_n 2, 1) := by decide +kernel
theorem dX0_walk_55 : decode cX0_walk 55 = .ok (.iconst 5, 1) := by decide +kernel
theorem dX0_walk_56 : decode cX0_walk 56 = .ok (.if_icmp .ge 49, 3) := by decide +kernel
theorem dX0_walk_59 : decode cX0_walk 59 = .ok (.aload_n 1, 1) := by decide +kernel
theorem dX0_walk_60 : decode cX0_walk 60 = .ok (.aload_n 1, 1) := by decide +kernel
theorem dX0_walk_61 : decode cX0_walk 61 = .ok (.getfield 103, 3) := by decide +kernel
theorem dX0_walk_64 : decode cX0_walk 64 = .ok (.iload_n 2, 1) := by decide +kernel
theorem dX0_walk_65 : decode cX0_walk 65 = .ok (.iaload, 1) := by decide +kernel
theorem dX0_walk_66 : decode cX0_walk 66 = .ok (.aload_n 1, 1) := by decide +kernel
theorem dX0_walk_67 : decode cX0_walk 67 = .ok (.getfield 60, 3) := by decide +kernel
theorem dX0_walk_70 : decode cX0_walk 70 = .ok (.invokevirtual 119, 3) := by decide +kernel
theorem dX0_walk_73 : decode cX0_walk 73 = .ok (.ifCond .eq 26, 3) := by decide +kernel
theorem dX0_walk_76 : decode cX0_walk 76 = .ok (.aload_n 1, 1) := by decide +kernel
theorem dX0_walk_77 : decode cX0_walk 77 = .ok (.getfield 103, 3) := by decide +kernel
theorem dX0_walk_80 : decode cX0_walk 80 = .ok (.iload_n 2, 1) := by decide +kernel
theorem dX0_walk_81 : decode cX0_walk 81 = .ok (.aload_n 0, 1) := by decide +kernel
theorem dX0_walk_82 : decode cX0_walk 82 = .ok (.aload_n 1, 1) := by decide +kernel
theorem dX0_walk_83 : decode cX0_walk 83 = .ok (.iconst 1, 1) := by decide +kernel
theorem dX0_walk_84 : decode cX0_walk 84 = .ok (.iload_n 2, 1) := by decide +kernel
theorem dX0_walk_85 : decode cX0_walk 85 = .ok (.invokevirtual 115, 3) := by decide +kernel
theorem dX0_walk_88 : decode cX0_walk 88 = .ok (.iastore, 1) := by decide +kernel
theorem dX0_walk_89 : decode cX0_walk 89 = .ok (.aload_n 1, 1) := by decide +kernel
theorem dX0_walk_90 : decode cX0_walk 90 = .ok (.getfield 106, 3) := by decide +kernel
theorem dX0_walk_93 : decode cX0_walk 93 = .ok (.iload_n 2, 1) := by decide +kernel
theorem dX0_walk_94 : decode cX0_walk 94 = .ok (.dup2, 1) := by decide +kernel
theorem dX0_walk_95 : decode cX0_walk 95 = .ok (.iaload, 1) := by decide +kernel
theorem dX0_walk_96 : decode cX0_walk 96 = .ok (.iconst 1, 1) := by decide +kernel
theorem dX0_walk_97 : decode cX0_walk 97 = .ok (.iadd, 1) := by decide +kernel
theorem dX0_walk_98 : decode cX0_walk 98 = .ok (.iastore, 1) := by decide +kernel
theorem dX0_walk_99 : decode cX0_walk 99 = .ok (.iinc 2 1, 3) := by decide +kernel
theorem dX0_walk_102 : decode cX0_walk 102 = .ok (.goto (-56), 3) := by decide +kernel
theorem dX0_walk_105 : decode cX0_walk 105 = .ok (.return_, 1) := by decide +kernel
theorem dX0_goOn_0 : decode cX0_goOn 0 = .ok (.iconst 0, 1) := by decide +kernel
theorem dX0_goOn_1 : decode cX0_goOn 1 = .ok (.istore_n 3, 1) := by decide +kernel
theorem dX0_goOn_2 : decode cX0_goOn 2 = .ok (.iload_n 3, 1) := by decide +kernel
theorem dX0_goOn_3 : decode cX0_goOn 3 = .ok (.iload_n 2, 1) := by decide +kernel
theorem dX0_goOn_4 : decode cX0_goOn 4 = .ok (.if_icmp .ge 23, 3) := by decide +kernel
theorem dX0_goOn_7 : decode cX0_goOn 7 = .ok (.aload_n 0, 1) := by decide +kernel
theorem dX0_goOn_8 : decode cX0_goOn 8 = .ok (.aload_n 1, 1) := by decide +kernel
theorem dX0_goOn_9 : decode cX0_goOn 9 = .ok (.invokevirtual 123, 3) := by decide +kernel
theorem dX0_goOn_12 : decode cX0_goOn 12 = .ok (.aload_n 0, 1) := by decide +kernel
theorem dX0_goOn_13 : decode cX0_goOn 13 = .ok (.aload_n 1, 1) := by decide +kernel
theorem dX0_goOn_14 : decode cX0_goOn 14 = .ok (.aload_n 0, 1) := by decide +kernel
theorem dX0_goOn_15 : decode cX0_goOn 15 = .ok (.getfield 32, 3) := by decide +kernel
theorem dX0_goOn_18 : decode cX0_goOn 18 = .ok (.invokevirtual 127, 3) := by decide +kernel
theorem dX0_goOn_21 : decode cX0_goOn 21 = .ok (.iinc 3 1, 3) := by decide +kernel
theorem dX0_goOn_24 : decode cX0_goOn 24 = .ok (.goto (-22), 3) := by decide +kernel
theorem dX0_goOn_27 : decode cX0_goOn 27 = .ok (.return_, 1) := by decide +kernel
theorem dX0_soak_0 : decode cX0_soak 0 = .ok (.iconst 0, 1) := by decide +kernel
theorem dX0_soak_1 : decode cX0_soak 1 = .ok (.istore 4, 2) := by decide +kernel
theorem dX0_soak_3 : decode cX0_soak 3 = .ok (.iload 4, 2) := by decide +kernel
theorem dX0_soak_5 : decode cX0_soak 5 = .ok (.iload_n 2, 1) := by decide +kernel
theorem dX0_soak_6 : decode cX0_soak 6 = .ok (.if_icmp .ge 33, 3) := by decide +kernel
theorem dX0_soak_9 : decode cX0_soak 9 = .ok (.aload_n 0, 1) := by decide +kernel
theorem dX0_soak_10 : decode cX0_soak 10 = .ok (.aload_n 1, 1) := by decide +kernel
theorem dX0_soak_11 : decode cX0_soak 11 = .ok (.invokevirtual 131, 3) := by decide +kernel
theorem dX0_soak_14 : decode cX0_soak 14 = .ok (.ifCond .eq 25, 3) := by decide +kernel
theorem dX0_soak_17 : decode cX0_soak 17 = .ok (.aload_n 1, 1) := by decide +kernel
theorem dX0_soak_18 : decode cX0_soak 18 = .ok (.dup, 1) := by decide +kernel
theorem dX0_soak_19 : decode cX0_soak 19 = .ok (.getfield 60, 3) := by decide +kernel
theorem dX0_soak_22 : decode cX0_soak 22 = .ok (.iconst 1, 1) := by decide +kernel
theorem dX0_soak_23 : decode cX0_soak 23 = .ok (.iadd, 1) := by decide +kernel
theorem dX0_soak_24 : decode cX0_soak 24 = .ok (.putfield 60, 3) := by decide +kernel
theorem dX0_soak_27 : decode cX0_soak 27 = .ok (.aload_n 0, 1) := by decide +kernel
theorem dX0_soak_28 : decode cX0_soak 28 = .ok (.aload_n 1, 1) := by decide +kernel
theorem dX0_soak_29 : decode cX0_soak 29 = .ok (.iload_n 3, 1) := by decide +kernel
theorem dX0_soak_30 : decode cX0_soak 30 = .ok (.invokevirtual 127, 3) := by decide +kernel
theorem dX0_soak_33 : decode cX0_soak 33 = .ok (.iinc 4 1, 3) := by decide +kernel
theorem dX0_soak_36 : decode cX0_soak 36 = .ok (.goto (-33), 3) := by decide +kernel
theorem dX0_soak_39 : decode cX0_soak 39 = .ok (.return_, 1) := by decide +kernel
theorem dX0_canSpread_0 : decode cX0_canSpread 0 = .ok (.aload_n 0, 1) := by decide +kernel
theorem dX0_canSpread_1 : decode cX0_canSpread 1 = .ok (.getfield 29, 3) := by decide +kernel
theorem dX0_canSpread_4 : decode cX0_canSpread 4 = .ok (.ifCond .le 33, 3) := by decide +kernel
theorem dX0_canSpread_7 : decode cX0_canSpread 7 = .ok (.aload_n 0, 1) := by decide +kernel
theorem dX0_canSpread_8 : decode cX0_canSpread 8 = .ok (.getfield 12, 3) := by decide +kernel
theorem dX0_canSpread_11 : decode cX0_canSpread 11 = .ok (.aload_n 1, 1) := by decide +kernel
theorem dX0_canSpread_12 : decode cX0_canSpread 12 = .ok (.getfield 74, 3) := by decide +kernel
theorem dX0_canSpread_15 : decode cX0_canSpread 15 = .ok (.invokevirtual 135, 3) := by decide +kernel
theorem dX0_canSpread_18 : decode cX0_canSpread 18 = .ok (.ifCond .eq 19, 3) := by decide +kernel
theorem dX0_canSpread_21 : decode cX0_canSpread 21 = .ok (.aload_n 1, 1) := by decide +kernel
theorem dX0_canSpread_22 : decode cX0_canSpread 22 = .ok (.getfield 74, 3) := by decide +kernel
theorem dX0_canSpread_25 : decode cX0_canSpread 25 = .ok (.invokestatic 77, 3) := by decide +kernel
theorem dX0_canSpread_28 : decode cX0_canSpread 28 = .ok (.bipush 8, 2) := by decide +kernel
theorem dX0_canSpread_30 : decode cX0_canSpread 30 = .ok (.if_icmp .ge 7, 3) := by decide +kernel
theorem dX0_canSpread_33 : decode cX0_canSpread 33 = .ok (.iconst 1, 1) := by decide +kernel
theorem dX0_canSpread_34 : decode cX0_canSpread 34 = .ok (.goto 4, 3) := by decide +kernel
theorem dX0_canSpread_37 : decode cX0_canSpread 37 = .ok (.iconst 0, 1) := by decide +kernel
theorem dX0_canSpread_38 : decode cX0_canSpread 38 = .ok (.ireturn, 1) := by decide +kernel
theorem dX0_spread_0 : decode cX0_spread 0 = .ok (.bipush 8, 2) := by decide +kernel
theorem dX0_spread_2 : decode cX0_spread 2 = .ok (.aload_n 1, 1) := by decide +kernel
theorem dX0_spread_3 : decode cX0_spread 3 = .ok (.getfield 74, 3) := by decide +kernel
theorem dX0_spread_6 : decode cX0_spread 6 = .ok (.invokestatic 77, 3) := by decide +kernel
theorem dX0_spread_9 : decode cX0_spread 9 = .ok (.isub, 1) := by decide +kernel
theorem dX0_spread_10 : decode cX0_spread 10 = .ok (.istore_n 3, 1) := by decide +kernel
theorem dX0_spread_11 : decode cX0_spread 11 = .ok (.iconst 0, 1) := by decide +kernel
theorem dX0_spread_12 : decode cX0_spread 12 = .ok (.istore 4, 2) := by decide +kernel
theorem dX0_spread_14 : decode cX0_spread 14 = .ok (.aload_n 0, 1) := by decide +kernel
theorem dX0_spread_15 : decode cX0_spread 15 = .ok (.getfield 12, 3) := by decide +kernel
theorem dX0_spread_18 : decode cX0_spread 18 = .ok (.aload_n 1, 1) := by decide +kernel
theorem dX0_spread_19 : decode cX0_spread 19 = .ok (.getfield 74, 3) := by decide +kernel
theorem dX0_spread_22 : decode cX0_spread 22 = .ok (.invokevirtual 135, 3) := by decide +kernel
theorem dX0_spread_25 : decode cX0_spread 25 = .ok (.istore 5, 2) := by decide +kernel
theorem dX0_spread_27 : decode cX0_spread 27 = .ok (.iconst 0, 1) := by decide +kernel
theorem dX0_spread_28 : decode cX0_spread 28 = .ok (.istore 6, 2) := by decide +kernel
theorem dX0_spread_30 : decode cX0_spread 30 = .ok (.iload 6, 2) := by decide +kernel
theorem dX0_spread_32 : decode cX0_spread 32 = .ok (.bipush 25, 2) := by decide +kernel
theorem dX0_spread_34 : decode cX0_spread 34 = .ok (.if_icmp .ge 75, 3) := by decide +kernel
theorem dX0_spread_37 : decode cX0_spread 37 = .ok (.iload 5, 2) := by decide +kernel
theorem dX0_spread_39 : decode cX0_spread 39 = .ok (.ifCond .eq 70, 3) := by decide +kernel
theorem dX0_spread_42 : decode cX0_spread 42 = .ok (.iload_n 3, 1) := by decide +kernel
theorem dX0_spread_43 : decode cX0_spread 43 = .ok (.ifCond .le 66, 3) := by decide +kernel
theorem dX0_spread_46 : decode cX0_spread 46 = .ok (.iload 5, 2) := by decide +kernel
theorem dX0_spread_48 : decode cX0_spread 48 = .ok (.invokestatic 138, 3) := by decide +kernel
theorem dX0_spread_51 : decode cX0_spread 51 = .ok (.istore 7, 2) := by decide +kernel
theorem dX0_spread_53 : decode cX0_spread 53 = .ok (.aload_n 0, 1) := by decide +kernel
theorem dX0_spread_54 : decode cX0_spread 54 = .ok (.aload_n 1, 1) := by decide +kernel
theorem dX0_spread_55 : decode cX0_spread 55 = .ok (.getfield 60, 3) := by decide +kernel
theorem dX0_spread_58 : decode cX0_spread 58 = .ok (.iload 7, 2) := by decide +kernel
theorem dX0_spread_60 : decode cX0_spread 60 = .ok (.iload_n 2, 1) := by decide +kernel
theorem dX0_spread_61 : decode cX0_spread 61 = .ok (.invokevirtual 141, 3) := by decide +kernel
theorem dX0_spread_64 : decode cX0_spread 64 = .ok (.ifCond .eq 30, 3) := by decide +kernel
theorem dX0_spread_67 : decode cX0_spread 67 = .ok (.aload_n 0, 1) := by decide +kernel
theorem dX0_spread_68 : decode cX0_spread 68 = .ok (.aload_n 1, 1) := by decide +kernel
theorem dX0_spread_69 : decode cX0_spread 69 = .ok (.iconst 2, 1) := by decide +kernel
theorem dX0_spread_70 : decode cX0_spread 70 = .ok (.iload 7, 2) := by decide +kernel
theorem dX0_spread_72 : decode cX0_spread 72 = .ok (.iconst 0, 1) := by decide +kernel
theorem dX0_spread_73 : decode cX0_spread 73 = .ok (.iconst 0, 1) := by decide +kernel
theorem dX0_spread_74 : decode cX0_spread 74 = .ok (.invokevirtual 86, 3) := by decide +kernel
theorem dX0_spread_77 : decode cX0_spread 77 = .ok (.ifCond .le 17, 3) := by decide +kernel
theorem dX0_spread_80 : decode cX0_spread 80 = .ok (.iload 4, 2) := by decide +kernel
theorem dX0_spread_82 : decode cX0_spread 82 = .ok (.iconst 1, 1) := by decide +kernel
theorem dX0_spread_83 : decode cX0_spread 83 = .ok (.iload 7, 2) := by decide +kernel
theorem dX0_spread_85 : decode cX0_spread 85 = .ok (.iconst 1, 1) := by decide +kernel
theorem dX0_spread_86 : decode cX0_spread 86 = .ok (.iadd, 1) := by decide +kernel
theorem dX0_spread_87 : decode cX0_spread 87 = .ok (.ishl, 1) := by decide +kernel
theorem dX0_spread_88 : decode cX0_spread 88 = .ok (.ior, 1) := by decide +kernel
theorem dX0_spread_89 : decode cX0_spread 89 = .ok (.istore 4, 2) := by decide +kernel
theorem dX0_spread_91 : decode cX0_spread 91 = .ok (.iinc 3 (-1), 3) := by decide +kernel
theorem dX0_spread_94 : decode cX0_spread 94 = .ok (.iinc 6 1, 3) := by decide +kernel
theorem dX0_spread_97 : decode cX0_spread 97 = .ok (.iload 5, 2) := by decide +kernel
theorem dX0_spread_99 : decode cX0_spread 99 = .ok (.iload 5, 2) := by decide +kernel
theorem dX0_spread_101 : decode cX0_spread 101 = .ok (.iconst 1, 1) := by decide +kernel
theorem dX0_spread_102 : decode cX0_spread 102 = .ok (.isub, 1) := by decide +kernel
theorem dX0_spread_103 : decode cX0_spread 103 = .ok (.iand, 1) := by decide +kernel
theorem dX0_spread_104 : decode cX0_spread 104 = .ok (.istore 5, 2) := by decide +kernel
theorem dX0_spread_106 : decode cX0_spread 106 = .ok (.goto (-76), 3) := by decide +kernel
theorem dX0_spread_109 : decode cX0_spread 109 = .ok (.iconst 0, 1) := by decide +kernel
theorem dX0_spread_110 : decode cX0_spread 110 = .ok (.istore 6, 2) := by decide +kernel
theorem dX0_spread_112 : decode cX0_spread 112 = .ok (.iload 6, 2) := by decide +kernel
theorem dX0_spread_114 : decode cX0_spread 114 = .ok (.bipush 25, 2) := by decide +kernel
theorem dX0_spread_116 : decode cX0_spread 116 = .ok (.if_icmp .ge 32, 3) := by decide +kernel
theorem dX0_spread_119 : decode cX0_spread 119 = .ok (.iload 4, 2) := by decide +kernel
theorem dX0_spread_121 : decode cX0_spread 121 = .ok (.ifCond .eq 27, 3) := by decide +kernel
theorem dX0_spread_124 : decode cX0_spread 124 = .ok (.aload_n 1, 1) := by decide +kernel
theorem dX0_spread_125 : decode cX0_spread 125 = .ok (.iload 4, 2) := by decide +kernel
theorem dX0_spread_127 : decode cX0_spread 127 = .ok (.invokestatic 138, 3) := by decide +kernel
theorem dX0_spread_130 : decode cX0_spread 130 = .ok (.invokevirtual 145, 3) := by decide +kernel
theorem dX0_spread_133 : decode cX0_spread 133 = .ok (.iinc 6 1, 3) := by decide +kernel
theorem dX0_spread_136 : decode cX0_spread 136 = .ok (.iload 4, 2) := by decide +kernel
theorem dX0_spread_138 : decode cX0_spread 138 = .ok (.iload 4, 2) := by decide +kernel
theorem dX0_spread_140 : decode cX0_spread 140 = .ok (.iconst 1, 1) := by decide +kernel
theorem dX0_spread_141 : decode cX0_spread 141 = .ok (.isub, 1) := by decide +kernel
theorem dX0_spread_142 : decode cX0_spread 142 = .ok (.iand, 1) := by decide +kernel
theorem dX0_spread_143 : decode cX0_spread 143 = .ok (.istore 4, 2) := by decide +kernel
theorem dX0_spread_145 : decode cX0_spread 145 = .ok (.goto (-33), 3) := by decide +kernel
theorem dX0_spread_148 : decode cX0_spread 148 = .ok (.return_, 1) := by decide +kernel
theorem dX0_isWet_0 : decode cX0_isWet 0 = .ok (.bipush 100, 2) := by decide +kernel
theorem dX0_isWet_2 : decode cX0_isWet 2 = .ok (.iload_n 3, 1) := by decide +kernel
theorem dX0_isWet_3 : decode cX0_isWet 3 = .ok (.bipush 32, 2) := by decide +kernel
theorem dX0_isWet_5 : decode cX0_isWet 5 = .ok (.iload_n 1, 1) := by decide +kernel
theorem dX0_isWet_6 : decode cX0_isWet 6 = .ok (.imul, 1) := by decide +kernel
theorem dX0_isWet_7 : decode cX0_isWet 7 = .ok (.iload_n 2, 1) := by decide +kernel
theorem dX0_isWet_8 : decode cX0_isWet 8 = .ok (.iadd, 1) := by decide +kernel
theorem dX0_isWet_9 : decode cX0_isWet 9 = .ok (.invokestatic 149, 3) := by decide +kernel
theorem dX0_isWet_12 : decode cX0_isWet 12 = .ok (.aload_n 0, 1) := by decide +kernel
theorem dX0_isWet_13 : decode cX0_isWet 13 = .ok (.getfield 29, 3) := by decide +kernel
theorem dX0_isWet_16 : decode cX0_isWet 16 = .ok (.if_icmp .ge 7, 3) := by decide +kernel
theorem dX0_isWet_19 : decode cX0_isWet 19 = .ok (.iconst 1, 1) := by decide +kernel
theorem dX0_isWet_20 : decode cX0_isWet 20 = .ok (.goto 4, 3) := by decide +kernel
theorem dX0_isWet_23 : decode cX0_isWet 23 = .ok (.iconst 0, 1) := by decide +kernel
theorem dX0_isWet_24 : decode cX0_isWet 24 = .ok (.ireturn, 1) := by decide +kernel
theorem dX0_lot_0 : decode cX0_lot 0 = .ok (.iload_n 1, 1) := by decide +kernel
theorem dX0_lot_1 : decode cX0_lot 1 = .ok (.sipush 197, 3) := by decide +kernel
theorem dX0_lot_4 : decode cX0_lot 4 = .ok (.invokestatic 153, 3) := by decide +kernel
theorem dX0_lot_7 : decode cX0_lot 7 = .ok (.iload_n 2, 1) := by decide +kernel
theorem dX0_lot_8 : decode cX0_lot 8 = .ok (.invokestatic 153, 3) := by decide +kernel
theorem dX0_lot_11 : decode cX0_lot 11 = .ok (.istore_n 3, 1) := by decide +kernel
theorem dX0_lot_12 : decode cX0_lot 12 = .ok (.iload_n 0, 1) := by decide +kernel
theorem dX0_lot_13 : decode cX0_lot 13 = .ok (.ifCond .le 11, 3) := by decide +kernel
theorem dX0_lot_16 : decode cX0_lot 16 = .ok (.iload_n 3, 1) := by decide +kernel
theorem dX0_lot_17 : decode cX0_lot 17 = .ok (.iconst 1, 1) := by decide +kernel
theorem dX0_lot_18 : decode cX0_lot 18 = .ok (.iushr, 1) := by decide +kernel
theorem dX0_lot_19 : decode cX0_lot 19 = .ok (.iload_n 0, 1) := by decide +kernel
theorem dX0_lot_20 : decode cX0_lot 20 = .ok (.irem, 1) := by decide +kernel
theorem dX0_lot_21 : decode cX0_lot 21 = .ok (.goto 4, 3) := by decide +kernel
theorem dX0_lot_24 : decode cX0_lot 24 = .ok (.iconst 0, 1) := by decide +kernel
theorem dX0_lot_25 : decode cX0_lot 25 = .ok (.ireturn, 1) := by decide +kernel
theorem dX0_stirred_0 : decode cX0_stirred 0 = .ok (.iload_n 0, 1) := by decide +kernel
theorem dX0_stirred_1 : decode cX0_stirred 1 = .ok (.iload_n 1, 1) := by decide +kernel
theorem dX0_stirred_2 : decode cX0_stirred 2 = .ok (.ixor, 1) := by decide +kernel
theorem dX0_stirred_3 : decode cX0_stirred 3 = .ok (.ldc 156, 2) := by decide +kernel
theorem dX0_stirred_5 : decode cX0_stirred 5 = .ok (.imul, 1) := by decide +kernel
theorem dX0_stirred_6 : decode cX0_stirred 6 = .ok (.sipush 12345, 3) := by decide +kernel
theorem dX0_stirred_9 : decode cX0_stirred 9 = .ok (.iadd, 1) := by decide +kernel
theorem dX0_stirred_10 : decode cX0_stirred 10 = .ok (.istore_n 2, 1) := by decide +kernel
theorem dX0_stirred_11 : decode cX0_stirred 11 = .ok (.iload_n 2, 1) := by decide +kernel
theorem dX0_stirred_12 : decode cX0_stirred 12 = .ok (.iload_n 2, 1) := by decide +kernel
theorem dX0_stirred_13 : decode cX0_stirred 13 = .ok (.bipush 15, 2) := by decide +kernel
theorem dX0_stirred_15 : decode cX0_stirred 15 = .ok (.iushr, 1) := by decide +kernel
theorem dX0_stirred_16 : decode cX0_stirred 16 = .ok (.ixor, 1) := by decide +kernel
theorem dX0_stirred_17 : decode cX0_stirred 17 = .ok (.ireturn, 1) := by decide +kernel
end
section
theorem dX1_init_0 : decode cX1_init 0 = .ok (.aload_n 0, 1) := by decide +kernel
theorem dX1_init_1 : decode cX1_init 1 = .ok (.invokespecial 3, 3) := by decide +kernel
theorem dX1_init_4 : decode cX1_init 4 = .ok (.aload_n 0, 1) := by decide +kernel
theorem dX1_init_5 : decode cX1_init 5 = .ok (.bipush 25, 2) := by decide +kernel
theorem dX1_init_7 : decode cX1_init 7 = .ok (.newarray .int, 2) := by decide +kernel
theorem dX1_init_9 : decode cX1_init 9 = .ok (.putfield 9, 3) := by decide +kernel
theorem dX1_init_12 : decode cX1_init 12 = .ok (.aload_n 0, 1) := by decide +kernel
theorem dX1_init_13 : decode cX1_init 13 = .ok (.bipush 50, 2) := by decide +kernel
theorem dX1_init_15 : decode cX1_init 15 = .ok (.newarray .int, 2) := by decide +kernel
theorem dX1_init_17 : decode cX1_init 17 = .ok (.putfield 15, 3) := by decide +kernel
theorem dX1_init_20 : decode cX1_init 20 = .ok (.aload_n 0, 1) := by decide +kernel
theorem dX1_init_21 : decode cX1_init 21 = .ok (.bipush 50, 2) := by decide +kernel
theorem dX1_init_23 : decode cX1_init 23 = .ok (.newarray .int, 2) := by decide +kernel
theorem dX1_init_25 : decode cX1_init 25 = .ok (.putfield 18, 3) := by decide +kernel
theorem dX1_init_28 : decode cX1_init 28 = .ok (.aload_n 0, 1) := by decide +kernel
theorem dX1_init_29 : decode cX1_init 29 = .ok (.iconst 0, 1) := by decide +kernel
theorem dX1_init_30 : decode cX1_init 30 = .ok (.putfield 21, 3) := by decide +kernel
theorem dX1_init_33 : decode cX1_init 33 = .ok (.aload_n 0, 1) := by decide +kernel
theorem dX1_init_34 : decode cX1_init 34 = .ok (.aload_n 1, 1) := by decide +kernel
theorem dX1_init_35 : decode cX1_init 35 = .ok (.putfield 25, 3) := by decide +kernel
theorem dX1_init_38 : decode cX1_init 38 = .ok (.return_, 1) := by decide +kernel
theorem dX1_fewestRopes_0 : decode cX1_fewestRopes 0 = .ok (.aload_n 0, 1) := by decide +kernel
theorem dX1_fewestRopes_1 : decode cX1_fewestRopes 1 = .ok (.getfield 9, 3) := by decide +kernel
theorem dX1_fewestRopes_4 : decode cX1_fewestRopes 4 = .ok (.iconst (-1), 1) := by decide +kernel
theorem dX1_fewestRopes_5 : decode cX1_fewestRopes 5 = .ok (.invokestatic 29, 3) := by decide +kernel
theorem dX1_fewestRopes_8 : decode cX1_fewestRopes 8 = .ok (.iconst 0, 1) := by decide +kernel
theorem dX1_fewestRopes_9 : decode cX1_fewestRopes 9 = .ok (.istore 4, 2) := by decide +kernel
theorem dX1_fewestRopes_11 : decode cX1_fewestRopes 11 = .ok (.iconst 0, 1) := by decide +kernel
theorem dX1_fewestRopes_12 : decode cX1_fewestRopes 12 = .ok (.istore 5, 2) := by decide +kernel
theorem dX1_fewestRopes_14 : decode cX1_fewestRopes 14 = .ok (.iload 5, 2) := by decide +kernel
theorem dX1_fewestRopes_16 : decode cX1_fewestRopes 16 = .ok (.iconst 4, 1) := by decide +kernel
theorem dX1_fewestRopes_17 : decode cX1_fewestRopes 17 = .ok (.if_icmp .ge 28, 3) := by decide +kernel
theorem dX1_fewestRopes_20 : decode cX1_fewestRopes 20 = .ok (.aload_n 0, 1) := by decide +kernel
theorem dX1_fewestRopes_21 : decode cX1_fewestRopes 21 = .ok (.iload_n 1, 1) := by decide +kernel
theorem dX1_fewestRopes_22 : decode cX1_fewestRopes 22 = .ok (.iload_n 2, 1) := by decide +kernel
theorem dX1_fewestRopes_23 : decode cX1_fewestRopes 23 = .ok (.iload_n 3, 1) := by decide +kernel
theorem dX1_fewestRopes_24 : decode cX1_fewestRopes 24 = .ok (.invokevirtual 35, 3) := by decide +kernel
theorem dX1_fewestRopes_27 : decode cX1_fewestRopes 27 = .ok (.ifCond .eq 18, 3) := by decide +kernel
theorem dX1_fewestRopes_30 : decode cX1_fewestRopes 30 = .ok (.aload_n 0, 1) := by decide +kernel
theorem dX1_fewestRopes_31 : decode cX1_fewestRopes 31 = .ok (.iload_n 2, 1) := by decide +kernel
theorem dX1_fewestRopes_32 : decode cX1_fewestRopes 32 = .ok (.iload_n 3, 1) := by decide +kernel
theorem dX1_fewestRopes_33 : decode cX1_fewestRopes 33 = .ok (.invokevirtual 39, 3) := by decide +kernel
theorem dX1_fewestRopes_36 : decode cX1_fewestRopes 36 = .ok (.iinc 4 1, 3) := by decide +kernel
theorem dX1_fewestRopes_39 : decode cX1_fewestRopes 39 = .ok (.iinc 5 1, 3) := by decide +kernel
theorem dX1_fewestRopes_42 : decode cX1_fewestRopes 42 = .ok (.goto (-28), 3) := by decide +kernel
theorem dX1_fewestRopes_45 : decode cX1_fewestRopes 45 = .ok (.iload 4, 2) := by decide +kernel
theorem dX1_fewestRopes_47 : decode cX1_fewestRopes 47 = .ok (.ireturn, 1) := by decide +kernel
theorem dX1_search_0 : decode cX1_search 0 = .ok (.aload_n 0, 1) := by decide +kernel
theorem dX1_search_1 : decode cX1_search 1 = .ok (.getfield 15, 3) := by decide +kernel
theorem dX1_search_4 : decode cX1_search 4 = .ok (.iconst (-1), 1) := by decide +kernel
theorem dX1_search_5 : decode cX1_search 5 = .ok (.invokestatic 29, 3) := by decide +kernel
theorem dX1_search_8 : decode cX1_search 8 = .ok (.aload_n 0, 1) := by decide +kernel
theorem dX1_search_9 : decode cX1_search 9 = .ok (.iconst 0, 1) := by decide +kernel
theorem dX1_search_10 : decode cX1_search 10 = .ok (.putfield 21, 3) := by decide +kernel
theorem dX1_search_13 : decode cX1_search 13 = .ok (.aload_n 0, 1) := by decide +kernel
theorem dX1_search_14 : decode cX1_search 14 = .ok (.iconst 2, 1) := by decide +kernel
theorem dX1_search_15 : decode cX1_search 15 = .ok (.iload_n 2, 1) := by decide +kernel
theorem dX1_search_16 : decode cX1_search 16 = .ok (.imul, 1) := by decide +kernel
theorem dX1_search_17 : decode cX1_search 17 = .ok (.iconst 1, 1) := by decide +kernel
theorem dX1_search_18 : decode cX1_search 18 = .ok (.iadd, 1) := by decide +kernel
theorem dX1_search_19 : decode cX1_search 19 = .ok (.iconst 2, 1) := by decide +kernel
theorem dX1_search_20 : decode cX1_search 20 = .ok (.iload_n 2, 1) := by decide +kernel
theorem dX1_search_21 : decode cX1_search 21 = .ok (.imul, 1) := by decide +kernel
theorem dX1_search_22 : decode cX1_search 22 = .ok (.iconst 1, 1) := by decide +kernel
theorem dX1_search_23 : decode cX1_search 23 = .ok (.iadd, 1) := by decide +kernel
theorem dX1_search_24 : decode cX1_search 24 = .ok (.invokevirtual 43, 3) := by decide +kernel
theorem dX1_search_27 : decode cX1_search 27 = .ok (.iconst 0, 1) := by decide +kernel
theorem dX1_search_28 : decode cX1_search 28 = .ok (.istore 4, 2) := by decide +kernel
theorem dX1_search_30 : decode cX1_search 30 = .ok (.iload 4, 2) := by decide +kernel
theorem dX1_search_32 : decode cX1_search 32 = .ok (.aload_n 0, 1) := by decide +kernel
theorem dX1_search_33 : decode cX1_search 33 = .ok (.getfield 21, 3) := by decide +kernel
theorem dX1_search_36 : decode cX1_search 36 = .ok (.if_icmp .ge 76, 3) := by decide +kernel
theorem dX1_search_39 : decode cX1_search 39 = .ok (.iload 4, 2) := by decide +kernel
theorem dX1_search_41 : decode cX1_search 41 = .ok (.bipush 50, 2) := by decide +kernel
theorem dX1_search_43 : decode cX1_search 43 = .ok (.if_icmp .ge 69, 3) := by decide +kernel
theorem dX1_search_46 : decode cX1_search 46 = .ok (.aload_n 0, 1) := by decide +kernel
theorem dX1_search_47 : decode cX1_search 47 = .ok (.getfield 18, 3) := by decide +kernel
theorem dX1_search_50 : decode cX1_search 50 = .ok (.iload 4, 2) := by decide +kernel
theorem dX1_search_52 : decode cX1_search 52 = .ok (.iaload, 1) := by decide +kernel
theorem dX1_search_53 : decode cX1_search 53 = .ok (.iconst 1, 1) := by decide +kernel
theorem dX1_search_54 : decode cX1_search 54 = .ok (.ishr, 1) := by decide +kernel
theorem dX1_search_55 : decode cX1_search 55 = .ok (.istore 5, 2) := by decide +kernel
theorem dX1_search_57 : decode cX1_search 57 = .ok (.aload_n 0, 1) := by decide +kernel
theorem dX1_search_58 : decode cX1_search 58 = .ok (.getfield 18, 3) := by decide +kernel
theorem dX1_search_61 : decode cX1_search 61 = .ok (.iload 4, 2) := by decide +kernel
theorem dX1_search_63 : decode cX1_search 63 = .ok (.iaload, 1) := by decide +kernel
theorem dX1_search_64 : decode cX1_search 64 = .ok (.iconst 2, 1) := by decide +kernel
theorem dX1_search_65 : decode cX1_search 65 = .ok (.iload_n 3, 1) := by decide +kernel
theorem dX1_search_66 : decode cX1_search 66 = .ok (.imul, 1) := by decide +kernel
theorem dX1_search_67 : decode cX1_search 67 = .ok (.if_icmp .ne 5, 3) := by decide +kernel
theorem dX1_search_70 : decode cX1_search 70 = .ok (.iconst 1, 1) := by decide +kernel
theorem dX1_search_71 : decode cX1_search 71 = .ok (.ireturn, 1) := by decide +kernel
theorem dX1_search_72 : decode cX1_search 72 = .ok (.aload_n 0, 1) := by decide +kernel
theorem dX1_search_73 : decode cX1_search 73 = .ok (.getfield 18, 3) := by decide +kernel
theorem dX1_search_76 : decode cX1_search 76 = .ok (.iload 4, 2) := by decide +kernel
theorem dX1_search_78 : decode cX1_search 78 = .ok (.iaload, 1) := by decide +kernel
theorem dX1_search_79 : decode cX1_search 79 = .ok (.iconst 1, 1) := by decide +kernel
theorem dX1_search_80 : decode cX1_search 80 = .ok (.iand, 1) := by decide +kernel
theorem dX1_search_81 : decode cX1_search 81 = .ok (.ifCond .ne 12, 3) := by decide +kernel
theorem dX1_search_84 : decode cX1_search 84 = .ok (.aload_n 0, 1) := by decide +kernel
theorem dX1_search_85 : decode cX1_search 85 = .ok (.iload 5, 2) := by decide +kernel
theorem dX1_search_87 : decode cX1_search 87 = .ok (.invokevirtual 46, 3) := by decide +kernel
theorem dX1_search_90 : decode cX1_search 90 = .ok (.goto 16, 3) := by decide +kernel
theorem dX1_search_93 : decode cX1_search 93 = .ok (.aload_n 0, 1) := by decide +kernel
theorem dX1_search_94 : decode cX1_search 94 = .ok (.iload 5, 2) := by decide +kernel
theorem dX1_search_96 : decode cX1_search 96 = .ok (.iload_n 1, 1) := by decide +kernel
theorem dX1_search_97 : decode cX1_search 97 = .ok (.iconst 1, 1) := by decide +kernel
theorem dX1_search_98 : decode cX1_search 98 = .ok (.iload_n 2, 1) := by decide +kernel
theorem dX1_search_99 : decode cX1_search 99 = .ok (.ishl, 1) := by decide +kernel
theorem dX1_search_100 : decode cX1_search 100 = .ok (.iconst (-1), 1) := by decide +kernel
theorem dX1_search_101 : decode cX1_search 101 = .ok (.ixor, 1) := by decide +kernel
theorem dX1_search_102 : decode cX1_search 102 = .ok (.iand, 1) := by decide +kernel
theorem dX1_search_103 : decode cX1_search 103 = .ok (.invokevirtual 50, 3) := by decide +kernel
theorem dX1_search_106 : decode cX1_search 106 = .ok (.iinc 4 1, 3) := by decide +kernel
theorem dX1_search_109 : decode cX1_search 109 = .ok (.goto (-79), 3) := by decide +kernel
theorem dX1_search_112 : decode cX1_search 112 = .ok (.iconst 0, 1) := by decide +kernel
theorem dX1_search_113 : decode cX1_search 113 = .ok (.ireturn, 1) := by decide +kernel
theorem dX1_find_0 : decode cX1_find 0 = .ok (.iload_n 1, 1) := by decide +kernel
theorem dX1_find_1 : decode cX1_find 1 = .ok (.ifCond .lt 55, 3) := by decide +kernel
theorem dX1_find_4 : decode cX1_find 4 = .ok (.iload_n 1, 1) := by decide +kernel
theorem dX1_find_5 : decode cX1_find 5 = .ok (.bipush 50, 2) := by decide +kernel
theorem dX1_find_7 : decode cX1_find 7 = .ok (.if_icmp .ge 49, 3) := by decide +kernel
theorem dX1_find_10 : decode cX1_find 10 = .ok (.aload_n 0, 1) := by decide +kernel
theorem dX1_find_11 : decode cX1_find 11 = .ok (.getfield 15, 3) := by decide +kernel
theorem dX1_find_14 : decode cX1_find 14 = .ok (.iload_n 1, 1) := by decide +kernel
theorem dX1_find_15 : decode cX1_find 15 = .ok (.iaload, 1) := by decide +kernel
theorem dX1_find_16 : decode cX1_find 16 = .ok (.iconst (-1), 1) := by decide +kernel
theorem dX1_find_17 : decode cX1_find 17 = .ok (.if_icmp .ne 39, 3) := by decide +kernel
theorem dX1_find_20 : decode cX1_find 20 = .ok (.aload_n 0, 1) := by decide +kernel
theorem dX1_find_21 : decode cX1_find 21 = .ok (.getfield 21, 3) := by decide +kernel
theorem dX1_find_24 : decode cX1_find 24 = .ok (.bipush 50, 2) := by decide +kernel
theorem dX1_find_26 : decode cX1_find 26 = .ok (.if_icmp .ge 30, 3) := by decide +kernel
theorem dX1_find_29 : decode cX1_find 29 = .ok (.aload_n 0, 1) := by decide +kernel
theorem dX1_find_30 : decode cX1_find 30 = .ok (.getfield 15, 3) := by decide +kernel
theorem dX1_find_33 : decode cX1_find 33 = .ok (.iload_n 1, 1) := by decide +kernel
theorem dX1_find_34 : decode cX1_find 34 = .ok (.iload_n 2, 1) := by decide +kernel
theorem dX1_find_35 : decode cX1_find 35 = .ok (.iastore, 1) := by decide +kernel
theorem dX1_find_36 : decode cX1_find 36 = .ok (.aload_n 0, 1) := by decide +kernel
theorem dX1_find_37 : decode cX1_find 37 = .ok (.getfield 18, 3) := by decide +kernel
theorem dX1_find_40 : decode cX1_find 40 = .ok (.aload_n 0, 1) := by decide +kernel
theorem dX1_find_41 : decode cX1_find 41 = .ok (.getfield 21, 3) := by decide +kernel
theorem dX1_find_44 : decode cX1_find 44 = .ok (.iload_n 1, 1) := by decide +kernel
theorem dX1_find_45 : decode cX1_find 45 = .ok (.iastore, 1) := by decide +kernel
theorem dX1_find_46 : decode cX1_find 46 = .ok (.aload_n 0, 1) := by decide +kernel
theorem dX1_find_47 : decode cX1_find 47 = .ok (.dup, 1) := by decide +kernel
theorem dX1_find_48 : decode cX1_find 48 = .ok (.getfield 21, 3) := by decide +kernel
theorem dX1_find_51 : decode cX1_find 51 = .ok (.iconst 1, 1) := by decide +kernel
theorem dX1_find_52 : decode cX1_find 52 = .ok (.iadd, 1) := by decide +kernel
theorem dX1_find_53 : decode cX1_find 53 = .ok (.putfield 21, 3) := by decide +kernel
theorem dX1_find_56 : decode cX1_find 56 = .ok (.return_, 1) := by decide +kernel
theorem dX1_leadOnFromEntry_0 : decode cX1_leadOnFromEntry 0 = .ok (.aload_n 0, 1) := by decide +kernel
theorem dX1_leadOnFromEntry_1 : decode cX1_leadOnFromEntry 1 = .ok (.getfield 9, 3) := by decide +kernel
theorem dX1_leadOnFromEntry_4 : decode cX1_leadOnFromEntry 4 = .ok (.iload_n 1, 1) := by decide +kernel
theorem dX1_leadOnFromEntry_5 : decode cX1_leadOnFromEntry 5 = .ok (.iaload, 1) := by decide +kernel
theorem dX1_leadOnFromEntry_6 : decode cX1_leadOnFromEntry 6 = .ok (.istore_n 2, 1) := by decide +kernel
theorem dX1_leadOnFromEntry_7 : decode cX1_leadOnFromEntry 7 = .ok (.aload_n 0, 1) := by decide +kernel
theorem dX1_leadOnFromEntry_8 : decode cX1_leadOnFromEntry 8 = .ok (.iload_n 2, 1) := by decide +kernel
theorem dX1_leadOnFromEntry_9 : decode cX1_leadOnFromEntry 9 = .ok (.iconst (-1), 1) := by decide +kernel
theorem dX1_leadOnFromEntry_10 : decode cX1_leadOnFromEntry 10 = .ok (.if_icmp .ne 11, 3) := by decide +kernel
theorem dX1_leadOnFromEntry_13 : decode cX1_leadOnFromEntry 13 = .ok (.iconst 2, 1) := by decide +kernel
theorem dX1_leadOnFromEntry_14 : decode cX1_leadOnFromEntry 14 = .ok (.iload_n 1, 1) := by decide +kernel
theorem dX1_leadOnFromEntry_15 : decode cX1_leadOnFromEntry 15 = .ok (.imul, 1) := by decide +kernel
theorem dX1_leadOnFromEntry_16 : decode cX1_leadOnFromEntry 16 = .ok (.iconst 1, 1) := by decide +kernel
theorem dX1_leadOnFromEntry_17 : decode cX1_leadOnFromEntry 17 = .ok (.iadd, 1) := by decide +kernel
theorem dX1_leadOnFromEntry_18 : decode cX1_leadOnFromEntry 18 = .ok (.goto 8, 3) := by decide +kernel
theorem dX1_leadOnFromEntry_21 : decode cX1_leadOnFromEntry 21 = .ok (.iconst 2, 1) := by decide +kernel
theorem dX1_leadOnFromEntry_22 : decode cX1_leadOnFromEntry 22 = .ok (.iload_n 2, 1) := by decide +kernel
theorem dX1_leadOnFromEntry_23 : decode cX1_leadOnFromEntry 23 = .ok (.imul, 1) := by decide +kernel
theorem dX1_leadOnFromEntry_24 : decode cX1_leadOnFromEntry 24 = .ok (.iconst 1, 1) := by decide +kernel
theorem dX1_leadOnFromEntry_25 : decode cX1_leadOnFromEntry 25 = .ok (.iadd, 1) := by decide +kernel
theorem dX1_leadOnFromEntry_26 : decode cX1_leadOnFromEntry 26 = .ok (.iconst 2, 1) := by decide +kernel
theorem dX1_leadOnFromEntry_27 : decode cX1_leadOnFromEntry 27 = .ok (.iload_n 1, 1) := by decide +kernel
theorem dX1_leadOnFromEntry_28 : decode cX1_leadOnFromEntry 28 = .ok (.imul, 1) := by decide +kernel
theorem dX1_leadOnFromEntry_29 : decode cX1_leadOnFromEntry 29 = .ok (.invokevirtual 43, 3) := by decide +kernel
theorem dX1_leadOnFromEntry_32 : decode cX1_leadOnFromEntry 32 = .ok (.return_, 1) := by decide +kernel
theorem dX1_leadOnFromExit_0 : decode cX1_leadOnFromExit 0 = .ok (.aload_n 0, 1) := by decide +kernel
theorem dX1_leadOnFromExit_1 : decode cX1_leadOnFromExit 1 = .ok (.getfield 25, 3) := by decide +kernel
theorem dX1_leadOnFromExit_4 : decode cX1_leadOnFromExit 4 = .ok (.iconst 1, 1) := by decide +kernel
theorem dX1_leadOnFromExit_5 : decode cX1_leadOnFromExit 5 = .ok (.iload_n 1, 1) := by decide +kernel
theorem dX1_leadOnFromExit_6 : decode cX1_leadOnFromExit 6 = .ok (.ishl, 1) := by decide +kernel
theorem dX1_leadOnFromExit_7 : decode cX1_leadOnFromExit 7 = .ok (.invokevirtual 53, 3) := by decide +kernel
theorem dX1_leadOnFromExit_10 : decode cX1_leadOnFromExit 10 = .ok (.iload_n 2, 1) := by decide +kernel
theorem dX1_leadOnFromExit_11 : decode cX1_leadOnFromExit 11 = .ok (.iand, 1) := by decide +kernel
theorem dX1_leadOnFromExit_12 : decode cX1_leadOnFromExit 12 = .ok (.iconst 1, 1) := by decide +kernel
theorem dX1_leadOnFromExit_13 : decode cX1_leadOnFromExit 13 = .ok (.iload_n 1, 1) := by decide +kernel
theorem dX1_leadOnFromExit_14 : decode cX1_leadOnFromExit 14 = .ok (.ishl, 1) := by decide +kernel
theorem dX1_leadOnFromExit_15 : decode cX1_leadOnFromExit 15 = .ok (.iconst (-1), 1) := by decide +kernel
theorem dX1_leadOnFromExit_16 : decode cX1_leadOnFromExit 16 = .ok (.ixor, 1) := by decide +kernel
theorem dX1_leadOnFromExit_17 : decode cX1_leadOnFromExit 17 = .ok (.iand, 1) := by decide +kernel
theorem dX1_leadOnFromExit_18 : decode cX1_leadOnFromExit 18 = .ok (.istore_n 3, 1) := by decide +kernel
theorem dX1_leadOnFromExit_19 : decode cX1_leadOnFromExit 19 = .ok (.iconst 0, 1) := by decide +kernel
theorem dX1_leadOnFromExit_20 : decode cX1_leadOnFromExit 20 = .ok (.istore 4, 2) := by decide +kernel
theorem dX1_leadOnFromExit_22 : decode cX1_leadOnFromExit 22 = .ok (.iload 4, 2) := by decide +kernel
theorem dX1_leadOnFromExit_24 : decode cX1_leadOnFromExit 24 = .ok (.bipush 25, 2) := by decide +kernel
theorem dX1_leadOnFromExit_26 : decode cX1_leadOnFromExit 26 = .ok (.if_icmp .ge 42, 3) := by decide +kernel
theorem dX1_leadOnFromExit_29 : decode cX1_leadOnFromExit 29 = .ok (.iload_n 3, 1) := by decide +kernel
theorem dX1_leadOnFromExit_30 : decode cX1_leadOnFromExit 30 = .ok (.iload 4, 2) := by decide +kernel
theorem dX1_leadOnFromExit_32 : decode cX1_leadOnFromExit 32 = .ok (.iushr, 1) := by decide +kernel
theorem dX1_leadOnFromExit_33 : decode cX1_leadOnFromExit 33 = .ok (.iconst 1, 1) := by decide +kernel
theorem dX1_leadOnFromExit_34 : decode cX1_leadOnFromExit 34 = .ok (.iand, 1) := by decide +kernel
theorem dX1_leadOnFromExit_35 : decode cX1_leadOnFromExit 35 = .ok (.ifCond .eq 27, 3) := by decide +kernel
theorem dX1_leadOnFromExit_38 : decode cX1_leadOnFromExit 38 = .ok (.aload_n 0, 1) := by decide +kernel
theorem dX1_leadOnFromExit_39 : decode cX1_leadOnFromExit 39 = .ok (.getfield 9, 3) := by decide +kernel
theorem dX1_leadOnFromExit_42 : decode cX1_leadOnFromExit 42 = .ok (.iload 4, 2) := by decide +kernel
theorem dX1_leadOnFromExit_44 : decode cX1_leadOnFromExit 44 = .ok (.iaload, 1) := by decide +kernel
theorem dX1_leadOnFromExit_45 : decode cX1_leadOnFromExit 45 = .ok (.iload_n 1, 1) := by decide +kernel
theorem dX1_leadOnFromExit_46 : decode cX1_leadOnFromExit 46 = .ok (.if_icmp .eq 16, 3) := by decide +kernel
theorem dX1_leadOnFromExit_49 : decode cX1_leadOnFromExit 49 = .ok (.aload_n 0, 1) := by decide +kernel
theorem dX1_leadOnFromExit_50 : decode cX1_leadOnFromExit 50 = .ok (.iconst 2, 1) := by decide +kernel
theorem dX1_leadOnFromExit_51 : decode cX1_leadOnFromExit 51 = .ok (.iload 4, 2) := by decide +kernel
theorem dX1_leadOnFromExit_53 : decode cX1_leadOnFromExit 53 = .ok (.imul, 1) := by decide +kernel
theorem dX1_leadOnFromExit_54 : decode cX1_leadOnFromExit 54 = .ok (.iconst 2, 1) := by decide +kernel
theorem dX1_leadOnFromExit_55 : decode cX1_leadOnFromExit 55 = .ok (.iload_n 1, 1) := by decide +kernel
theorem dX1_leadOnFromExit_56 : decode cX1_leadOnFromExit 56 = .ok (.imul, 1) := by decide +kernel
theorem dX1_leadOnFromExit_57 : decode cX1_leadOnFromExit 57 = .ok (.iconst 1, 1) := by decide +kernel
theorem dX1_leadOnFromExit_58 : decode cX1_leadOnFromExit 58 = .ok (.iadd, 1) := by decide +kernel
theorem dX1_leadOnFromExit_59 : decode cX1_leadOnFromExit 59 = .ok (.invokevirtual 43, 3) := by decide +kernel
theorem dX1_leadOnFromExit_62 : decode cX1_leadOnFromExit 62 = .ok (.iinc 4 1, 3) := by decide +kernel
theorem dX1_leadOnFromExit_65 : decode cX1_leadOnFromExit 65 = .ok (.goto (-43), 3) := by decide +kernel
theorem dX1_leadOnFromExit_68 : decode cX1_leadOnFromExit 68 = .ok (.aload_n 0, 1) := by decide +kernel
theorem dX1_leadOnFromExit_69 : decode cX1_leadOnFromExit 69 = .ok (.getfield 9, 3) := by decide +kernel
theorem dX1_leadOnFromExit_72 : decode cX1_leadOnFromExit 72 = .ok (.iload_n 1, 1) := by decide +kernel
theorem dX1_leadOnFromExit_73 : decode cX1_leadOnFromExit 73 = .ok (.iaload, 1) := by decide +kernel
theorem dX1_leadOnFromExit_74 : decode cX1_leadOnFromExit 74 = .ok (.iconst (-1), 1) := by decide +kernel
theorem dX1_leadOnFromExit_75 : decode cX1_leadOnFromExit 75 = .ok (.if_icmp .eq 15, 3) := by decide +kernel
theorem dX1_leadOnFromExit_78 : decode cX1_leadOnFromExit 78 = .ok (.aload_n 0, 1) := by decide +kernel
theorem dX1_leadOnFromExit_79 : decode cX1_leadOnFromExit 79 = .ok (.iconst 2, 1) := by decide +kernel
theorem dX1_leadOnFromExit_80 : decode cX1_leadOnFromExit 80 = .ok (.iload_n 1, 1) := by decide +kernel
theorem dX1_leadOnFromExit_81 : decode cX1_leadOnFromExit 81 = .ok (.imul, 1) := by decide +kernel
theorem dX1_leadOnFromExit_82 : decode cX1_leadOnFromExit 82 = .ok (.iconst 2, 1) := by decide +kernel
theorem dX1_leadOnFromExit_83 : decode cX1_leadOnFromExit 83 = .ok (.iload_n 1, 1) := by decide +kernel
theorem dX1_leadOnFromExit_84 : decode cX1_leadOnFromExit 84 = .ok (.imul, 1) := by decide +kernel
theorem dX1_leadOnFromExit_85 : decode cX1_leadOnFromExit 85 = .ok (.iconst 1, 1) := by decide +kernel
theorem dX1_leadOnFromExit_86 : decode cX1_leadOnFromExit 86 = .ok (.iadd, 1) := by decide +kernel
theorem dX1_leadOnFromExit_87 : decode cX1_leadOnFromExit 87 = .ok (.invokevirtual 43, 3) := by decide +kernel
theorem dX1_leadOnFromExit_90 : decode cX1_leadOnFromExit 90 = .ok (.return_, 1) := by decide +kernel
theorem dX1_layWay_0 : decode cX1_layWay 0 = .ok (.iconst 2, 1) := by decide +kernel
theorem dX1_layWay_1 : decode cX1_layWay 1 = .ok (.iload_n 2, 1) := by decide +kernel
theorem dX1_layWay_2 : decode cX1_layWay 2 = .ok (.imul, 1) := by decide +kernel
theorem dX1_layWay_3 : decode cX1_layWay 3 = .ok (.istore_n 3, 1) := by decide +kernel
theorem dX1_layWay_4 : decode cX1_layWay 4 = .ok (.iconst 0, 1) := by decide +kernel
theorem dX1_layWay_5 : decode cX1_layWay 5 = .ok (.istore 4, 2) := by decide +kernel
theorem dX1_layWay_7 : decode cX1_layWay 7 = .ok (.iload 4, 2) := by decide +kernel
theorem dX1_layWay_9 : decode cX1_layWay 9 = .ok (.bipush 50, 2) := by decide +kernel
theorem dX1_layWay_11 : decode cX1_layWay 11 = .ok (.if_icmp .ge 76, 3) := by decide +kernel
theorem dX1_layWay_14 : decode cX1_layWay 14 = .ok (.iload_n 3, 1) := by decide +kernel
theorem dX1_layWay_15 : decode cX1_layWay 15 = .ok (.iconst 2, 1) := by decide +kernel
theorem dX1_layWay_16 : decode cX1_layWay 16 = .ok (.iload_n 1, 1) := by decide +kernel
theorem dX1_layWay_17 : decode cX1_layWay 17 = .ok (.imul, 1) := by decide +kernel
theorem dX1_layWay_18 : decode cX1_layWay 18 = .ok (.iconst 1, 1) := by decide +kernel
theorem dX1_layWay_19 : decode cX1_layWay 19 = .ok (.iadd, 1) := by decide +kernel
theorem dX1_layWay_20 : decode cX1_layWay 20 = .ok (.if_icmp .eq 67, 3) := by decide +kernel
theorem dX1_layWay_23 : decode cX1_layWay 23 = .ok (.aload_n 0, 1) := by decide +kernel
theorem dX1_layWay_24 : decode cX1_layWay 24 = .ok (.getfield 15, 3) := by decide +kernel
theorem dX1_layWay_27 : decode cX1_layWay 27 = .ok (.iload_n 3, 1) := by decide +kernel
theorem dX1_layWay_28 : decode cX1_layWay 28 = .ok (.iaload, 1) := by decide +kernel
theorem dX1_layWay_29 : decode cX1_layWay 29 = .ok (.istore 5, 2) := by decide +kernel
theorem dX1_layWay_31 : decode cX1_layWay 31 = .ok (.iload 5, 2) := by decide +kernel
theorem dX1_layWay_33 : decode cX1_layWay 33 = .ok (.ifCond .ge 4, 3) := by decide +kernel
theorem dX1_layWay_36 : decode cX1_layWay 36 = .ok (.return_, 1) := by decide +kernel
theorem dX1_layWay_37 : decode cX1_layWay 37 = .ok (.iload_n 3, 1) := by decide +kernel
theorem dX1_layWay_38 : decode cX1_layWay 38 = .ok (.iconst 1, 1) := by decide +kernel
theorem dX1_layWay_39 : decode cX1_layWay 39 = .ok (.ishr, 1) := by decide +kernel
theorem dX1_layWay_40 : decode cX1_layWay 40 = .ok (.istore 6, 2) := by decide +kernel
theorem dX1_layWay_42 : decode cX1_layWay 42 = .ok (.iload_n 3, 1) := by decide +kernel
theorem dX1_layWay_43 : decode cX1_layWay 43 = .ok (.iconst 1, 1) := by decide +kernel
theorem dX1_layWay_44 : decode cX1_layWay 44 = .ok (.iand, 1) := by decide +kernel
theorem dX1_layWay_45 : decode cX1_layWay 45 = .ok (.ifCond .ne 33, 3) := by decide +kernel
theorem dX1_layWay_48 : decode cX1_layWay 48 = .ok (.iload 6, 2) := by decide +kernel
theorem dX1_layWay_50 : decode cX1_layWay 50 = .ok (.iload_n 2, 1) := by decide +kernel
theorem dX1_layWay_51 : decode cX1_layWay 51 = .ok (.if_icmp .eq 27, 3) := by decide +kernel
theorem dX1_layWay_54 : decode cX1_layWay 54 = .ok (.aload_n 0, 1) := by decide +kernel
theorem dX1_layWay_55 : decode cX1_layWay 55 = .ok (.getfield 9, 3) := by decide +kernel
theorem dX1_layWay_58 : decode cX1_layWay 58 = .ok (.iload 6, 2) := by decide +kernel
theorem dX1_layWay_60 : decode cX1_layWay 60 = .ok (.iload 5, 2) := by decide +kernel
theorem dX1_layWay_62 : decode cX1_layWay 62 = .ok (.iconst 1, 1) := by decide +kernel
theorem dX1_layWay_63 : decode cX1_layWay 63 = .ok (.ishr, 1) := by decide +kernel
theorem dX1_layWay_64 : decode cX1_layWay 64 = .ok (.iload 6, 2) := by decide +kernel
theorem dX1_layWay_66 : decode cX1_layWay 66 = .ok (.if_icmp .ne 7, 3) := by decide +kernel
theorem dX1_layWay_69 : decode cX1_layWay 69 = .ok (.iconst (-1), 1) := by decide +kernel
theorem dX1_layWay_70 : decode cX1_layWay 70 = .ok (.goto 7, 3) := by decide +kernel
theorem dX1_layWay_73 : decode cX1_layWay 73 = .ok (.iload 5, 2) := by decide +kernel
theorem dX1_layWay_75 : decode cX1_layWay 75 = .ok (.iconst 1, 1) := by decide +kernel
theorem dX1_layWay_76 : decode cX1_layWay 76 = .ok (.ishr, 1) := by decide +kernel
theorem dX1_layWay_77 : decode cX1_layWay 77 = .ok (.iastore, 1) := by decide +kernel
theorem dX1_layWay_78 : decode cX1_layWay 78 = .ok (.iload 5, 2) := by decide +kernel
theorem dX1_layWay_80 : decode cX1_layWay 80 = .ok (.istore_n 3, 1) := by decide +kernel
theorem dX1_layWay_81 : decode cX1_layWay 81 = .ok (.iinc 4 1, 3) := by decide +kernel
theorem dX1_layWay_84 : decode cX1_layWay 84 = .ok (.goto (-77), 3) := by decide +kernel
theorem dX1_layWay_87 : decode cX1_layWay 87 = .ok (.return_, 1) := by decide +kernel
end
section
theorem dX10_init_0 : decode cX10_init 0 = .ok (.aload_n 0, 1) := by decide +kernel
theorem dX10_init_1 : decode cX10_init 1 = .ok (.invokespecial 3, 3) := by decide +kernel
theorem dX10_init_4 : decode cX10_init 4 = .ok (.aload_n 0, 1) := by decide +kernel
theorem dX10_init_5 : decode cX10_init 5 = .ok (.bipush 60, 2) := by decide +kernel
theorem dX10_init_7 : decode cX10_init 7 = .ok (.newarray .int, 2) := by decide +kernel
theorem dX10_init_9 : decode cX10_init 9 = .ok (.putfield 9, 3) := by decide +kernel
theorem dX10_init_12 : decode cX10_init 12 = .ok (.aload_n 0, 1) := by decide +kernel
theorem dX10_init_13 : decode cX10_init 13 = .ok (.bipush 101, 2) := by decide +kernel
theorem dX10_init_15 : decode cX10_init 15 = .ok (.newarray .int, 2) := by decide +kernel
theorem dX10_init_17 : decode cX10_init 17 = .ok (.putfield 15, 3) := by decide +kernel
theorem dX10_init_20 : decode cX10_init 20 = .ok (.aload_n 0, 1) := by decide +kernel
theorem dX10_init_21 : decode cX10_init 21 = .ok (.iconst 0, 1) := by decide +kernel
theorem dX10_init_22 : decode cX10_init 22 = .ok (.putfield 18, 3) := by decide +kernel
theorem dX10_init_25 : decode cX10_init 25 = .ok (.aload_n 0, 1) := by decide +kernel
theorem dX10_init_26 : decode cX10_init 26 = .ok (.iconst 0, 1) := by decide +kernel
theorem dX10_init_27 : decode cX10_init 27 = .ok (.putfield 22, 3) := by decide +kernel
theorem dX10_init_30 : decode cX10_init 30 = .ok (.aload_n 0, 1) := by decide +kernel
theorem dX10_init_31 : decode cX10_init 31 = .ok (.iconst (-1), 1) := by decide +kernel
theorem dX10_init_32 : decode cX10_init 32 = .ok (.putfield 25, 3) := by decide +kernel
theorem dX10_init_35 : decode cX10_init 35 = .ok (.aload_n 0, 1) := by decide +kernel
theorem dX10_init_36 : decode cX10_init 36 = .ok (.iconst (-1), 1) := by decide +kernel
theorem dX10_init_37 : decode cX10_init 37 = .ok (.putfield 28, 3) := by decide +kernel
theorem dX10_init_40 : decode cX10_init 40 = .ok (.aload_n 0, 1) := by decide +kernel
theorem dX10_init_41 : decode cX10_init 41 = .ok (.aload_n 1, 1) := by decide +kernel
theorem dX10_init_42 : decode cX10_init 42 = .ok (.putfield 31, 3) := by decide +kernel
theorem dX10_init_45 : decode cX10_init 45 = .ok (.return_, 1) := by decide +kernel
theorem dX10_look_0 : decode cX10_look 0 = .ok (.aload_n 0, 1) := by decide +kernel
theorem dX10_look_1 : decode cX10_look 1 = .ok (.aload_n 0, 1) := by decide +kernel
theorem dX10_look_2 : decode cX10_look 2 = .ok (.getfield 31, 3) := by decide +kernel
theorem dX10_look_5 : decode cX10_look 5 = .ok (.getfield 35, 3) := by decide +kernel
theorem dX10_look_8 : decode cX10_look 8 = .ok (.aload_n 1, 1) := by decide +kernel
theorem dX10_look_9 : decode cX10_look 9 = .ok (.getfield 40, 3) := by decide +kernel
theorem dX10_look_12 : decode cX10_look 12 = .ok (.iconst (-1), 1) := by decide +kernel
theorem dX10_look_13 : decode cX10_look 13 = .ok (.ixor, 1) := by decide +kernel
theorem dX10_look_14 : decode cX10_look 14 = .ok (.iand, 1) := by decide +kernel
theorem dX10_look_15 : decode cX10_look 15 = .ok (.putfield 18, 3) := by decide +kernel
theorem dX10_look_18 : decode cX10_look 18 = .ok (.aload_n 0, 1) := by decide +kernel
theorem dX10_look_19 : decode cX10_look 19 = .ok (.aload_n 1, 1) := by decide +kernel
theorem dX10_look_20 : decode cX10_look 20 = .ok (.getfield 45, 3) := by decide +kernel
theorem dX10_look_23 : decode cX10_look 23 = .ok (.putfield 22, 3) := by decide +kernel
theorem dX10_look_26 : decode cX10_look 26 = .ok (.aload_n 0, 1) := by decide +kernel
theorem dX10_look_27 : decode cX10_look 27 = .ok (.getfield 9, 3) := by decide +kernel
theorem dX10_look_30 : decode cX10_look 30 = .ok (.iconst 0, 1) := by decide +kernel
theorem dX10_look_31 : decode cX10_look 31 = .ok (.invokestatic 48, 3) := by decide +kernel
theorem dX10_look_34 : decode cX10_look 34 = .ok (.iconst 0, 1) := by decide +kernel
theorem dX10_look_35 : decode cX10_look 35 = .ok (.istore_n 2, 1) := by decide +kernel
theorem dX10_look_36 : decode cX10_look 36 = .ok (.aload_n 1, 1) := by decide +kernel
theorem dX10_look_37 : decode cX10_look 37 = .ok (.getfield 54, 3) := by decide +kernel
theorem dX10_look_40 : decode cX10_look 40 = .ok (.istore_n 3, 1) := by decide +kernel
theorem dX10_look_41 : decode cX10_look 41 = .ok (.iload_n 2, 1) := by decide +kernel
theorem dX10_look_42 : decode cX10_look 42 = .ok (.bipush 25, 2) := by decide +kernel
theorem dX10_look_44 : decode cX10_look 44 = .ok (.if_icmp .ge 77, 3) := by decide +kernel
theorem dX10_look_47 : decode cX10_look 47 = .ok (.iload_n 3, 1) := by decide +kernel
theorem dX10_look_48 : decode cX10_look 48 = .ok (.ifCond .eq 73, 3) := by decide +kernel
theorem dX10_look_51 : decode cX10_look 51 = .ok (.iload_n 3, 1) := by decide +kernel
theorem dX10_look_52 : decode cX10_look 52 = .ok (.invokestatic 57, 3) := by decide +kernel
theorem dX10_look_55 : decode cX10_look 55 = .ok (.istore 4, 2) := by decide +kernel
theorem dX10_look_57 : decode cX10_look 57 = .ok (.aload_n 1, 1) := by decide +kernel
theorem dX10_look_58 : decode cX10_look 58 = .ok (.iload 4, 2) := by decide +kernel
theorem dX10_look_60 : decode cX10_look 60 = .ok (.invokevirtual 61, 3) := by decide +kernel
theorem dX10_look_63 : decode cX10_look 63 = .ok (.istore 5, 2) := by decide +kernel
theorem dX10_look_65 : decode cX10_look 65 = .ok (.aload_n 1, 1) := by decide +kernel
theorem dX10_look_66 : decode cX10_look 66 = .ok (.iload 4, 2) := by decide +kernel
theorem dX10_look_68 : decode cX10_look 68 = .ok (.invokevirtual 64, 3) := by decide +kernel
theorem dX10_look_71 : decode cX10_look 71 = .ok (.istore 6, 2) := by decide +kernel
theorem dX10_look_73 : decode cX10_look 73 = .ok (.iload 6, 2) := by decide +kernel
theorem dX10_look_75 : decode cX10_look 75 = .ok (.bipush 60, 2) := by decide +kernel
theorem dX10_look_77 : decode cX10_look 77 = .ok (.if_icmp .ge 32, 3) := by decide +kernel
theorem dX10_look_80 : decode cX10_look 80 = .ok (.iload 5, 2) := by decide +kernel
theorem dX10_look_82 : decode cX10_look 82 = .ok (.ifCond .le 27, 3) := by decide +kernel
theorem dX10_look_85 : decode cX10_look 85 = .ok (.aload_n 0, 1) := by decide +kernel
theorem dX10_look_86 : decode cX10_look 86 = .ok (.getfield 9, 3) := by decide +kernel
theorem dX10_look_89 : decode cX10_look 89 = .ok (.iload 6, 2) := by decide +kernel
theorem dX10_look_91 : decode cX10_look 91 = .ok (.dup2, 1) := by decide +kernel
theorem dX10_look_92 : decode cX10_look 92 = .ok (.iaload, 1) := by decide +kernel
theorem dX10_look_93 : decode cX10_look 93 = .ok (.iconst 1, 1) := by decide +kernel
theorem dX10_look_94 : decode cX10_look 94 = .ok (.iload 4, 2) := by decide +kernel
theorem dX10_look_96 : decode cX10_look 96 = .ok (.ishl, 1) := by decide +kernel
theorem dX10_look_97 : decode cX10_look 97 = .ok (.ior, 1) := by decide +kernel
theorem dX10_look_98 : decode cX10_look 98 = .ok (.iastore, 1) := by decide +kernel
theorem dX10_look_99 : decode cX10_look 99 = .ok (.iload 6, 2) := by decide +kernel
theorem dX10_look_101 : decode cX10_look 101 = .ok (.iload 5, 2) := by decide +kernel
theorem dX10_look_103 : decode cX10_look 103 = .ok (.iadd, 1) := by decide +kernel
theorem dX10_look_104 : decode cX10_look 104 = .ok (.istore 6, 2) := by decide +kernel
theorem dX10_look_106 : decode cX10_look 106 = .ok (.goto (-33), 3) := by decide +kernel
theorem dX10_look_109 : decode cX10_look 109 = .ok (.iinc 2 1, 3) := by decide +kernel
theorem dX10_look_112 : decode cX10_look 112 = .ok (.iload_n 3, 1) := by decide +kernel
theorem dX10_look_113 : decode cX10_look 113 = .ok (.iload_n 3, 1) := by decide +kernel
theorem dX10_look_114 : decode cX10_look 114 = .ok (.iconst 1, 1) := by decide +kernel
theorem dX10_look_115 : decode cX10_look 115 = .ok (.isub, 1) := by decide +kernel
theorem dX10_look_116 : decode cX10_look 116 = .ok (.iand, 1) := by decide +kernel
theorem dX10_look_117 : decode cX10_look 117 = .ok (.istore_n 3, 1) := by decide +kernel
theorem dX10_look_118 : decode cX10_look 118 = .ok (.goto (-77), 3) := by decide +kernel
theorem dX10_look_121 : decode cX10_look 121 = .ok (.return_, 1) := by decide +kernel
theorem dX10_quietAt_0 : decode cX10_quietAt 0 = .ok (.aload_n 0, 1) := by decide +kernel
theorem dX10_quietAt_1 : decode cX10_quietAt 1 = .ok (.getfield 18, 3) := by decide +kernel
theorem dX10_quietAt_4 : decode cX10_quietAt 4 = .ok (.aload_n 0, 1) := by decide +kernel
theorem dX10_quietAt_5 : decode cX10_quietAt 5 = .ok (.getfield 9, 3) := by decide +kernel
theorem dX10_quietAt_8 : decode cX10_quietAt 8 = .ok (.iload_n 1, 1) := by decide +kernel
theorem dX10_quietAt_9 : decode cX10_quietAt 9 = .ok (.bipush 60, 2) := by decide +kernel
theorem dX10_quietAt_11 : decode cX10_quietAt 11 = .ok (.invokestatic 67, 3) := by decide +kernel
theorem dX10_quietAt_14 : decode cX10_quietAt 14 = .ok (.iaload, 1) := by decide +kernel
theorem dX10_quietAt_15 : decode cX10_quietAt 15 = .ok (.iload_n 2, 1) := by decide +kernel
theorem dX10_quietAt_16 : decode cX10_quietAt 16 = .ok (.iconst (-1), 1) := by decide +kernel
theorem dX10_quietAt_17 : decode cX10_quietAt 17 = .ok (.ixor, 1) := by decide +kernel
theorem dX10_quietAt_18 : decode cX10_quietAt 18 = .ok (.iand, 1) := by decide +kernel
theorem dX10_quietAt_19 : decode cX10_quietAt 19 = .ok (.iconst (-1), 1) := by decide +kernel
theorem dX10_quietAt_20 : decode cX10_quietAt 20 = .ok (.ixor, 1) := by decide +kernel
theorem dX10_quietAt_21 : decode cX10_quietAt 21 = .ok (.iand, 1) := by decide +kernel
theorem dX10_quietAt_22 : decode cX10_quietAt 22 = .ok (.ireturn, 1) := by decide +kernel
theorem dX10_onwards_0 : decode cX10_onwards 0 = .ok (.aload_n 0, 1) := by decide +kernel
theorem dX10_onwards_1 : decode cX10_onwards 1 = .ok (.getfield 31, 3) := by decide +kernel
theorem dX10_onwards_4 : decode cX10_onwards 4 = .ok (.iload_n 1, 1) := by decide +kernel
theorem dX10_onwards_5 : decode cX10_onwards 5 = .ok (.invokevirtual 73, 3) := by decide +kernel
theorem dX10_onwards_8 : decode cX10_onwards 8 = .ok (.aload_n 0, 1) := by decide +kernel
theorem dX10_onwards_9 : decode cX10_onwards 9 = .ok (.iload_n 2, 1) := by decide +kernel
theorem dX10_onwards_10 : decode cX10_onwards 10 = .ok (.iload_n 3, 1) := by decide +kernel
theorem dX10_onwards_11 : decode cX10_onwards 11 = .ok (.invokevirtual 76, 3) := by decide +kernel
theorem dX10_onwards_14 : decode cX10_onwards 14 = .ok (.iand, 1) := by decide +kernel
theorem dX10_onwards_15 : decode cX10_onwards 15 = .ok (.ireturn, 1) := by decide +kernel
theorem dX10_fewest_0 : decode cX10_fewest 0 = .ok (.iconst 1, 1) := by decide +kernel
theorem dX10_fewest_1 : decode cX10_fewest 1 = .ok (.iload_n 1, 1) := by decide +kernel
theorem dX10_fewest_2 : decode cX10_fewest 2 = .ok (.ishl, 1) := by decide +kernel
theorem dX10_fewest_3 : decode cX10_fewest 3 = .ok (.istore 6, 2) := by decide +kernel
theorem dX10_fewest_5 : decode cX10_fewest 5 = .ok (.iconst 0, 1) := by decide +kernel
theorem dX10_fewest_6 : decode cX10_fewest 6 = .ok (.istore 7, 2) := by decide +kernel
theorem dX10_fewest_8 : decode cX10_fewest 8 = .ok (.iload 7, 2) := by decide +kernel
theorem dX10_fewest_10 : decode cX10_fewest 10 = .ok (.iload 5, 2) := by decide +kernel
theorem dX10_fewest_12 : decode cX10_fewest 12 = .ok (.if_icmp .gt 42, 3) := by decide +kernel
theorem dX10_fewest_15 : decode cX10_fewest 15 = .ok (.iload 6, 2) := by decide +kernel
theorem dX10_fewest_17 : decode cX10_fewest 17 = .ok (.ifCond .eq 37, 3) := by decide +kernel
theorem dX10_fewest_20 : decode cX10_fewest 20 = .ok (.iload 6, 2) := by decide +kernel
theorem dX10_fewest_22 : decode cX10_fewest 22 = .ok (.iload_n 2, 1) := by decide +kernel
theorem dX10_fewest_23 : decode cX10_fewest 23 = .ok (.iushr, 1) := by decide +kernel
theorem dX10_fewest_24 : decode cX10_fewest 24 = .ok (.iconst 1, 1) := by decide +kernel
theorem dX10_fewest_25 : decode cX10_fewest 25 = .ok (.iand, 1) := by decide +kernel
theorem dX10_fewest_26 : decode cX10_fewest 26 = .ok (.ifCond .eq 6, 3) := by decide +kernel
theorem dX10_fewest_29 : decode cX10_fewest 29 = .ok (.iload 7, 2) := by decide +kernel
theorem dX10_fewest_31 : decode cX10_fewest 31 = .ok (.ireturn, 1) := by decide +kernel
theorem dX10_fewest_32 : decode cX10_fewest 32 = .ok (.aload_n 0, 1) := by decide +kernel
theorem dX10_fewest_33 : decode cX10_fewest 33 = .ok (.iload 6, 2) := by decide +kernel
theorem dX10_fewest_35 : decode cX10_fewest 35 = .ok (.iload_n 3, 1) := by decide +kernel
theorem dX10_fewest_36 : decode cX10_fewest 36 = .ok (.iload 7, 2) := by decide +kernel
theorem dX10_fewest_38 : decode cX10_fewest 38 = .ok (.iadd, 1) := by decide +kernel
theorem dX10_fewest_39 : decode cX10_fewest 39 = .ok (.iconst 1, 1) := by decide +kernel
theorem dX10_fewest_40 : decode cX10_fewest 40 = .ok (.iadd, 1) := by decide +kernel
theorem dX10_fewest_41 : decode cX10_fewest 41 = .ok (.iload 4, 2) := by decide +kernel
theorem dX10_fewest_43 : decode cX10_fewest 43 = .ok (.invokevirtual 79, 3) := by decide +kernel
theorem dX10_fewest_46 : decode cX10_fewest 46 = .ok (.istore 6, 2) := by decide +kernel
theorem dX10_fewest_48 : decode cX10_fewest 48 = .ok (.iinc 7 1, 3) := by decide +kernel
theorem dX10_fewest_51 : decode cX10_fewest 51 = .ok (.goto (-43), 3) := by decide +kernel
theorem dX10_fewest_54 : decode cX10_fewest 54 = .ok (.iconst (-1), 1) := by decide +kernel
theorem dX10_fewest_55 : decode cX10_fewest 55 = .ok (.ireturn, 1) := by decide +kernel
theorem dX10_cellOnWay_0 : decode cX10_cellOnWay 0 = .ok (.aload_n 0, 1) := by decide +kernel
theorem dX10_cellOnWay_1 : decode cX10_cellOnWay 1 = .ok (.iload_n 2, 1) := by decide +kernel
theorem dX10_cellOnWay_2 : decode cX10_cellOnWay 2 = .ok (.iload_n 3, 1) := by decide +kernel
theorem dX10_cellOnWay_3 : decode cX10_cellOnWay 3 = .ok (.invokevirtual 83, 3) := by decide +kernel
theorem dX10_cellOnWay_6 : decode cX10_cellOnWay 6 = .ok (.iload_n 1, 1) := by decide +kernel
theorem dX10_cellOnWay_7 : decode cX10_cellOnWay 7 = .ok (.istore 5, 2) := by decide +kernel
theorem dX10_cellOnWay_9 : decode cX10_cellOnWay 9 = .ok (.iconst 1, 1) := by decide +kernel
theorem dX10_cellOnWay_10 : decode cX10_cellOnWay 10 = .ok (.istore 6, 2) := by decide +kernel
theorem dX10_cellOnWay_12 : decode cX10_cellOnWay 12 = .ok (.iload 6, 2) := by decide +kernel
theorem dX10_cellOnWay_14 : decode cX10_cellOnWay 14 = .ok (.iload 4, 2) := by decide +kernel
theorem dX10_cellOnWay_16 : decode cX10_cellOnWay 16 = .ok (.if_icmp .gt 51, 3) := by decide +kernel
theorem dX10_cellOnWay_19 : decode cX10_cellOnWay 19 = .ok (.iload 6, 2) := by decide +kernel
theorem dX10_cellOnWay_21 : decode cX10_cellOnWay 21 = .ok (.iload_n 3, 1) := by decide +kernel
theorem dX10_cellOnWay_22 : decode cX10_cellOnWay 22 = .ok (.if_icmp .gt 45, 3) := by decide +kernel
theorem dX10_cellOnWay_25 : decode cX10_cellOnWay 25 = .ok (.iload 6, 2) := by decide +kernel
theorem dX10_cellOnWay_27 : decode cX10_cellOnWay 27 = .ok (.bipush 100, 2) := by decide +kernel
theorem dX10_cellOnWay_29 : decode cX10_cellOnWay 29 = .ok (.if_icmp .gt 38, 3) := by decide +kernel
theorem dX10_cellOnWay_32 : decode cX10_cellOnWay 32 = .ok (.aload_n 0, 1) := by decide +kernel
theorem dX10_cellOnWay_33 : decode cX10_cellOnWay 33 = .ok (.iconst 1, 1) := by decide +kernel
theorem dX10_cellOnWay_34 : decode cX10_cellOnWay 34 = .ok (.iload 5, 2) := by decide +kernel
theorem dX10_cellOnWay_36 : decode cX10_cellOnWay 36 = .ok (.ishl, 1) := by decide +kernel
theorem dX10_cellOnWay_37 : decode cX10_cellOnWay 37 = .ok (.aload_n 0, 1) := by decide +kernel
theorem dX10_cellOnWay_38 : decode cX10_cellOnWay 38 = .ok (.getfield 22, 3) := by decide +kernel
theorem dX10_cellOnWay_41 : decode cX10_cellOnWay 41 = .ok (.iload 6, 2) := by decide +kernel
theorem dX10_cellOnWay_43 : decode cX10_cellOnWay 43 = .ok (.iadd, 1) := by decide +kernel
theorem dX10_cellOnWay_44 : decode cX10_cellOnWay 44 = .ok (.iconst 0, 1) := by decide +kernel
theorem dX10_cellOnWay_45 : decode cX10_cellOnWay 45 = .ok (.invokevirtual 79, 3) := by decide +kernel
theorem dX10_cellOnWay_48 : decode cX10_cellOnWay 48 = .ok (.aload_n 0, 1) := by decide +kernel
theorem dX10_cellOnWay_49 : decode cX10_cellOnWay 49 = .ok (.getfield 15, 3) := by decide +kernel
theorem dX10_cellOnWay_52 : decode cX10_cellOnWay 52 = .ok (.iload 6, 2) := by decide +kernel
theorem dX10_cellOnWay_54 : decode cX10_cellOnWay 54 = .ok (.iaload, 1) := by decide +kernel
theorem dX10_cellOnWay_55 : decode cX10_cellOnWay 55 = .ok (.iand, 1) := by decide +kernel
theorem dX10_cellOnWay_56 : decode cX10_cellOnWay 56 = .ok (.invokestatic 57, 3) := by decide +kernel
theorem dX10_cellOnWay_59 : decode cX10_cellOnWay 59 = .ok (.istore 5, 2) := by decide +kernel
theorem dX10_cellOnWay_61 : decode cX10_cellOnWay 61 = .ok (.iinc 6 1, 3) := by decide +kernel
theorem dX10_cellOnWay_64 : decode cX10_cellOnWay 64 = .ok (.goto (-52), 3) := by decide +kernel
theorem dX10_cellOnWay_67 : decode cX10_cellOnWay 67 = .ok (.iload 5, 2) := by decide +kernel
theorem dX10_cellOnWay_69 : decode cX10_cellOnWay 69 = .ok (.ireturn, 1) := by decide +kernel
theorem dX10_lookBack_0 : decode cX10_lookBack 0 = .ok (.iconst 1, 1) := by decide +kernel
theorem dX10_lookBack_1 : decode cX10_lookBack 1 = .ok (.iload_n 1, 1) := by decide +kernel
theorem dX10_lookBack_2 : decode cX10_lookBack 2 = .ok (.ishl, 1) := by decide +kernel
theorem dX10_lookBack_3 : decode cX10_lookBack 3 = .ok (.istore_n 3, 1) := by decide +kernel
theorem dX10_lookBack_4 : decode cX10_lookBack 4 = .ok (.iload_n 2, 1) := by decide +kernel
theorem dX10_lookBack_5 : decode cX10_lookBack 5 = .ok (.bipush 100, 2) := by decide +kernel
theorem dX10_lookBack_7 : decode cX10_lookBack 7 = .ok (.invokestatic 87, 3) := by decide +kernel
theorem dX10_lookBack_10 : decode cX10_lookBack 10 = .ok (.istore 4, 2) := by decide +kernel
theorem dX10_lookBack_12 : decode cX10_lookBack 12 = .ok (.iload 4, 2) := by decide +kernel
theorem dX10_lookBack_14 : decode cX10_lookBack 14 = .ok (.ifCond .lt 39, 3) := by decide +kernel
theorem dX10_lookBack_17 : decode cX10_lookBack 17 = .ok (.aload_n 0, 1) := by decide +kernel
theorem dX10_lookBack_18 : decode cX10_lookBack 18 = .ok (.getfield 15, 3) := by decide +kernel
theorem dX10_lookBack_21 : decode cX10_lookBack 21 = .ok (.iload 4, 2) := by decide +kernel
theorem dX10_lookBack_23 : decode cX10_lookBack 23 = .ok (.iload_n 3, 1) := by decide +kernel
theorem dX10_lookBack_24 : decode cX10_lookBack 24 = .ok (.iastore, 1) := by decide +kernel
theorem dX10_lookBack_25 : decode cX10_lookBack 25 = .ok (.aload_n 0, 1) := by decide +kernel
theorem dX10_lookBack_26 : decode cX10_lookBack 26 = .ok (.getfield 31, 3) := by decide +kernel
theorem dX10_lookBack_29 : decode cX10_lookBack 29 = .ok (.iload_n 3, 1) := by decide +kernel
theorem dX10_lookBack_30 : decode cX10_lookBack 30 = .ok (.aload_n 0, 1) := by decide +kernel
theorem dX10_lookBack_31 : decode cX10_lookBack 31 = .ok (.aload_n 0, 1) := by decide +kernel
theorem dX10_lookBack_32 : decode cX10_lookBack 32 = .ok (.getfield 22, 3) := by decide +kernel
theorem dX10_lookBack_35 : decode cX10_lookBack 35 = .ok (.iload 4, 2) := by decide +kernel
theorem dX10_lookBack_37 : decode cX10_lookBack 37 = .ok (.iadd, 1) := by decide +kernel
theorem dX10_lookBack_38 : decode cX10_lookBack 38 = .ok (.iconst 0, 1) := by decide +kernel
theorem dX10_lookBack_39 : decode cX10_lookBack 39 = .ok (.invokevirtual 76, 3) := by decide +kernel
theorem dX10_lookBack_42 : decode cX10_lookBack 42 = .ok (.iand, 1) := by decide +kernel
theorem dX10_lookBack_43 : decode cX10_lookBack 43 = .ok (.invokevirtual 73, 3) := by decide +kernel
theorem dX10_lookBack_46 : decode cX10_lookBack 46 = .ok (.istore_n 3, 1) := by decide +kernel
theorem dX10_lookBack_47 : decode cX10_lookBack 47 = .ok (.iinc 4 (-1), 3) := by decide +kernel
theorem dX10_lookBack_50 : decode cX10_lookBack 50 = .ok (.goto (-38), 3) := by decide +kernel
theorem dX10_lookBack_53 : decode cX10_lookBack 53 = .ok (.return_, 1) := by decide +kernel
theorem dX10_bestWait_0 : decode cX10_bestWait 0 = .ok (.iconst (-1), 1) := by decide +kernel
theorem dX10_bestWait_1 : decode cX10_bestWait 1 = .ok (.istore_n 3, 1) := by decide +kernel
theorem dX10_bestWait_2 : decode cX10_bestWait 2 = .ok (.bipush 100, 2) := by decide +kernel
theorem dX10_bestWait_4 : decode cX10_bestWait 4 = .ok (.istore 4, 2) := by decide +kernel
theorem dX10_bestWait_6 : decode cX10_bestWait 6 = .ok (.iconst 0, 1) := by decide +kernel
theorem dX10_bestWait_7 : decode cX10_bestWait 7 = .ok (.istore 5, 2) := by decide +kernel
theorem dX10_bestWait_9 : decode cX10_bestWait 9 = .ok (.iload 5, 2) := by decide +kernel
theorem dX10_bestWait_11 : decode cX10_bestWait 11 = .ok (.bipush 60, 2) := by decide +kernel
theorem dX10_bestWait_13 : decode cX10_bestWait 13 = .ok (.if_icmp .ge 42, 3) := by decide +kernel
theorem dX10_bestWait_16 : decode cX10_bestWait 16 = .ok (.aload_n 0, 1) := by decide +kernel
theorem dX10_bestWait_17 : decode cX10_bestWait 17 = .ok (.iload_n 1, 1) := by decide +kernel
theorem dX10_bestWait_18 : decode cX10_bestWait 18 = .ok (.iload_n 2, 1) := by decide +kernel
theorem dX10_bestWait_19 : decode cX10_bestWait 19 = .ok (.aload_n 0, 1) := by decide +kernel
theorem dX10_bestWait_20 : decode cX10_bestWait 20 = .ok (.getfield 22, 3) := by decide +kernel
theorem dX10_bestWait_23 : decode cX10_bestWait 23 = .ok (.iload 5, 2) := by decide +kernel
theorem dX10_bestWait_25 : decode cX10_bestWait 25 = .ok (.iadd, 1) := by decide +kernel
theorem dX10_bestWait_26 : decode cX10_bestWait 26 = .ok (.iconst 0, 1) := by decide +kernel
theorem dX10_bestWait_27 : decode cX10_bestWait 27 = .ok (.iload 4, 2) := by decide +kernel
theorem dX10_bestWait_29 : decode cX10_bestWait 29 = .ok (.invokevirtual 90, 3) := by decide +kernel
theorem dX10_bestWait_32 : decode cX10_bestWait 32 = .ok (.istore 6, 2) := by decide +kernel
theorem dX10_bestWait_34 : decode cX10_bestWait 34 = .ok (.iload 6, 2) := by decide +kernel
theorem dX10_bestWait_36 : decode cX10_bestWait 36 = .ok (.iconst (-1), 1) := by decide +kernel
theorem dX10_bestWait_37 : decode cX10_bestWait 37 = .ok (.if_icmp .eq 12, 3) := by decide +kernel
theorem dX10_bestWait_40 : decode cX10_bestWait 40 = .ok (.iload 5, 2) := by decide +kernel
theorem dX10_bestWait_42 : decode cX10_bestWait 42 = .ok (.istore_n 3, 1) := by decide +kernel
theorem dX10_bestWait_43 : decode cX10_bestWait 43 = .ok (.iload 6, 2) := by decide +kernel
theorem dX10_bestWait_45 : decode cX10_bestWait 45 = .ok (.iconst 1, 1) := by decide +kernel
theorem dX10_bestWait_46 : decode cX10_bestWait 46 = .ok (.isub, 1) := by decide +kernel
theorem dX10_bestWait_47 : decode cX10_bestWait 47 = .ok (.istore 4, 2) := by decide +kernel
theorem dX10_bestWait_49 : decode cX10_bestWait 49 = .ok (.iinc 5 1, 3) := by decide +kernel
theorem dX10_bestWait_52 : decode cX10_bestWait 52 = .ok (.goto (-43), 3) := by decide +kernel
theorem dX10_bestWait_55 : decode cX10_bestWait 55 = .ok (.iload_n 3, 1) := by decide +kernel
theorem dX10_bestWait_56 : decode cX10_bestWait 56 = .ok (.ireturn, 1) := by decide +kernel
theorem dX10_fewestMown_0 : decode cX10_fewestMown 0 = .ok (.aload_n 0, 1) := by decide +kernel
theorem dX10_fewestMown_1 : decode cX10_fewestMown 1 = .ok (.iload_n 1, 1) := by decide +kernel
theorem dX10_fewestMown_2 : decode cX10_fewestMown 2 = .ok (.iload_n 2, 1) := by decide +kernel
theorem dX10_fewestMown_3 : decode cX10_fewestMown 3 = .ok (.aload_n 0, 1) := by decide +kernel
theorem dX10_fewestMown_4 : decode cX10_fewestMown 4 = .ok (.getfield 22, 3) := by decide +kernel
theorem dX10_fewestMown_7 : decode cX10_fewestMown 7 = .ok (.iload 4, 2) := by decide +kernel
theorem dX10_fewestMown_9 : decode cX10_fewestMown 9 = .ok (.iload_n 3, 1) := by decide +kernel
theorem dX10_fewestMown_10 : decode cX10_fewestMown 10 = .ok (.invokevirtual 90, 3) := by decide +kernel
theorem dX10_fewestMown_13 : decode cX10_fewestMown 13 = .ok (.iconst (-1), 1) := by decide +kernel
theorem dX10_fewestMown_14 : decode cX10_fewestMown 14 = .ok (.if_icmp .ne 5, 3) := by decide +kernel
theorem dX10_fewestMown_17 : decode cX10_fewestMown 17 = .ok (.iconst (-1), 1) := by decide +kernel
theorem dX10_fewestMown_18 : decode cX10_fewestMown 18 = .ok (.ireturn, 1) := by decide +kernel
theorem dX10_fewestMown_19 : decode cX10_fewestMown 19 = .ok (.iconst 0, 1) := by decide +kernel
theorem dX10_fewestMown_20 : decode cX10_fewestMown 20 = .ok (.istore 5, 2) := by decide +kernel
theorem dX10_fewestMown_22 : decode cX10_fewestMown 22 = .ok (.iload 5, 2) := by decide +kernel
theorem dX10_fewestMown_24 : decode cX10_fewestMown 24 = .ok (.iload 4, 2) := by decide +kernel
theorem dX10_fewestMown_26 : decode cX10_fewestMown 26 = .ok (.invokestatic 94, 3) := by decide +kernel
theorem dX10_fewestMown_29 : decode cX10_fewestMown 29 = .ok (.if_icmp .ge 31, 3) := by decide +kernel
theorem dX10_fewestMown_32 : decode cX10_fewestMown 32 = .ok (.aload_n 0, 1) := by decide +kernel
theorem dX10_fewestMown_33 : decode cX10_fewestMown 33 = .ok (.iload 5, 2) := by decide +kernel
theorem dX10_fewestMown_35 : decode cX10_fewestMown 35 = .ok (.iload_n 1, 1) := by decide +kernel
theorem dX10_fewestMown_36 : decode cX10_fewestMown 36 = .ok (.iload_n 2, 1) := by decide +kernel
theorem dX10_fewestMown_37 : decode cX10_fewestMown 37 = .ok (.iload_n 3, 1) := by decide +kernel
theorem dX10_fewestMown_38 : decode cX10_fewestMown 38 = .ok (.iload 4, 2) := by decide +kernel
theorem dX10_fewestMown_40 : decode cX10_fewestMown 40 = .ok (.invokevirtual 99, 3) := by decide +kernel
theorem dX10_fewestMown_43 : decode cX10_fewestMown 43 = .ok (.istore 6, 2) := by decide +kernel
theorem dX10_fewestMown_45 : decode cX10_fewestMown 45 = .ok (.iload 6, 2) := by decide +kernel
theorem dX10_fewestMown_47 : decode cX10_fewestMown 47 = .ok (.iconst (-1), 1) := by decide +kernel
theorem dX10_fewestMown_48 : decode cX10_fewestMown 48 = .ok (.if_icmp .eq 6, 3) := by decide +kernel
theorem dX10_fewestMown_51 : decode cX10_fewestMown 51 = .ok (.iload 6, 2) := by decide +kernel
theorem dX10_fewestMown_53 : decode cX10_fewestMown 53 = .ok (.ireturn, 1) := by decide +kernel
theorem dX10_fewestMown_54 : decode cX10_fewestMown 54 = .ok (.iinc 5 1, 3) := by decide +kernel
theorem dX10_fewestMown_57 : decode cX10_fewestMown 57 = .ok (.goto (-35), 3) := by decide +kernel
theorem dX10_fewestMown_60 : decode cX10_fewestMown 60 = .ok (.iload 4, 2) := by decide +kernel
theorem dX10_fewestMown_62 : decode cX10_fewestMown 62 = .ok (.ireturn, 1) := by decide +kernel
theorem dX10_mownBy_0 : decode cX10_mownBy 0 = .ok (.iconst 0, 1) := by decide +kernel
theorem dX10_mownBy_1 : decode cX10_mownBy 1 = .ok (.istore 6, 2) := by decide +kernel
theorem dX10_mownBy_3 : decode cX10_mownBy 3 = .ok (.iconst 0, 1) := by decide +kernel
theorem dX10_mownBy_4 : decode cX10_mownBy 4 = .ok (.istore 7, 2) := by decide +kernel
theorem dX10_mownBy_6 : decode cX10_mownBy 6 = .ok (.iload 7, 2) := by decide +kernel
theorem dX10_mownBy_8 : decode cX10_mownBy 8 = .ok (.sipush 256, 3) := by decide +kernel
theorem dX10_mownBy_11 : decode cX10_mownBy 11 = .ok (.if_icmp .ge 56, 3) := by decide +kernel
theorem dX10_mownBy_14 : decode cX10_mownBy 14 = .ok (.iload 6, 2) := by decide +kernel
theorem dX10_mownBy_16 : decode cX10_mownBy 16 = .ok (.iload 5, 2) := by decide +kernel
theorem dX10_mownBy_18 : decode cX10_mownBy 18 = .ok (.if_icmp .eq 49, 3) := by decide +kernel
theorem dX10_mownBy_21 : decode cX10_mownBy 21 = .ok (.iload 6, 2) := by decide +kernel
theorem dX10_mownBy_23 : decode cX10_mownBy 23 = .ok (.invokestatic 94, 3) := by decide +kernel
theorem dX10_mownBy_26 : decode cX10_mownBy 26 = .ok (.iload_n 1, 1) := by decide +kernel
theorem dX10_mownBy_27 : decode cX10_mownBy 27 = .ok (.if_icmp .ne 24, 3) := by decide +kernel
theorem dX10_mownBy_30 : decode cX10_mownBy 30 = .ok (.aload_n 0, 1) := by decide +kernel
theorem dX10_mownBy_31 : decode cX10_mownBy 31 = .ok (.iload_n 2, 1) := by decide +kernel
theorem dX10_mownBy_32 : decode cX10_mownBy 32 = .ok (.iload_n 3, 1) := by decide +kernel
theorem dX10_mownBy_33 : decode cX10_mownBy 33 = .ok (.aload_n 0, 1) := by decide +kernel
theorem dX10_mownBy_34 : decode cX10_mownBy 34 = .ok (.getfield 22, 3) := by decide +kernel
theorem dX10_mownBy_37 : decode cX10_mownBy 37 = .ok (.iload 6, 2) := by decide +kernel
theorem dX10_mownBy_39 : decode cX10_mownBy 39 = .ok (.iload 4, 2) := by decide +kernel
theorem dX10_mownBy_41 : decode cX10_mownBy 41 = .ok (.invokevirtual 90, 3) := by decide +kernel
theorem dX10_mownBy_44 : decode cX10_mownBy 44 = .ok (.iconst (-1), 1) := by decide +kernel
theorem dX10_mownBy_45 : decode cX10_mownBy 45 = .ok (.if_icmp .eq 6, 3) := by decide +kernel
theorem dX10_mownBy_48 : decode cX10_mownBy 48 = .ok (.iload 6, 2) := by decide +kernel
theorem dX10_mownBy_50 : decode cX10_mownBy 50 = .ok (.ireturn, 1) := by decide +kernel
theorem dX10_mownBy_51 : decode cX10_mownBy 51 = .ok (.iload 6, 2) := by decide +kernel
theorem dX10_mownBy_53 : decode cX10_mownBy 53 = .ok (.iload 5, 2) := by decide +kernel
theorem dX10_mownBy_55 : decode cX10_mownBy 55 = .ok (.isub, 1) := by decide +kernel
theorem dX10_mownBy_56 : decode cX10_mownBy 56 = .ok (.iload 5, 2) := by decide +kernel
theorem dX10_mownBy_58 : decode cX10_mownBy 58 = .ok (.iand, 1) := by decide +kernel
theorem dX10_mownBy_59 : decode cX10_mownBy 59 = .ok (.istore 6, 2) := by decide +kernel
theorem dX10_mownBy_61 : decode cX10_mownBy 61 = .ok (.iinc 7 1, 3) := by decide +kernel
theorem dX10_mownBy_64 : decode cX10_mownBy 64 = .ok (.goto (-58), 3) := by decide +kernel
theorem dX10_mownBy_67 : decode cX10_mownBy 67 = .ok (.iconst (-1), 1) := by decide +kernel
theorem dX10_mownBy_68 : decode cX10_mownBy 68 = .ok (.ireturn, 1) := by decide +kernel
theorem dX10_findMeeting_0 : decode cX10_findMeeting 0 = .ok (.iconst 1, 1) := by decide +kernel
theorem dX10_findMeeting_1 : decode cX10_findMeeting 1 = .ok (.iload_n 1, 1) := by decide +kernel
theorem dX10_findMeeting_2 : decode cX10_findMeeting 2 = .ok (.ishl, 1) := by decide +kernel
theorem dX10_findMeeting_3 : decode cX10_findMeeting 3 = .ok (.istore_n 3, 1) := by decide +kernel
theorem dX10_findMeeting_4 : decode cX10_findMeeting 4 = .ok (.iconst 1, 1) := by decide +kernel
theorem dX10_findMeeting_5 : decode cX10_findMeeting 5 = .ok (.iload_n 2, 1) := by decide +kernel
theorem dX10_findMeeting_6 : decode cX10_findMeeting 6 = .ok (.ishl, 1) := by decide +kernel
theorem dX10_findMeeting_7 : decode cX10_findMeeting 7 = .ok (.istore 4, 2) := by decide +kernel
theorem dX10_findMeeting_9 : decode cX10_findMeeting 9 = .ok (.iconst 0, 1) := by decide +kernel
theorem dX10_findMeeting_10 : decode cX10_findMeeting 10 = .ok (.istore 5, 2) := by decide +kernel
theorem dX10_findMeeting_12 : decode cX10_findMeeting 12 = .ok (.iload 5, 2) := by decide +kernel
theorem dX10_findMeeting_14 : decode cX10_findMeeting 14 = .ok (.bipush 100, 2) := by decide +kernel
theorem dX10_findMeeting_16 : decode cX10_findMeeting 16 = .ok (.if_icmp .gt 69, 3) := by decide +kernel
theorem dX10_findMeeting_19 : decode cX10_findMeeting 19 = .ok (.iload_n 3, 1) := by decide +kernel
theorem dX10_findMeeting_20 : decode cX10_findMeeting 20 = .ok (.iload 4, 2) := by decide +kernel
theorem dX10_findMeeting_22 : decode cX10_findMeeting 22 = .ok (.iand, 1) := by decide +kernel
theorem dX10_findMeeting_23 : decode cX10_findMeeting 23 = .ok (.ifCond .eq 22, 3) := by decide +kernel
theorem dX10_findMeeting_26 : decode cX10_findMeeting 26 = .ok (.aload_n 0, 1) := by decide +kernel
theorem dX10_findMeeting_27 : decode cX10_findMeeting 27 = .ok (.iload 5, 2) := by decide +kernel
theorem dX10_findMeeting_29 : decode cX10_findMeeting 29 = .ok (.putfield 25, 3) := by decide +kernel
theorem dX10_findMeeting_32 : decode cX10_findMeeting 32 = .ok (.aload_n 0, 1) := by decide +kernel
theorem dX10_findMeeting_33 : decode cX10_findMeeting 33 = .ok (.iload_n 3, 1) := by decide +kernel
theorem dX10_findMeeting_34 : decode cX10_findMeeting 34 = .ok (.iload 4, 2) := by decide +kernel
theorem dX10_findMeeting_36 : decode cX10_findMeeting 36 = .ok (.iand, 1) := by decide +kernel
theorem dX10_findMeeting_37 : decode cX10_findMeeting 37 = .ok (.invokestatic 57, 3) := by decide +kernel
theorem dX10_findMeeting_40 : decode cX10_findMeeting 40 = .ok (.putfield 28, 3) := by decide +kernel
theorem dX10_findMeeting_43 : decode cX10_findMeeting 43 = .ok (.iconst 1, 1) := by decide +kernel
theorem dX10_findMeeting_44 : decode cX10_findMeeting 44 = .ok (.ireturn, 1) := by decide +kernel
theorem dX10_findMeeting_45 : decode cX10_findMeeting 45 = .ok (.aload_n 0, 1) := by decide +kernel
theorem dX10_findMeeting_46 : decode cX10_findMeeting 46 = .ok (.iload_n 3, 1) := by decide +kernel
theorem dX10_findMeeting_47 : decode cX10_findMeeting 47 = .ok (.aload_n 0, 1) := by decide +kernel
theorem dX10_findMeeting_48 : decode cX10_findMeeting 48 = .ok (.getfield 22, 3) := by decide +kernel
theorem dX10_findMeeting_51 : decode cX10_findMeeting 51 = .ok (.iload 5, 2) := by decide +kernel
theorem dX10_findMeeting_53 : decode cX10_findMeeting 53 = .ok (.iadd, 1) := by decide +kernel
theorem dX10_findMeeting_54 : decode cX10_findMeeting 54 = .ok (.iconst 1, 1) := by decide +kernel
theorem dX10_findMeeting_55 : decode cX10_findMeeting 55 = .ok (.iadd, 1) := by decide +kernel
theorem dX10_findMeeting_56 : decode cX10_findMeeting 56 = .ok (.iconst 0, 1) := by decide +kernel
theorem dX10_findMeeting_57 : decode cX10_findMeeting 57 = .ok (.invokevirtual 79, 3) := by decide +kernel
theorem dX10_findMeeting_60 : decode cX10_findMeeting 60 = .ok (.istore_n 3, 1) := by decide +kernel
theorem dX10_findMeeting_61 : decode cX10_findMeeting 61 = .ok (.aload_n 0, 1) := by decide +kernel
theorem dX10_findMeeting_62 : decode cX10_findMeeting 62 = .ok (.iload 4, 2) := by decide +kernel
theorem dX10_findMeeting_64 : decode cX10_findMeeting 64 = .ok (.aload_n 0, 1) := by decide +kernel
theorem dX10_findMeeting_65 : decode cX10_findMeeting 65 = .ok (.getfield 22, 3) := by decide +kernel
theorem dX10_findMeeting_68 : decode cX10_findMeeting 68 = .ok (.iload 5, 2) := by decide +kernel
theorem dX10_findMeeting_70 : decode cX10_findMeeting 70 = .ok (.iadd, 1) := by decide +kernel
theorem dX10_findMeeting_71 : decode cX10_findMeeting 71 = .ok (.iconst 1, 1) := by decide +kernel
theorem dX10_findMeeting_72 : decode cX10_findMeeting 72 = .ok (.iadd, 1) := by decide +kernel
theorem dX10_findMeeting_73 : decode cX10_findMeeting 73 = .ok (.iconst 0, 1) := by decide +kernel
theorem dX10_findMeeting_74 : decode cX10_findMeeting 74 = .ok (.invokevirtual 79, 3) := by decide +kernel
theorem dX10_findMeeting_77 : decode cX10_findMeeting 77 = .ok (.istore 4, 2) := by decide +kernel
theorem dX10_findMeeting_79 : decode cX10_findMeeting 79 = .ok (.iinc 5 1, 3) := by decide +kernel
theorem dX10_findMeeting_82 : decode cX10_findMeeting 82 = .ok (.goto (-70), 3) := by decide +kernel
theorem dX10_findMeeting_85 : decode cX10_findMeeting 85 = .ok (.iconst 0, 1) := by decide +kernel
theorem dX10_findMeeting_86 : decode cX10_findMeeting 86 = .ok (.ireturn, 1) := by decide +kernel
end
