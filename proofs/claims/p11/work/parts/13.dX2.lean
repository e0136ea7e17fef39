theorem dX2_init_0 : decode cX2_init 0 = .ok (.aload_n 0, 1) := by decide +kernel
theorem dX2_init_1 : decode cX2_init 1 = .ok (.invokespecial 3, 3) := by decide +kernel
theorem dX2_init_4 : decode cX2_init 4 = .ok (.aload_n 0, 1) := by decide +kernel
theorem dX2_init_5 : decode cX2_init 5 = .ok (.bipush 20, 2) := by decide +kernel
theorem dX2_init_7 : decode cX2_init 7 = .ok (.newarray .byte, 2) := by decide +kernel
theorem dX2_init_9 : decode cX2_init 9 = .ok (.putfield 9, 3) := by decide +kernel
theorem dX2_init_12 : decode cX2_init 12 = .ok (.aload_n 0, 1) := by decide +kernel
theorem dX2_init_13 : decode cX2_init 13 = .ok (.bipush 20, 2) := by decide +kernel
theorem dX2_init_15 : decode cX2_init 15 = .ok (.newarray .boolean, 2) := by decide +kernel
theorem dX2_init_17 : decode cX2_init 17 = .ok (.putfield 15, 3) := by decide +kernel
theorem dX2_init_20 : decode cX2_init 20 = .ok (.aload_n 0, 1) := by decide +kernel
theorem dX2_init_21 : decode cX2_init 21 = .ok (.iconst 0, 1) := by decide +kernel
theorem dX2_init_22 : decode cX2_init 22 = .ok (.putfield 19, 3) := by decide +kernel
theorem dX2_init_25 : decode cX2_init 25 = .ok (.return_, 1) := by decide +kernel
theorem dX2_clear_0 : decode cX2_clear 0 = .ok (.aload_n 0, 1) := by decide +kernel
theorem dX2_clear_1 : decode cX2_clear 1 = .ok (.iconst 0, 1) := by decide +kernel
theorem dX2_clear_2 : decode cX2_clear 2 = .ok (.putfield 19, 3) := by decide +kernel
theorem dX2_clear_5 : decode cX2_clear 5 = .ok (.return_, 1) := by decide +kernel
theorem dX2_keep_0 : decode cX2_keep 0 = .ok (.aload_n 0, 1) := by decide +kernel
theorem dX2_keep_1 : decode cX2_keep 1 = .ok (.getfield 19, 3) := by decide +kernel
theorem dX2_keep_4 : decode cX2_keep 4 = .ok (.bipush 20, 2) := by decide +kernel
theorem dX2_keep_6 : decode cX2_keep 6 = .ok (.if_icmp .ge 13, 3) := by decide +kernel
theorem dX2_keep_9 : decode cX2_keep 9 = .ok (.iload_n 1, 1) := by decide +kernel
theorem dX2_keep_10 : decode cX2_keep 10 = .ok (.ifCond .lt 9, 3) := by decide +kernel
theorem dX2_keep_13 : decode cX2_keep 13 = .ok (.iload_n 1, 1) := by decide +kernel
theorem dX2_keep_14 : decode cX2_keep 14 = .ok (.bipush 60, 2) := by decide +kernel
theorem dX2_keep_16 : decode cX2_keep 16 = .ok (.if_icmp .lt 5, 3) := by decide +kernel
theorem dX2_keep_19 : decode cX2_keep 19 = .ok (.iconst (-1), 1) := by decide +kernel
theorem dX2_keep_20 : decode cX2_keep 20 = .ok (.ireturn, 1) := by decide +kernel
theorem dX2_keep_21 : decode cX2_keep 21 = .ok (.aload_n 0, 1) := by decide +kernel
theorem dX2_keep_22 : decode cX2_keep 22 = .ok (.getfield 9, 3) := by decide +kernel
theorem dX2_keep_25 : decode cX2_keep 25 = .ok (.aload_n 0, 1) := by decide +kernel
theorem dX2_keep_26 : decode cX2_keep 26 = .ok (.getfield 19, 3) := by decide +kernel
theorem dX2_keep_29 : decode cX2_keep 29 = .ok (.iload_n 1, 1) := by decide +kernel
theorem dX2_keep_30 : decode cX2_keep 30 = .ok (.i2b, 1) := by decide +kernel
theorem dX2_keep_31 : decode cX2_keep 31 = .ok (.bastore, 1) := by decide +kernel
theorem dX2_keep_32 : decode cX2_keep 32 = .ok (.aload_n 0, 1) := by decide +kernel
theorem dX2_keep_33 : decode cX2_keep 33 = .ok (.getfield 15, 3) := by decide +kernel
theorem dX2_keep_36 : decode cX2_keep 36 = .ok (.aload_n 0, 1) := by decide +kernel
theorem dX2_keep_37 : decode cX2_keep 37 = .ok (.getfield 19, 3) := by decide +kernel
theorem dX2_keep_40 : decode cX2_keep 40 = .ok (.iload_n 2, 1) := by decide +kernel
theorem dX2_keep_41 : decode cX2_keep 41 = .ok (.bastore, 1) := by decide +kernel
theorem dX2_keep_42 : decode cX2_keep 42 = .ok (.aload_n 0, 1) := by decide +kernel
theorem dX2_keep_43 : decode cX2_keep 43 = .ok (.dup, 1) := by decide +kernel
theorem dX2_keep_44 : decode cX2_keep 44 = .ok (.getfield 19, 3) := by decide +kernel
theorem dX2_keep_47 : decode cX2_keep 47 = .ok (.iconst 1, 1) := by decide +kernel
theorem dX2_keep_48 : decode cX2_keep 48 = .ok (.iadd, 1) := by decide +kernel
theorem dX2_keep_49 : decode cX2_keep 49 = .ok (.putfield 19, 3) := by decide +kernel
theorem dX2_keep_52 : decode cX2_keep 52 = .ok (.aload_n 0, 1) := by decide +kernel
theorem dX2_keep_53 : decode cX2_keep 53 = .ok (.getfield 19, 3) := by decide +kernel
theorem dX2_keep_56 : decode cX2_keep 56 = .ok (.iconst 1, 1) := by decide +kernel
theorem dX2_keep_57 : decode cX2_keep 57 = .ok (.isub, 1) := by decide +kernel
theorem dX2_keep_58 : decode cX2_keep 58 = .ok (.ireturn, 1) := by decide +kernel
theorem dX2_knows_0 : decode cX2_knows 0 = .ok (.iload_n 1, 1) := by decide +kernel
theorem dX2_knows_1 : decode cX2_knows 1 = .ok (.ifCond .lt 15, 3) := by decide +kernel
theorem dX2_knows_4 : decode cX2_knows 4 = .ok (.iload_n 1, 1) := by decide +kernel
theorem dX2_knows_5 : decode cX2_knows 5 = .ok (.aload_n 0, 1) := by decide +kernel
theorem dX2_knows_6 : decode cX2_knows 6 = .ok (.getfield 19, 3) := by decide +kernel
theorem dX2_knows_9 : decode cX2_knows 9 = .ok (.if_icmp .gt 7, 3) := by decide +kernel
theorem dX2_knows_12 : decode cX2_knows 12 = .ok (.iconst 1, 1) := by decide +kernel
theorem dX2_knows_13 : decode cX2_knows 13 = .ok (.goto 4, 3) := by decide +kernel
theorem dX2_knows_16 : decode cX2_knows 16 = .ok (.iconst 0, 1) := by decide +kernel
theorem dX2_knows_17 : decode cX2_knows 17 = .ok (.ireturn, 1) := by decide +kernel
theorem dX2_fitting_0 : decode cX2_fitting 0 = .ok (.ldc 23, 2) := by decide +kernel
theorem dX2_fitting_2 : decode cX2_fitting 2 = .ok (.istore_n 2, 1) := by decide +kernel
theorem dX2_fitting_3 : decode cX2_fitting 3 = .ok (.iconst 0, 1) := by decide +kernel
theorem dX2_fitting_4 : decode cX2_fitting 4 = .ok (.istore_n 3, 1) := by decide +kernel
theorem dX2_fitting_5 : decode cX2_fitting 5 = .ok (.iload_n 3, 1) := by decide +kernel
theorem dX2_fitting_6 : decode cX2_fitting 6 = .ok (.iload_n 1, 1) := by decide +kernel
theorem dX2_fitting_7 : decode cX2_fitting 7 = .ok (.if_icmp .ge 55, 3) := by decide +kernel
theorem dX2_fitting_10 : decode cX2_fitting 10 = .ok (.iload_n 3, 1) := by decide +kernel
theorem dX2_fitting_11 : decode cX2_fitting 11 = .ok (.aload_n 0, 1) := by decide +kernel
theorem dX2_fitting_12 : decode cX2_fitting 12 = .ok (.getfield 19, 3) := by decide +kernel
theorem dX2_fitting_15 : decode cX2_fitting 15 = .ok (.if_icmp .ge 47, 3) := by decide +kernel
theorem dX2_fitting_18 : decode cX2_fitting 18 = .ok (.iload_n 3, 1) := by decide +kernel
theorem dX2_fitting_19 : decode cX2_fitting 19 = .ok (.bipush 20, 2) := by decide +kernel
theorem dX2_fitting_21 : decode cX2_fitting 21 = .ok (.if_icmp .ge 41, 3) := by decide +kernel
theorem dX2_fitting_24 : decode cX2_fitting 24 = .ok (.aload_n 0, 1) := by decide +kernel
theorem dX2_fitting_25 : decode cX2_fitting 25 = .ok (.getfield 9, 3) := by decide +kernel
theorem dX2_fitting_28 : decode cX2_fitting 28 = .ok (.iload_n 3, 1) := by decide +kernel
theorem dX2_fitting_29 : decode cX2_fitting 29 = .ok (.baload, 1) := by decide +kernel
theorem dX2_fitting_30 : decode cX2_fitting 30 = .ok (.invokestatic 24, 3) := by decide +kernel
theorem dX2_fitting_33 : decode cX2_fitting 33 = .ok (.istore 4, 2) := by decide +kernel
theorem dX2_fitting_35 : decode cX2_fitting 35 = .ok (.iload_n 2, 1) := by decide +kernel
theorem dX2_fitting_36 : decode cX2_fitting 36 = .ok (.aload_n 0, 1) := by decide +kernel
theorem dX2_fitting_37 : decode cX2_fitting 37 = .ok (.getfield 15, 3) := by decide +kernel
theorem dX2_fitting_40 : decode cX2_fitting 40 = .ok (.iload_n 3, 1) := by decide +kernel
theorem dX2_fitting_41 : decode cX2_fitting 41 = .ok (.baload, 1) := by decide +kernel
theorem dX2_fitting_42 : decode cX2_fitting 42 = .ok (.ifCond .eq 8, 3) := by decide +kernel
theorem dX2_fitting_45 : decode cX2_fitting 45 = .ok (.iload 4, 2) := by decide +kernel
theorem dX2_fitting_47 : decode cX2_fitting 47 = .ok (.goto 7, 3) := by decide +kernel
theorem dX2_fitting_50 : decode cX2_fitting 50 = .ok (.iload 4, 2) := by decide +kernel
theorem dX2_fitting_52 : decode cX2_fitting 52 = .ok (.iconst (-1), 1) := by decide +kernel
theorem dX2_fitting_53 : decode cX2_fitting 53 = .ok (.ixor, 1) := by decide +kernel
theorem dX2_fitting_54 : decode cX2_fitting 54 = .ok (.iand, 1) := by decide +kernel
theorem dX2_fitting_55 : decode cX2_fitting 55 = .ok (.istore_n 2, 1) := by decide +kernel
theorem dX2_fitting_56 : decode cX2_fitting 56 = .ok (.iinc 3 1, 3) := by decide +kernel
theorem dX2_fitting_59 : decode cX2_fitting 59 = .ok (.goto (-54), 3) := by decide +kernel
theorem dX2_fitting_62 : decode cX2_fitting 62 = .ok (.iload_n 2, 1) := by decide +kernel
theorem dX2_fitting_63 : decode cX2_fitting 63 = .ok (.ireturn, 1) := by decide +kernel
theorem dX2_soundingAt_0 : decode cX2_soundingAt 0 = .ok (.iconst 0, 1) := by decide +kernel
theorem dX2_soundingAt_1 : decode cX2_soundingAt 1 = .ok (.istore_n 1, 1) := by decide +kernel
theorem dX2_soundingAt_2 : decode cX2_soundingAt 2 = .ok (.iconst 0, 1) := by decide +kernel
theorem dX2_soundingAt_3 : decode cX2_soundingAt 3 = .ok (.istore_n 2, 1) := by decide +kernel
theorem dX2_soundingAt_4 : decode cX2_soundingAt 4 = .ok (.iconst 2, 1) := by decide +kernel
theorem dX2_soundingAt_5 : decode cX2_soundingAt 5 = .ok (.istore_n 3, 1) := by decide +kernel
theorem dX2_soundingAt_6 : decode cX2_soundingAt 6 = .ok (.iload_n 3, 1) := by decide +kernel
theorem dX2_soundingAt_7 : decode cX2_soundingAt 7 = .ok (.bipush 6, 2) := by decide +kernel
theorem dX2_soundingAt_9 : decode cX2_soundingAt 9 = .ok (.if_icmp .gt 23, 3) := by decide +kernel
theorem dX2_soundingAt_12 : decode cX2_soundingAt 12 = .ok (.iload_n 1, 1) := by decide +kernel
theorem dX2_soundingAt_13 : decode cX2_soundingAt 13 = .ok (.iconst 1, 1) := by decide +kernel
theorem dX2_soundingAt_14 : decode cX2_soundingAt 14 = .ok (.iload_n 2, 1) := by decide +kernel
theorem dX2_soundingAt_15 : decode cX2_soundingAt 15 = .ok (.iload_n 0, 1) := by decide +kernel
theorem dX2_soundingAt_16 : decode cX2_soundingAt 16 = .ok (.iload_n 3, 1) := by decide +kernel
theorem dX2_soundingAt_17 : decode cX2_soundingAt 17 = .ok (.irem, 1) := by decide +kernel
theorem dX2_soundingAt_18 : decode cX2_soundingAt 18 = .ok (.iadd, 1) := by decide +kernel
theorem dX2_soundingAt_19 : decode cX2_soundingAt 19 = .ok (.ishl, 1) := by decide +kernel
theorem dX2_soundingAt_20 : decode cX2_soundingAt 20 = .ok (.ior, 1) := by decide +kernel
theorem dX2_soundingAt_21 : decode cX2_soundingAt 21 = .ok (.istore_n 1, 1) := by decide +kernel
theorem dX2_soundingAt_22 : decode cX2_soundingAt 22 = .ok (.iload_n 2, 1) := by decide +kernel
theorem dX2_soundingAt_23 : decode cX2_soundingAt 23 = .ok (.iload_n 3, 1) := by decide +kernel
theorem dX2_soundingAt_24 : decode cX2_soundingAt 24 = .ok (.iadd, 1) := by decide +kernel
theorem dX2_soundingAt_25 : decode cX2_soundingAt 25 = .ok (.istore_n 2, 1) := by decide +kernel
theorem dX2_soundingAt_26 : decode cX2_soundingAt 26 = .ok (.iinc 3 1, 3) := by decide +kernel
theorem dX2_soundingAt_29 : decode cX2_soundingAt 29 = .ok (.goto (-23), 3) := by decide +kernel
theorem dX2_soundingAt_32 : decode cX2_soundingAt 32 = .ok (.iload_n 1, 1) := by decide +kernel
theorem dX2_soundingAt_33 : decode cX2_soundingAt 33 = .ok (.ireturn, 1) := by decide +kernel
theorem dX2_firstTune_0 : decode cX2_firstTune 0 = .ok (.iconst 0, 1) := by decide +kernel
theorem dX2_firstTune_1 : decode cX2_firstTune 1 = .ok (.istore_n 1, 1) := by decide +kernel
theorem dX2_firstTune_2 : decode cX2_firstTune 2 = .ok (.iload_n 0, 1) := by decide +kernel
theorem dX2_firstTune_3 : decode cX2_firstTune 3 = .ok (.invokestatic 28, 3) := by decide +kernel
theorem dX2_firstTune_6 : decode cX2_firstTune 6 = .ok (.istore_n 2, 1) := by decide +kernel
theorem dX2_firstTune_7 : decode cX2_firstTune 7 = .ok (.iconst 2, 1) := by decide +kernel
theorem dX2_firstTune_8 : decode cX2_firstTune 8 = .ok (.istore_n 3, 1) := by decide +kernel
theorem dX2_firstTune_9 : decode cX2_firstTune 9 = .ok (.iload_n 3, 1) := by decide +kernel
theorem dX2_firstTune_10 : decode cX2_firstTune 10 = .ok (.bipush 6, 2) := by decide +kernel
theorem dX2_firstTune_12 : decode cX2_firstTune 12 = .ok (.if_icmp .gt 29, 3) := by decide +kernel
theorem dX2_firstTune_15 : decode cX2_firstTune 15 = .ok (.iload_n 2, 1) := by decide +kernel
theorem dX2_firstTune_16 : decode cX2_firstTune 16 = .ok (.iload_n 1, 1) := by decide +kernel
theorem dX2_firstTune_17 : decode cX2_firstTune 17 = .ok (.iload_n 3, 1) := by decide +kernel
theorem dX2_firstTune_18 : decode cX2_firstTune 18 = .ok (.iadd, 1) := by decide +kernel
theorem dX2_firstTune_19 : decode cX2_firstTune 19 = .ok (.if_icmp .ge 12, 3) := by decide +kernel
theorem dX2_firstTune_22 : decode cX2_firstTune 22 = .ok (.bipush 10, 2) := by decide +kernel
theorem dX2_firstTune_24 : decode cX2_firstTune 24 = .ok (.iload_n 3, 1) := by decide +kernel
theorem dX2_firstTune_25 : decode cX2_firstTune 25 = .ok (.imul, 1) := by decide +kernel
theorem dX2_firstTune_26 : decode cX2_firstTune 26 = .ok (.iload_n 2, 1) := by decide +kernel
theorem dX2_firstTune_27 : decode cX2_firstTune 27 = .ok (.iadd, 1) := by decide +kernel
theorem dX2_firstTune_28 : decode cX2_firstTune 28 = .ok (.iload_n 1, 1) := by decide +kernel
theorem dX2_firstTune_29 : decode cX2_firstTune 29 = .ok (.isub, 1) := by decide +kernel
theorem dX2_firstTune_30 : decode cX2_firstTune 30 = .ok (.ireturn, 1) := by decide +kernel
theorem dX2_firstTune_31 : decode cX2_firstTune 31 = .ok (.iload_n 1, 1) := by decide +kernel
theorem dX2_firstTune_32 : decode cX2_firstTune 32 = .ok (.iload_n 3, 1) := by decide +kernel
theorem dX2_firstTune_33 : decode cX2_firstTune 33 = .ok (.iadd, 1) := by decide +kernel
theorem dX2_firstTune_34 : decode cX2_firstTune 34 = .ok (.istore_n 1, 1) := by decide +kernel
theorem dX2_firstTune_35 : decode cX2_firstTune 35 = .ok (.iinc 3 1, 3) := by decide +kernel
theorem dX2_firstTune_38 : decode cX2_firstTune 38 = .ok (.goto (-29), 3) := by decide +kernel
theorem dX2_firstTune_41 : decode cX2_firstTune 41 = .ok (.bipush (-2), 2) := by decide +kernel
theorem dX2_firstTune_43 : decode cX2_firstTune 43 = .ok (.ireturn, 1) := by decide +kernel
theorem dX2_bestTime_0 : decode cX2_bestTime 0 = .ok (.bipush (-2), 2) := by decide +kernel
theorem dX2_bestTime_2 : decode cX2_bestTime 2 = .ok (.istore_n 1, 1) := by decide +kernel
theorem dX2_bestTime_3 : decode cX2_bestTime 3 = .ok (.iload_n 0, 1) := by decide +kernel
theorem dX2_bestTime_4 : decode cX2_bestTime 4 = .ok (.invokestatic 31, 3) := by decide +kernel
theorem dX2_bestTime_7 : decode cX2_bestTime 7 = .ok (.iconst 1, 1) := by decide +kernel
theorem dX2_bestTime_8 : decode cX2_bestTime 8 = .ok (.iadd, 1) := by decide +kernel
theorem dX2_bestTime_9 : decode cX2_bestTime 9 = .ok (.istore_n 2, 1) := by decide +kernel
theorem dX2_bestTime_10 : decode cX2_bestTime 10 = .ok (.iconst 0, 1) := by decide +kernel
theorem dX2_bestTime_11 : decode cX2_bestTime 11 = .ok (.istore_n 3, 1) := by decide +kernel
theorem dX2_bestTime_12 : decode cX2_bestTime 12 = .ok (.iload_n 3, 1) := by decide +kernel
theorem dX2_bestTime_13 : decode cX2_bestTime 13 = .ok (.bipush 60, 2) := by decide +kernel
theorem dX2_bestTime_15 : decode cX2_bestTime 15 = .ok (.if_icmp .ge 51, 3) := by decide +kernel
theorem dX2_bestTime_18 : decode cX2_bestTime 18 = .ok (.iload_n 0, 1) := by decide +kernel
theorem dX2_bestTime_19 : decode cX2_bestTime 19 = .ok (.ifCond .eq 47, 3) := by decide +kernel
theorem dX2_bestTime_22 : decode cX2_bestTime 22 = .ok (.iload_n 3, 1) := by decide +kernel
theorem dX2_bestTime_23 : decode cX2_bestTime 23 = .ok (.invokestatic 24, 3) := by decide +kernel
theorem dX2_bestTime_26 : decode cX2_bestTime 26 = .ok (.istore 4, 2) := by decide +kernel
theorem dX2_bestTime_28 : decode cX2_bestTime 28 = .ok (.iload_n 0, 1) := by decide +kernel
theorem dX2_bestTime_29 : decode cX2_bestTime 29 = .ok (.iload 4, 2) := by decide +kernel
theorem dX2_bestTime_31 : decode cX2_bestTime 31 = .ok (.iand, 1) := by decide +kernel
theorem dX2_bestTime_32 : decode cX2_bestTime 32 = .ok (.invokestatic 31, 3) := by decide +kernel
theorem dX2_bestTime_35 : decode cX2_bestTime 35 = .ok (.iload_n 0, 1) := by decide +kernel
theorem dX2_bestTime_36 : decode cX2_bestTime 36 = .ok (.iload 4, 2) := by decide +kernel
theorem dX2_bestTime_38 : decode cX2_bestTime 38 = .ok (.iconst (-1), 1) := by decide +kernel
theorem dX2_bestTime_39 : decode cX2_bestTime 39 = .ok (.ixor, 1) := by decide +kernel
theorem dX2_bestTime_40 : decode cX2_bestTime 40 = .ok (.iand, 1) := by decide +kernel
theorem dX2_bestTime_41 : decode cX2_bestTime 41 = .ok (.invokestatic 31, 3) := by decide +kernel
theorem dX2_bestTime_44 : decode cX2_bestTime 44 = .ok (.invokestatic 36, 3) := by decide +kernel
theorem dX2_bestTime_47 : decode cX2_bestTime 47 = .ok (.istore 5, 2) := by decide +kernel
theorem dX2_bestTime_49 : decode cX2_bestTime 49 = .ok (.iload 5, 2) := by decide +kernel
theorem dX2_bestTime_51 : decode cX2_bestTime 51 = .ok (.iload_n 2, 1) := by decide +kernel
theorem dX2_bestTime_52 : decode cX2_bestTime 52 = .ok (.if_icmp .ge 8, 3) := by decide +kernel
theorem dX2_bestTime_55 : decode cX2_bestTime 55 = .ok (.iload 5, 2) := by decide +kernel
theorem dX2_bestTime_57 : decode cX2_bestTime 57 = .ok (.istore_n 2, 1) := by decide +kernel
theorem dX2_bestTime_58 : decode cX2_bestTime 58 = .ok (.iload_n 3, 1) := by decide +kernel
theorem dX2_bestTime_59 : decode cX2_bestTime 59 = .ok (.istore_n 1, 1) := by decide +kernel
theorem dX2_bestTime_60 : decode cX2_bestTime 60 = .ok (.iinc 3 1, 3) := by decide +kernel
theorem dX2_bestTime_63 : decode cX2_bestTime 63 = .ok (.goto (-51), 3) := by decide +kernel
theorem dX2_bestTime_66 : decode cX2_bestTime 66 = .ok (.iload_n 1, 1) := by decide +kernel
theorem dX2_bestTime_67 : decode cX2_bestTime 67 = .ok (.ireturn, 1) := by decide +kernel
