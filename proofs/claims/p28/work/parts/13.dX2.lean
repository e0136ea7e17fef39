section
theorem dX2_init_0 : decode cX2_init 0 = .ok (.aload_n 0, 1) := by decide +kernel
theorem dX2_init_1 : decode cX2_init 1 = .ok (.invokespecial 3, 3) := by decide +kernel
theorem dX2_init_4 : decode cX2_init 4 = .ok (.aload_n 0, 1) := by decide +kernel
theorem dX2_init_5 : decode cX2_init 5 = .ok (.bipush 20, 2) := by decide +kernel
theorem dX2_init_7 : decode cX2_init 7 = .ok (.newarray .byte, 2) := by decide +kernel
theorem dX2_init_9 : decode cX2_init 9 = .ok (.putfield 9, 3) := by decide +kernel
theorem dX2_init_12 : decode cX2_init 12 = .ok (.aload_n 0, 1) := by decide +kernel
theorem dX2_init_13 : decode cX2_init 13 = .ok (.bipush 20, 2) := by decide +kernel
theorem dX2_init_15 : decode cX2_init 15 = .ok (.newarray .boolean, 2) := by decide +kernel
theorem dX2_init_17 : decode cX2_init 17 = .ok (.putfield 15, 3) := by decide +kernel
theorem dX2_init_20 : decode cX2_init 20 = .ok (.aload_n 0, 1) := by decide +kernel
theorem dX2_init_21 : decode cX2_init 21 = .ok (.iconst 0, 1) := by decide +kernel
theorem dX2_init_22 : decode cX2_init 22 = .ok (.putfield 19, 3) := by decide +kernel
theorem dX2_init_25 : decode cX2_init 25 = .ok (.return_, 1) := by decide +kernel
theorem dX2_clear_0 : decode cX2_clear 0 = .ok (.aload_n 0, 1) := by decide +kernel
theorem dX2_clear_1 : decode cX2_clear 1 = .ok (.iconst 0, 1) := by decide +kernel
theorem dX2_clear_2 : decode cX2_clear 2 = .ok (.putfield 19, 3) := by decide +kernel
theorem dX2_clear_5 : decode cX2_clear 5 = .ok (.return_, 1) := by decide +kernel
theorem dX2_keep_0 : decode cX2_keep 0 = .ok (.aload_n 0, 1) := by decide +kernel
theorem dX2_keep_1 : decode cX2_keep 1 = .ok (.getfield 19, 3) := by decide +kernel
theorem dX2_keep_4 : decode cX2_keep 4 = .ok (.bipush 20, 2) := by decide +kernel
theorem dX2_keep_6 : decode cX2_keep 6 = .ok (.if_icmp .ge 13, 3) := by decide +kernel
theorem dX2_keep_9 : decode cX2_keep 9 = .ok (.iload_n 1, 1) := by decide +kernel
theorem dX2_keep_10 : decode cX2_keep 10 = .ok (.ifCond .lt 9, 3) := by decide +kernel
theorem dX2_keep_13 : decode cX2_keep 13 = .ok (.iload_n 1, 1) := by decide +kernel
theorem dX2_keep_14 : decode cX2_keep 14 = .ok (.bipush 60, 2) := by decide +kernel
theorem dX2_keep_16 : decode cX2_keep 16 = .ok (.if_icmp .lt 5, 3) := by decide +kernel
theorem dX2_keep_19 : decode cX2_keep 19 = .ok (.iconst (-1), 1) := by decide +kernel
theorem dX2_keep_20 : decode cX2_keep 20 = .ok (.ireturn, 1) := by decide +kernel
theorem dX2_keep_21 : decode cX2_keep 21 = .ok (.aload_n 0, 1) := by decide +kernel
theorem dX2_keep_22 : decode cX2_keep 22 = .ok (.getfield 9, 3) := by decide +kernel
theorem dX2_keep_25 : decode cX2_keep 25 = .ok (.aload_n 0, 1) := by decide +kernel
theorem dX2_keep_26 : decode cX2_keep 26 = .ok (.getfield 19, 3) := by decide +kernel
theorem dX2_keep_29 : decode cX2_keep 29 = .ok (.iload_n 1, 1) := by decide +kernel
theorem dX2_keep_30 : decode cX2_keep 30 = .ok (.i2b, 1) := by decide +kernel
theorem dX2_keep_31 : decode cX2_keep 31 = .ok (.bastore, 1) := by decide +kernel
theorem dX2_keep_32 : decode cX2_keep 32 = .ok (.aload_n 0, 1) := by decide +kernel
theorem dX2_keep_33 : decode cX2_keep 33 = .ok (.getfield 15, 3) := by decide +kernel
theorem dX2_keep_36 : decode cX2_keep 36 = .ok (.aload_n 0, 1) := by decide +kernel
theorem dX2_keep_37 : decode cX2_keep 37 = .ok (.getfield 19, 3) := by decide +kernel
theorem dX2_keep_40 : decode cX2_keep 40 = .ok (.iload_n 2, 1) := by decide +kernel
theorem dX2_keep_41 : decode cX2_keep 41 = .ok (.bastore, 1) := by decide +kernel
theorem dX2_keep_42 : decode cX2_keep 42 = .ok (.aload_n 0, 1) := by decide +kernel
theorem dX2_keep_43 : decode cX2_keep 43 = .ok (.dup, 1) := by decide +kernel
theorem dX2_keep_44 : decode cX2_keep 44 = .ok (.getfield 19, 3) := by decide +kernel
theorem dX2_keep_47 : decode cX2_keep 47 = .ok (.iconst 1, 1) := by decide +kernel
theorem dX2_keep_48 : decode cX2_keep 48 = .ok (.iadd, 1) := by decide +kernel
theorem dX2_keep_49 : decode cX2_keep 49 = .ok (.putfield 19, 3) := by decide +kernel
theorem dX2_keep_52 : decode cX2_keep 52 = .ok (.aload_n 0, 1) := by decide +kernel
theorem dX2_keep_53 : decode cX2_keep 53 = .ok (.getfield 19, 3) := by decide +kernel
theorem dX2_keep_56 : decode cX2_keep 56 = .ok (.iconst 1, 1) := by decide +kernel
theorem dX2_keep_57 : decode cX2_keep 57 = .ok (.isub, 1) := by decide +kernel
theorem dX2_keep_58 : decode cX2_keep 58 = .ok (.ireturn, 1) := by decide +kernel
theorem dX2_knows_0 : decode cX2_knows 0 = .ok (.iload_n 1, 1) := by decide +kernel
theorem dX2_knows_1 : decode cX2_knows 1 = .ok (.ifCond .lt 15, 3) := by decide +kernel
theorem dX2_knows_4 : decode cX2_knows 4 = .ok (.iload_n 1, 1) := by decide +kernel
theorem dX2_knows_5 : decode cX2_knows 5 = .ok (.aload_n 0, 1) := by decide +kernel
theorem dX2_knows_6 : decode cX2_knows 6 = .ok (.getfield 19, 3) := by decide +kernel
theorem dX2_knows_9 : decode cX2_knows 9 = .ok (.if_icmp .gt 7, 3) := by decide +kernel
theorem dX2_knows_12 : decode cX2_knows 12 = .ok (.iconst 1, 1) := by decide +kernel
theorem dX2_knows_13 : decode cX2_knows 13 = .ok (.goto 4, 3) := by decide +kernel
theorem dX2_knows_16 : decode cX2_knows 16 = .ok (.iconst 0, 1) := by decide +kernel
theorem dX2_knows_17 : decode cX2_knows 17 = .ok (.ireturn, 1) := by decide +kernel
theorem dX2_fitting_0 : decode cX2_fitting 0 = .ok (.ldc 23, 2) := by decide +kernel
theorem dX2_fitting_2 : decode cX2_fitting 2 = .ok (.istore_n 2, 1) := by decide +kernel
theorem dX2_fitting_3 : decode cX2_fitting 3 = .ok (.iconst 0, 1) := by decide +kernel
theorem dX2_fitting_4 : decode cX2_fitting 4 = .ok (.istore_n 3, 1) := by decide +kernel
theorem dX2_fitting_5 : decode cX2_fitting 5 = .ok (.iload_n 3, 1) := by decide +kernel
theorem dX2_fitting_6 : decode cX2_fitting 6 = .ok (.iload_n 1, 1) := by decide +kernel
theorem dX2_fitting_7 : decode cX2_fitting 7 = .ok (.if_icmp .ge 55, 3) := by decide +kernel
theorem dX2_fitting_10 : decode cX2_fitting 10 = .ok (.iload_n 3, 1) := by decide +kernel
theorem dX2_fitting_11 : decode cX2_fitting 11 = .ok (.aload_n 0, 1) := by decide +kernel
theorem dX2_fitting_12 : decode cX2_fitting 12 = .ok (.getfield 19, 3) := by decide +kernel
theorem dX2_fitting_15 : decode cX2_fitting 15 = .ok (.if_icmp .ge 47, 3) := by decide +kernel
theorem dX2_fitting_18 : decode cX2_fitting 18 = .ok (.iload_n 3, 1) := by decide +kernel
theorem dX2_fitting_19 : decode cX2_fitting 19 = .ok (.bipush 20, 2) := by decide +kernel
theorem dX2_fitting_21 : decode cX2_fitting 21 = .ok (.if_icmp .ge 41, 3) := by decide +kernel
theorem dX2_fitting_24 : decode cX2_fitting 24 = .ok (.aload_n 0, 1) := by decide +kernel
theorem dX2_fitting_25 : decode cX2_fitting 25 = .ok (.getfield 9, 3) := by decide +kernel
theorem dX2_fitting_28 : decode cX2_fitting 28 = .ok (.iload_n 3, 1) := by decide +kernel
theorem dX2_fitting_29 : decode cX2_fitting 29 = .ok (.baload, 1) := by decide +kernel
theorem dX2_fitting_30 : decode cX2_fitting 30 = .ok (.invokestatic 24, 3) := by decide +kernel
theorem dX2_fitting_33 : decode cX2_fitting 33 = .ok (.istore 4, 2) := by decide +kernel
theorem dX2_fitting_35 : decode cX2_fitting 35 = .ok (.iload_n 2, 1) := by decide +kernel
theorem dX2_fitting_36 : decode cX2_fitting 36 = .ok (.aload_n 0, 1) := by decide +kernel
theorem dX2_fitting_37 : decode cX2_fitting 37 = .ok (.getfield 15, 3) := by decide +kernel
theorem dX2_fitting_40 : decode cX2_fitting 40 = .ok (.iload_n 3, 1) := by decide +kernel
theorem dX2_fitting_41 : decode cX2_fitting 41 = .ok (.baload, 1) := by decide +kernel
theorem dX2_fitting_42 : decode cX2_fitting 42 = .ok (.ifCond .eq 8, 3) := by decide +kernel
theorem dX2_fitting_45 : decode cX2_fitting 45 = .ok (.iload 4, 2) := by decide +kernel
theorem dX2_fitting_47 : decode cX2_fitting 47 = .ok (.goto 7, 3) := by decide +kernel
theorem dX2_fitting_50 : decode cX2_fitting 50 = .ok (.iload 4, 2) := by decide +kernel
theorem dX2_fitting_52 : decode cX2_fitting 52 = .ok (.iconst (-1), 1) := by decide +kernel
theorem dX2_fitting_53 : decode cX2_fitting 53 = .ok (.ixor, 1) := by decide +kernel
theorem dX2_fitting_54 : decode cX2_fitting 54 = .ok (.iand, 1) := by decide +kernel
theorem dX2_fitting_55 : decode cX2_fitting 55 = .ok (.istore_n 2, 1) := by decide +kernel
theorem dX2_fitting_56 : decode cX2_fitting 56 = .ok (.iinc 3 1, 3) := by decide +kernel
theorem dX2_fitting_59 : decode cX2_fitting 59 = .ok (.goto (-54), 3) := by decide +kernel
theorem dX2_fitting_62 : decode cX2_fitting 62 = .ok (.iload_n 2, 1) := by decide +kernel
theorem dX2_fitting_63 : decode cX2_fitting 63 = .ok (.ireturn, 1) := by decide +kernel
theorem dX2_soundingAt_0 : decode cX2_soundingAt 0 = .ok (.iconst 0, 1) := by decide +kernel
theorem dX2_soundingAt_1 : decode cX2_soundingAt 1 = .ok (.istore_n 1, 1) := by decide +kernel
theorem dX2_soundingAt_2 : decode cX2_soundingAt 2 = .ok (.iconst 0, 1) := by decide +kernel
theorem dX2_soundingAt_3 : decode cX2_soundingAt 3 = .ok (.istore_n 2, 1) := by decide +kernel
theorem dX2_soundingAt_4 : decode cX2_soundingAt 4 = .ok (.iconst 2, 1) := by decide +kernel
theorem dX2_soundingAt_5 : decode cX2_soundingAt 5 = .ok (.istore_n 3, 1) := by decide +kernel
theorem dX2_soundingAt_6 : decode cX2_soundingAt 6 = .ok (.iload_n 3, 1) := by decide +kernel
theorem dX2_soundingAt_7 : decode cX2_soundingAt 7 = .ok (.bipush 6, 2) := by decide +kernel
theorem dX2_soundingAt_9 : decode cX2_soundingAt 9 = .ok (.if_icmp .gt 23, 3) := by decide +kernel
theorem dX2_soundingAt_12 : decode cX2_soundingAt 12 = .ok (.iload_n 1, 1) := by decide +kernel
theorem dX2_soundingAt_13 : decode cX2_soundingAt 13 = .ok (.iconst 1, 1) := by decide +kernel
theorem dX2_soundingAt_14 : decode cX2_soundingAt 14 = .ok (.iload_n 2, 1) := by decide +kernel
theorem dX2_soundingAt_15 : decode cX2_soundingAt 15 = .ok (.iload_n 0, 1) := by decide +kernel
theorem dX2_soundingAt_16 : decode cX2_soundingAt 16 = .ok (.iload_n 3, 1) := by decide +kernel
theorem dX2_soundingAt_17 : decode cX2_soundingAt 17 = .ok (.irem, 1) := by decide +kernel
theorem dX2_soundingAt_18 : decode cX2_soundingAt 18 = .ok (.iadd, 1) := by decide +kernel
theorem dX2_soundingAt_19 : decode cX2_soundingAt 19 = .ok (.ishl, 1) := by decide +kernel
theorem dX2_soundingAt_20 : decode cX2_soundingAt 20 = .ok (.ior, 1) := by decide +kernel
theorem dX2_soundingAt_21 : decode cX2_soundingAt 21 = .ok (.istore_n 1, 1) := by decide +kernel
theorem dX2_soundingAt_22 : decode cX2_soundingAt 22 = .ok (.iload_n 2, 1) := by decide +kernel
theorem dX2_soundingAt_23 : decode cX2_soundingAt 23 = .ok (.iload_n 3, 1) := by decide +kernel
theorem dX2_soundingAt_24 : decode cX2_soundingAt 24 = .ok (.iadd, 1) := by decide +kernel
theorem dX2_soundingAt_25 : decode cX2_soundingAt 25 = .ok (.istore_n 2, 1) := by decide +kernel
theorem dX2_soundingAt_26 : decode cX2_soundingAt 26 = .ok (.iinc 3 1, 3) := by decide +kernel
theorem dX2_soundingAt_29 : decode cX2_soundingAt 29 = .ok (.goto (-23), 3) := by decide +kernel
theorem dX2_soundingAt_32 : decode cX2_soundingAt 32 = .ok (.iload_n 1, 1) := by decide +kernel
theorem dX2_soundingAt_33 : decode cX2_soundingAt 33 = .ok (.ireturn, 1) := by decide +kernel
theorem dX2_firstTune_0 : decode cX2_firstTune 0 = .ok (.iconst 0, 1) := by decide +kernel
theorem dX2_firstTune_1 : decode cX2_firstTune 1 = .ok (.istore_n 1, 1) := by decide +kernel
theorem dX2_firstTune_2 : decode cX2_firstTune 2 = .ok (.iload_n 0, 1) := by decide +kernel
theorem dX2_firstTune_3 : decode cX2_firstTune 3 = .ok (.invokestatic 28, 3) := by decide +kernel
theorem dX2_firstTune_6 : decode cX2_firstTune 6 = .ok (.istore_n 2, 1) := by decide +kernel
theorem dX2_firstTune_7 : decode cX2_firstTune 7 = .ok (.iconst 2, 1) := by decide +kernel
theorem dX2_firstTune_8 : decode cX2_firstTune 8 = .ok (.istore_n 3, 1) := by decide +kernel
theorem dX2_firstTune_9 : decode cX2_firstTune 9 = .ok (.iload_n 3, 1) := by decide +kernel
theorem dX2_firstTune_10 : decode cX2_firstTune 10 = .ok (.bipush 6, 2) := by decide +kernel
theorem dX2_firstTune_12 : decode cX2_firstTune 12 = .ok (.if_icmp .gt 29, 3) := by decide +kernel
theorem dX2_firstTune_15 : decode cX2_firstTune 15 = .ok (.iload_n 2, 1) := by decide +kernel
theorem dX2_firstTune_16 : decode cX2_firstTune 16 = .ok (.iload_n 1, 1) := by decide +kernel
theorem dX2_firstTune_17 : decode cX2_firstTune 17 = .ok (.iload_n 3, 1) := by decide +kernel
theorem dX2_firstTune_18 : decode cX2_firstTune 18 = .ok (.iadd, 1) := by decide +kernel
theorem dX2_firstTune_19 : decode cX2_firstTune 19 = .ok (.if_icmp .ge 12, 3) := by decide +kernel
theorem dX2_firstTune_22 : decode cX2_firstTune 22 = .ok (.bipush 10, 2) := by decide +kernel
theorem dX2_firstTune_24 : decode cX2_firstTune 24 = .ok (.iload_n 3, 1) := by decide +kernel
theorem dX2_firstTune_25 : decode cX2_firstTune 25 = .ok (.imul, 1) := by decide +kernel
theorem dX2_firstTune_26 : decode cX2_firstTune 26 = .ok (.iload_n 2, 1) := by decide +kernel
theorem dX2_firstTune_27 : decode cX2_firstTune 27 = .ok (.iadd, 1) := by decide +kernel
theorem dX2_firstTune_28 : decode cX2_firstTune 28 = .ok (.iload_n 1, 1) := by decide +kernel
theorem dX2_firstTune_29 : decode cX2_firstTune 29 = .ok (.isub, 1) := by decide +kernel
theorem dX2_firstTune_30 : decode cX2_firstTune 30 = .ok (.ireturn, 1) := by decide +kernel
theorem dX2_firstTune_31 : decode cX2_firstTune 31 = .ok (.iload_n 1, 1) := by decide +kernel
theorem dX2_firstTune_32 : decode cX2_firstTune 32 = .ok (.iload_n 3, 1) := by decide +kernel
theorem dX2_firstTune_33 : decode cX2_firstTune 33 = .ok (.iadd, 1) := by decide +kernel
theorem dX2_firstTune_34 : decode cX2_firstTune 34 = .ok (.istore_n 1, 1) := by decide +kernel
theorem dX2_firstTune_35 : decode cX2_firstTune 35 = .ok (.iinc 3 1, 3) := by decide +kernel
theorem dX2_firstTune_38 : decode cX2_firstTune 38 = .ok (.goto (-29), 3) := by decide +kernel
theorem dX2_firstTune_41 : decode cX2_firstTune 41 = .ok (.bipush (-2), 2) := by decide +kernel
theorem dX2_firstTune_43 : decode cX2_firstTune 43 = .ok (.ireturn, 1) := by decide +kernel
theorem dX2_bestTime_0 : decode cX2_bestTime 0 = .ok (.bipush (-2), 2) := by decide +kernel
theorem dX2_bestTime_2 : decode cX2_bestTime 2 = .ok (.istore_n 1, 1) := by decide +kernel
theorem dX2_bestTime_3 : decode cX2_bestTime 3 = .ok (.iload_n 0, 1) := by decide +kernel
theorem dX2_bestTime_4 : decode cX2_bestTime 4 = .ok (.invokestatic 31, 3) := by decide +kernel
theorem dX2_bestTime_7 : decode cX2_bestTime 7 = .ok (.iconst 1, 1) := by decide +kernel
theorem dX2_bestTime_8 : decode cX2_bestTime 8 = .ok (.iadd, 1) := by decide +kernel
theorem dX2_bestTime_9 : decode cX2_bestTime 9 = .ok (.istore_n 2, 1) := by decide +kernel
theorem dX2_bestTime_10 : decode cX2_bestTime 10 = .ok (.iconst 0, 1) := by decide +kernel
theorem dX2_bestTime_11 : decode cX2_bestTime 11 = .ok (.istore_n 3, 1) := by decide +kernel
theorem dX2_bestTime_12 : decode cX2_bestTime 12 = .ok (.iload_n 3, 1) := by decide +kernel
theorem dX2_bestTime_13 : decode cX2_bestTime 13 = .ok (.bipush 60, 2) := by decide +kernel
theorem dX2_bestTime_15 : decode cX2_bestTime 15 = .ok (.if_icmp .ge 51, 3) := by decide +kernel
theorem dX2_bestTime_18 : decode cX2_bestTime 18 = .ok (.iload_n 0, 1) := by decide +kernel
theorem dX2_bestTime_19 : decode cX2_bestTime 19 = .ok (.ifCond .eq 47, 3) := by decide +kernel
theorem dX2_bestTime_22 : decode cX2_bestTime 22 = .ok (.iload_n 3, 1) := by decide +kernel
theorem dX2_bestTime_23 : decode cX2_bestTime 23 = .ok (.invokestatic 24, 3) := by decide +kernel
theorem dX2_bestTime_26 : decode cX2_bestTime 26 = .ok (.istore 4, 2) := by decide +kernel
theorem dX2_bestTime_28 : decode cX2_bestTime 28 = .ok (.iload_n 0, 1) := by decide +kernel
theorem dX2_bestTime_29 : decode cX2_bestTime 29 = .ok (.iload 4, 2) := by decide +kernel
theorem dX2_bestTime_31 : decode cX2_bestTime 31 = .ok (.iand, 1) := by decide +kernel
theorem dX2_bestTime_32 : decode cX2_bestTime 32 = .ok (.invokestatic 31, 3) := by decide +kernel
theorem dX2_bestTime_35 : decode cX2_bestTime 35 = .ok (.iload_n 0, 1) := by decide +kernel
theorem dX2_bestTime_36 : decode cX2_bestTime 36 = .ok (.iload 4, 2) := by decide +kernel
theorem dX2_bestTime_38 : decode cX2_bestTime 38 = .ok (.iconst (-1), 1) := by decide +kernel
theorem dX2_bestTime_39 : decode cX2_bestTime 39 = .ok (.ixor, 1) := by decide +kernel
theorem dX2_bestTime_40 : decode cX2_bestTime 40 = .ok (.iand, 1) := by decide +kernel
theorem dX2_bestTime_41 : decode cX2_bestTime 41 = .ok (.invokestatic 31, 3) := by decide +kernel
theorem dX2_bestTime_44 : decode cX2_bestTime 44 = .ok (.invokestatic 36, 3) := by decide +kernel
theorem dX2_bestTime_47 : decode cX2_bestTime 47 = .ok (.istore 5, 2) := by decide +kernel
theorem dX2_bestTime_49 : decode cX2_bestTime 49 = .ok (.iload 5, 2) := by decide +kernel
theorem dX2_bestTime_51 : decode cX2_bestTime 51 = .ok (.iload_n 2, 1) := by decide +kernel
theorem dX2_bestTime_52 : decode cX2_bestTime 52 = .ok (.if_icmp .ge 8, 3) := by decide +kernel
theorem dX2_bestTime_55 : decode cX2_bestTime 55 = .ok (.iload 5, 2) := by decide +kernel
theorem dX2_bestTime_57 : decode cX2_bestTime 57 = .ok (.istore_n 2, 1) := by decide +kernel
theorem dX2_bestTime_58 : decode cX2_bestTime 58 = .ok (.iload_n 3, 1) := by decide +kernel
theorem dX2_bestTime_59 : decode cX2_bestTime 59 = .ok (.istore_n 1, 1) := by decide +kernel
theorem dX2_bestTime_60 : decode cX2_bestTime 60 = .ok (.iinc 3 1, 3) := by decide +kernel
theorem dX2_bestTime_63 : decode cX2_bestTime 63 = .ok (.goto (-51), 3) := by decide +kernel
theorem dX2_bestTime_66 : decode cX2_bestTime 66 = .ok (.iload_n 1, 1) := by decide +kernel
theorem dX2_bestTime_67 : decode cX2_bestTime 67 = .ok (.ireturn, 1) := by decide +kernel
end
section
theorem dX3_init_0 : decode cX3_init 0 = .ok (.aload_n 0, 1) := by decide +kernel
theorem dX3_init_1 : decode cX3_init 1 = .ok (.invokespecial 3, 3) := by decide +kernel
theorem dX3_init_4 : decode cX3_init 4 = .ok (.aload_n 0, 1) := by decide +kernel
theorem dX3_init_5 : decode cX3_init 5 = .ok (.iconst 0, 1) := by decide +kernel
theorem dX3_init_6 : decode cX3_init 6 = .ok (.putfield 9, 3) := by decide +kernel
theorem dX3_init_9 : decode cX3_init 9 = .ok (.aload_n 0, 1) := by decide +kernel
theorem dX3_init_10 : decode cX3_init 10 = .ok (.iconst 0, 1) := by decide +kernel
theorem dX3_init_11 : decode cX3_init 11 = .ok (.putfield 15, 3) := by decide +kernel
theorem dX3_init_14 : decode cX3_init 14 = .ok (.aload_n 0, 1) := by decide +kernel
theorem dX3_init_15 : decode cX3_init 15 = .ok (.iconst 0, 1) := by decide +kernel
theorem dX3_init_16 : decode cX3_init 16 = .ok (.putfield 18, 3) := by decide +kernel
theorem dX3_init_19 : decode cX3_init 19 = .ok (.aload_n 0, 1) := by decide +kernel
theorem dX3_init_20 : decode cX3_init 20 = .ok (.iconst 0, 1) := by decide +kernel
theorem dX3_init_21 : decode cX3_init 21 = .ok (.putfield 21, 3) := by decide +kernel
theorem dX3_init_24 : decode cX3_init 24 = .ok (.return_, 1) := by decide +kernel
theorem dX3_lay_0 : decode cX3_lay 0 = .ok (.aload_n 0, 1) := by decide +kernel
theorem dX3_lay_1 : decode cX3_lay 1 = .ok (.iload_n 1, 1) := by decide +kernel
theorem dX3_lay_2 : decode cX3_lay 2 = .ok (.putfield 9, 3) := by decide +kernel
theorem dX3_lay_5 : decode cX3_lay 5 = .ok (.aload_n 0, 1) := by decide +kernel
theorem dX3_lay_6 : decode cX3_lay 6 = .ok (.iload_n 2, 1) := by decide +kernel
theorem dX3_lay_7 : decode cX3_lay 7 = .ok (.putfield 15, 3) := by decide +kernel
theorem dX3_lay_10 : decode cX3_lay 10 = .ok (.aload_n 0, 1) := by decide +kernel
theorem dX3_lay_11 : decode cX3_lay 11 = .ok (.iconst 0, 1) := by decide +kernel
theorem dX3_lay_12 : decode cX3_lay 12 = .ok (.putfield 21, 3) := by decide +kernel
theorem dX3_lay_15 : decode cX3_lay 15 = .ok (.iconst 0, 1) := by decide +kernel
theorem dX3_lay_16 : decode cX3_lay 16 = .ok (.istore_n 3, 1) := by decide +kernel
theorem dX3_lay_17 : decode cX3_lay 17 = .ok (.iload_n 3, 1) := by decide +kernel
theorem dX3_lay_18 : decode cX3_lay 18 = .ok (.aload_n 0, 1) := by decide +kernel
theorem dX3_lay_19 : decode cX3_lay 19 = .ok (.getfield 15, 3) := by decide +kernel
theorem dX3_lay_22 : decode cX3_lay 22 = .ok (.if_icmp .ge 26, 3) := by decide +kernel
theorem dX3_lay_25 : decode cX3_lay 25 = .ok (.aload_n 0, 1) := by decide +kernel
theorem dX3_lay_26 : decode cX3_lay 26 = .ok (.dup, 1) := by decide +kernel
theorem dX3_lay_27 : decode cX3_lay 27 = .ok (.getfield 21, 3) := by decide +kernel
theorem dX3_lay_30 : decode cX3_lay 30 = .ok (.iconst 1, 1) := by decide +kernel
theorem dX3_lay_31 : decode cX3_lay 31 = .ok (.aload_n 0, 1) := by decide +kernel
theorem dX3_lay_32 : decode cX3_lay 32 = .ok (.getfield 9, 3) := by decide +kernel
theorem dX3_lay_35 : decode cX3_lay 35 = .ok (.iload_n 3, 1) := by decide +kernel
theorem dX3_lay_36 : decode cX3_lay 36 = .ok (.imul, 1) := by decide +kernel
theorem dX3_lay_37 : decode cX3_lay 37 = .ok (.ishl, 1) := by decide +kernel
theorem dX3_lay_38 : decode cX3_lay 38 = .ok (.ior, 1) := by decide +kernel
theorem dX3_lay_39 : decode cX3_lay 39 = .ok (.putfield 21, 3) := by decide +kernel
theorem dX3_lay_42 : decode cX3_lay 42 = .ok (.iinc 3 1, 3) := by decide +kernel
theorem dX3_lay_45 : decode cX3_lay 45 = .ok (.goto (-28), 3) := by decide +kernel
theorem dX3_lay_48 : decode cX3_lay 48 = .ok (.aload_n 0, 1) := by decide +kernel
theorem dX3_lay_49 : decode cX3_lay 49 = .ok (.iconst 1, 1) := by decide +kernel
theorem dX3_lay_50 : decode cX3_lay 50 = .ok (.aload_n 0, 1) := by decide +kernel
theorem dX3_lay_51 : decode cX3_lay 51 = .ok (.getfield 9, 3) := by decide +kernel
theorem dX3_lay_54 : decode cX3_lay 54 = .ok (.aload_n 0, 1) := by decide +kernel
theorem dX3_lay_55 : decode cX3_lay 55 = .ok (.getfield 15, 3) := by decide +kernel
theorem dX3_lay_58 : decode cX3_lay 58 = .ok (.imul, 1) := by decide +kernel
theorem dX3_lay_59 : decode cX3_lay 59 = .ok (.ishl, 1) := by decide +kernel
theorem dX3_lay_60 : decode cX3_lay 60 = .ok (.iconst 1, 1) := by decide +kernel
theorem dX3_lay_61 : decode cX3_lay 61 = .ok (.isub, 1) := by decide +kernel
theorem dX3_lay_62 : decode cX3_lay 62 = .ok (.putfield 18, 3) := by decide +kernel
theorem dX3_lay_65 : decode cX3_lay 65 = .ok (.return_, 1) := by decide +kernel
theorem dX3_has_0 : decode cX3_has 0 = .ok (.iload_n 1, 1) := by decide +kernel
theorem dX3_has_1 : decode cX3_has 1 = .ok (.ifCond .lt 20, 3) := by decide +kernel
theorem dX3_has_4 : decode cX3_has 4 = .ok (.iload_n 1, 1) := by decide +kernel
theorem dX3_has_5 : decode cX3_has 5 = .ok (.aload_n 0, 1) := by decide +kernel
theorem dX3_has_6 : decode cX3_has 6 = .ok (.getfield 9, 3) := by decide +kernel
theorem dX3_has_9 : decode cX3_has 9 = .ok (.aload_n 0, 1) := by decide +kernel
theorem dX3_has_10 : decode cX3_has 10 = .ok (.getfield 15, 3) := by decide +kernel
theorem dX3_has_13 : decode cX3_has 13 = .ok (.imul, 1) := by decide +kernel
theorem dX3_has_14 : decode cX3_has 14 = .ok (.if_icmp .ge 7, 3) := by decide +kernel
theorem dX3_has_17 : decode cX3_has 17 = .ok (.iconst 1, 1) := by decide +kernel
theorem dX3_has_18 : decode cX3_has 18 = .ok (.goto 4, 3) := by decide +kernel
theorem dX3_has_21 : decode cX3_has 21 = .ok (.iconst 0, 1) := by decide +kernel
theorem dX3_has_22 : decode cX3_has 22 = .ok (.ireturn, 1) := by decide +kernel
theorem dX3_leftOf_0 : decode cX3_leftOf 0 = .ok (.aload_n 0, 1) := by decide +kernel
theorem dX3_leftOf_1 : decode cX3_leftOf 1 = .ok (.getfield 9, 3) := by decide +kernel
theorem dX3_leftOf_4 : decode cX3_leftOf 4 = .ok (.ifCond .le 12, 3) := by decide +kernel
theorem dX3_leftOf_7 : decode cX3_leftOf 7 = .ok (.iload_n 1, 1) := by decide +kernel
theorem dX3_leftOf_8 : decode cX3_leftOf 8 = .ok (.aload_n 0, 1) := by decide +kernel
theorem dX3_leftOf_9 : decode cX3_leftOf 9 = .ok (.getfield 9, 3) := by decide +kernel
theorem dX3_leftOf_12 : decode cX3_leftOf 12 = .ok (.irem, 1) := by decide +kernel
theorem dX3_leftOf_13 : decode cX3_leftOf 13 = .ok (.goto 4, 3) := by decide +kernel
theorem dX3_leftOf_16 : decode cX3_leftOf 16 = .ok (.iconst 0, 1) := by decide +kernel
theorem dX3_leftOf_17 : decode cX3_leftOf 17 = .ok (.ireturn, 1) := by decide +kernel
theorem dX3_topOf_0 : decode cX3_topOf 0 = .ok (.aload_n 0, 1) := by decide +kernel
theorem dX3_topOf_1 : decode cX3_topOf 1 = .ok (.getfield 9, 3) := by decide +kernel
theorem dX3_topOf_4 : decode cX3_topOf 4 = .ok (.ifCond .le 12, 3) := by decide +kernel
theorem dX3_topOf_7 : decode cX3_topOf 7 = .ok (.iload_n 1, 1) := by decide +kernel
theorem dX3_topOf_8 : decode cX3_topOf 8 = .ok (.aload_n 0, 1) := by decide +kernel
theorem dX3_topOf_9 : decode cX3_topOf 9 = .ok (.getfield 9, 3) := by decide +kernel
theorem dX3_topOf_12 : decode cX3_topOf 12 = .ok (.idiv, 1) := by decide +kernel
theorem dX3_topOf_13 : decode cX3_topOf 13 = .ok (.goto 4, 3) := by decide +kernel
theorem dX3_topOf_16 : decode cX3_topOf 16 = .ok (.iconst 0, 1) := by decide +kernel
theorem dX3_topOf_17 : decode cX3_topOf 17 = .ok (.ireturn, 1) := by decide +kernel
theorem dX3_grown_0 : decode cX3_grown 0 = .ok (.iload_n 1, 1) := by decide +kernel
theorem dX3_grown_1 : decode cX3_grown 1 = .ok (.iconst 1, 1) := by decide +kernel
theorem dX3_grown_2 : decode cX3_grown 2 = .ok (.ishl, 1) := by decide +kernel
theorem dX3_grown_3 : decode cX3_grown 3 = .ok (.aload_n 0, 1) := by decide +kernel
theorem dX3_grown_4 : decode cX3_grown 4 = .ok (.getfield 21, 3) := by decide +kernel
theorem dX3_grown_7 : decode cX3_grown 7 = .ok (.iconst (-1), 1) := by decide +kernel
theorem dX3_grown_8 : decode cX3_grown 8 = .ok (.ixor, 1) := by decide +kernel
theorem dX3_grown_9 : decode cX3_grown 9 = .ok (.iand, 1) := by decide +kernel
theorem dX3_grown_10 : decode cX3_grown 10 = .ok (.istore_n 2, 1) := by decide +kernel
theorem dX3_grown_11 : decode cX3_grown 11 = .ok (.iload_n 1, 1) := by decide +kernel
theorem dX3_grown_12 : decode cX3_grown 12 = .ok (.aload_n 0, 1) := by decide +kernel
theorem dX3_grown_13 : decode cX3_grown 13 = .ok (.getfield 21, 3) := by decide +kernel
theorem dX3_grown_16 : decode cX3_grown 16 = .ok (.iconst (-1), 1) := by decide +kernel
theorem dX3_grown_17 : decode cX3_grown 17 = .ok (.ixor, 1) := by decide +kernel
theorem dX3_grown_18 : decode cX3_grown 18 = .ok (.iand, 1) := by decide +kernel
theorem dX3_grown_19 : decode cX3_grown 19 = .ok (.iconst 1, 1) := by decide +kernel
theorem dX3_grown_20 : decode cX3_grown 20 = .ok (.iushr, 1) := by decide +kernel
theorem dX3_grown_21 : decode cX3_grown 21 = .ok (.istore_n 3, 1) := by decide +kernel
theorem dX3_grown_22 : decode cX3_grown 22 = .ok (.iload_n 1, 1) := by decide +kernel
theorem dX3_grown_23 : decode cX3_grown 23 = .ok (.iload_n 2, 1) := by decide +kernel
theorem dX3_grown_24 : decode cX3_grown 24 = .ok (.ior, 1) := by decide +kernel
theorem dX3_grown_25 : decode cX3_grown 25 = .ok (.iload_n 3, 1) := by decide +kernel
theorem dX3_grown_26 : decode cX3_grown 26 = .ok (.ior, 1) := by decide +kernel
theorem dX3_grown_27 : decode cX3_grown 27 = .ok (.iload_n 1, 1) := by decide +kernel
theorem dX3_grown_28 : decode cX3_grown 28 = .ok (.aload_n 0, 1) := by decide +kernel
theorem dX3_grown_29 : decode cX3_grown 29 = .ok (.getfield 9, 3) := by decide +kernel
theorem dX3_grown_32 : decode cX3_grown 32 = .ok (.ishl, 1) := by decide +kernel
theorem dX3_grown_33 : decode cX3_grown 33 = .ok (.ior, 1) := by decide +kernel
theorem dX3_grown_34 : decode cX3_grown 34 = .ok (.iload_n 1, 1) := by decide +kernel
theorem dX3_grown_35 : decode cX3_grown 35 = .ok (.aload_n 0, 1) := by decide +kernel
theorem dX3_grown_36 : decode cX3_grown 36 = .ok (.getfield 9, 3) := by decide +kernel
theorem dX3_grown_39 : decode cX3_grown 39 = .ok (.iushr, 1) := by decide +kernel
theorem dX3_grown_40 : decode cX3_grown 40 = .ok (.ior, 1) := by decide +kernel
theorem dX3_grown_41 : decode cX3_grown 41 = .ok (.aload_n 0, 1) := by decide +kernel
theorem dX3_grown_42 : decode cX3_grown 42 = .ok (.getfield 18, 3) := by decide +kernel
theorem dX3_grown_45 : decode cX3_grown 45 = .ok (.iand, 1) := by decide +kernel
theorem dX3_grown_46 : decode cX3_grown 46 = .ok (.ireturn, 1) := by decide +kernel
theorem dX3_quietOnTheRight_0 : decode cX3_quietOnTheRight 0 = .ok (.aload_n 0, 1) := by decide +kernel
theorem dX3_quietOnTheRight_1 : decode cX3_quietOnTheRight 1 = .ok (.getfield 18, 3) := by decide +kernel
theorem dX3_quietOnTheRight_4 : decode cX3_quietOnTheRight 4 = .ok (.aload_n 0, 1) := by decide +kernel
theorem dX3_quietOnTheRight_5 : decode cX3_quietOnTheRight 5 = .ok (.getfield 21, 3) := by decide +kernel
theorem dX3_quietOnTheRight_8 : decode cX3_quietOnTheRight 8 = .ok (.iconst (-1), 1) := by decide +kernel
theorem dX3_quietOnTheRight_9 : decode cX3_quietOnTheRight 9 = .ok (.ixor, 1) := by decide +kernel
theorem dX3_quietOnTheRight_10 : decode cX3_quietOnTheRight 10 = .ok (.iand, 1) := by decide +kernel
theorem dX3_quietOnTheRight_11 : decode cX3_quietOnTheRight 11 = .ok (.iload_n 1, 1) := by decide +kernel
theorem dX3_quietOnTheRight_12 : decode cX3_quietOnTheRight 12 = .ok (.iconst (-1), 1) := by decide +kernel
theorem dX3_quietOnTheRight_13 : decode cX3_quietOnTheRight 13 = .ok (.ixor, 1) := by decide +kernel
theorem dX3_quietOnTheRight_14 : decode cX3_quietOnTheRight 14 = .ok (.iand, 1) := by decide +kernel
theorem dX3_quietOnTheRight_15 : decode cX3_quietOnTheRight 15 = .ok (.istore_n 2, 1) := by decide +kernel
theorem dX3_quietOnTheRight_16 : decode cX3_quietOnTheRight 16 = .ok (.iload_n 1, 1) := by decide +kernel
theorem dX3_quietOnTheRight_17 : decode cX3_quietOnTheRight 17 = .ok (.iload_n 2, 1) := by decide +kernel
theorem dX3_quietOnTheRight_18 : decode cX3_quietOnTheRight 18 = .ok (.iconst 1, 1) := by decide +kernel
theorem dX3_quietOnTheRight_19 : decode cX3_quietOnTheRight 19 = .ok (.iushr, 1) := by decide +kernel
theorem dX3_quietOnTheRight_20 : decode cX3_quietOnTheRight 20 = .ok (.iand, 1) := by decide +kernel
theorem dX3_quietOnTheRight_21 : decode cX3_quietOnTheRight 21 = .ok (.ireturn, 1) := by decide +kernel
theorem dX3_beside_0 : decode cX3_beside 0 = .ok (.aload_n 0, 1) := by decide +kernel
theorem dX3_beside_1 : decode cX3_beside 1 = .ok (.iload_n 1, 1) := by decide +kernel
theorem dX3_beside_2 : decode cX3_beside 2 = .ok (.invokevirtual 24, 3) := by decide +kernel
theorem dX3_beside_5 : decode cX3_beside 5 = .ok (.istore_n 3, 1) := by decide +kernel
theorem dX3_beside_6 : decode cX3_beside 6 = .ok (.aload_n 0, 1) := by decide +kernel
theorem dX3_beside_7 : decode cX3_beside 7 = .ok (.iload_n 1, 1) := by decide +kernel
theorem dX3_beside_8 : decode cX3_beside 8 = .ok (.invokevirtual 28, 3) := by decide +kernel
theorem dX3_beside_11 : decode cX3_beside 11 = .ok (.istore 4, 2) := by decide +kernel
theorem dX3_beside_13 : decode cX3_beside 13 = .ok (.iload_n 2, 1) := by decide +kernel
theorem dX3_beside_14 : decode cX3_beside 14 = .ok (.tableswitch 98 1 4 #[30, 48, 70, 82], 30) := by decide +kernel
theorem dX3_beside_44 : decode cX3_beside 44 = .ok (.iload_n 3, 1) := by decide +kernel
theorem dX3_beside_45 : decode cX3_beside 45 = .ok (.iconst 1, 1) := by decide +kernel
theorem dX3_beside_46 : decode cX3_beside 46 = .ok (.iadd, 1) := by decide +kernel
theorem dX3_beside_47 : decode cX3_beside 47 = .ok (.aload_n 0, 1) := by decide +kernel
theorem dX3_beside_48 : decode cX3_beside 48 = .ok (.getfield 9, 3) := by decide +kernel
theorem dX3_beside_51 : decode cX3_beside 51 = .ok (.if_icmp .ge 9, 3) := by decide +kernel
theorem dX3_beside_54 : decode cX3_beside 54 = .ok (.iload_n 1, 1) := by decide +kernel
theorem dX3_beside_55 : decode cX3_beside 55 = .ok (.iconst 1, 1) := by decide +kernel
theorem dX3_beside_56 : decode cX3_beside 56 = .ok (.iadd, 1) := by decide +kernel
theorem dX3_beside_57 : decode cX3_beside 57 = .ok (.goto 4, 3) := by decide +kernel
theorem dX3_beside_60 : decode cX3_beside 60 = .ok (.iload_n 1, 1) := by decide +kernel
theorem dX3_beside_61 : decode cX3_beside 61 = .ok (.ireturn, 1) := by decide +kernel
theorem dX3_beside_62 : decode cX3_beside 62 = .ok (.iload 4, 2) := by decide +kernel
theorem dX3_beside_64 : decode cX3_beside 64 = .ok (.iconst 1, 1) := by decide +kernel
theorem dX3_beside_65 : decode cX3_beside 65 = .ok (.iadd, 1) := by decide +kernel
theorem dX3_beside_66 : decode cX3_beside 66 = .ok (.aload_n 0, 1) := by decide +kernel
theorem dX3_beside_67 : decode cX3_beside 67 = .ok (.getfield 15, 3) := by decide +kernel
theorem dX3_beside_70 : decode cX3_beside 70 = .ok (.if_icmp .ge 12, 3) := by decide +kernel
theorem dX3_beside_73 : decode cX3_beside 73 = .ok (.iload_n 1, 1) := by decide +kernel
theorem dX3_beside_74 : decode cX3_beside 74 = .ok (.aload_n 0, 1) := by decide +kernel
theorem dX3_beside_75 : decode cX3_beside 75 = .ok (.getfield 9, 3) := by decide +kernel
theorem dX3_beside_78 : decode cX3_beside 78 = .ok (.iadd, 1) := by decide +kernel
theorem dX3_beside_79 : decode cX3_beside 79 = .ok (.goto 4, 3) := by decide +kernel
theorem dX3_beside_82 : decode cX3_beside 82 = .ok (.iload_n 1, 1) := by decide +kernel
theorem dX3_beside_83 : decode cX3_beside 83 = .ok (.ireturn, 1) := by decide +kernel
theorem dX3_beside_84 : decode cX3_beside 84 = .ok (.iload_n 3, 1) := by decide +kernel
theorem dX3_beside_85 : decode cX3_beside 85 = .ok (.ifCond .le 9, 3) := by decide +kernel
theorem dX3_beside_88 : decode cX3_beside 88 = .ok (.iload_n 1, 1) := by decide +kernel
theorem dX3_beside_89 : decode cX3_beside 89 = .ok (.iconst 1, 1) := by decide +kernel
theorem dX3_beside_90 : decode cX3_beside 90 = .ok (.isub, 1) := by decide +kernel
theorem dX3_beside_91 : decode cX3_beside 91 = .ok (.goto 4, 3) := by decide +kernel
theorem dX3_beside_94 : decode cX3_beside 94 = .ok (.iload_n 1, 1) := by decide +kernel
theorem dX3_beside_95 : decode cX3_beside 95 = .ok (.ireturn, 1) := by decide +kernel
theorem dX3_beside_96 : decode cX3_beside 96 = .ok (.iload 4, 2) := by decide +kernel
theorem dX3_beside_98 : decode cX3_beside 98 = .ok (.ifCond .le 12, 3) := by decide +kernel
theorem dX3_beside_101 : decode cX3_beside 101 = .ok (.iload_n 1, 1) := by decide +kernel
theorem dX3_beside_102 : decode cX3_beside 102 = .ok (.aload_n 0, 1) := by decide +kernel
theorem dX3_beside_103 : decode cX3_beside 103 = .ok (.getfield 9, 3) := by decide +kernel
theorem dX3_beside_106 : decode cX3_beside 106 = .ok (.isub, 1) := by decide +kernel
theorem dX3_beside_107 : decode cX3_beside 107 = .ok (.goto 4, 3) := by decide +kernel
theorem dX3_beside_110 : decode cX3_beside 110 = .ok (.iload_n 1, 1) := by decide +kernel
theorem dX3_beside_111 : decode cX3_beside 111 = .ok (.ireturn, 1) := by decide +kernel
theorem dX3_beside_112 : decode cX3_beside 112 = .ok (.iload_n 1, 1) := by decide +kernel
theorem dX3_beside_113 : decode cX3_beside 113 = .ok (.ireturn, 1) := by decide +kernel
theorem dX3_steps_0 : decode cX3_steps 0 = .ok (.iconst 1, 1) := by decide +kernel
theorem dX3_steps_1 : decode cX3_steps 1 = .ok (.iload_n 1, 1) := by decide +kernel
theorem dX3_steps_2 : decode cX3_steps 2 = .ok (.ishl, 1) := by decide +kernel
theorem dX3_steps_3 : decode cX3_steps 3 = .ok (.istore 4, 2) := by decide +kernel
theorem dX3_steps_5 : decode cX3_steps 5 = .ok (.iconst 0, 1) := by decide +kernel
theorem dX3_steps_6 : decode cX3_steps 6 = .ok (.istore 5, 2) := by decide +kernel
theorem dX3_steps_8 : decode cX3_steps 8 = .ok (.iload 5, 2) := by decide +kernel
theorem dX3_steps_10 : decode cX3_steps 10 = .ok (.bipush 25, 2) := by decide +kernel
theorem dX3_steps_12 : decode cX3_steps 12 = .ok (.if_icmp .gt 34, 3) := by decide +kernel
theorem dX3_steps_15 : decode cX3_steps 15 = .ok (.iload 4, 2) := by decide +kernel
theorem dX3_steps_17 : decode cX3_steps 17 = .ok (.iload_n 2, 1) := by decide +kernel
theorem dX3_steps_18 : decode cX3_steps 18 = .ok (.iushr, 1) := by decide +kernel
theorem dX3_steps_19 : decode cX3_steps 19 = .ok (.iconst 1, 1) := by decide +kernel
theorem dX3_steps_20 : decode cX3_steps 20 = .ok (.iand, 1) := by decide +kernel
theorem dX3_steps_21 : decode cX3_steps 21 = .ok (.ifCond .eq 6, 3) := by decide +kernel
theorem dX3_steps_24 : decode cX3_steps 24 = .ok (.iload 5, 2) := by decide +kernel
theorem dX3_steps_26 : decode cX3_steps 26 = .ok (.ireturn, 1) := by decide +kernel
theorem dX3_steps_27 : decode cX3_steps 27 = .ok (.iload 4, 2) := by decide +kernel
theorem dX3_steps_29 : decode cX3_steps 29 = .ok (.aload_n 0, 1) := by decide +kernel
theorem dX3_steps_30 : decode cX3_steps 30 = .ok (.iload 4, 2) := by decide +kernel
theorem dX3_steps_32 : decode cX3_steps 32 = .ok (.invokevirtual 31, 3) := by decide +kernel
theorem dX3_steps_35 : decode cX3_steps 35 = .ok (.iload_n 3, 1) := by decide +kernel
theorem dX3_steps_36 : decode cX3_steps 36 = .ok (.iand, 1) := by decide +kernel
theorem dX3_steps_37 : decode cX3_steps 37 = .ok (.ior, 1) := by decide +kernel
theorem dX3_steps_38 : decode cX3_steps 38 = .ok (.istore 4, 2) := by decide +kernel
theorem dX3_steps_40 : decode cX3_steps 40 = .ok (.iinc 5 1, 3) := by decide +kernel
theorem dX3_steps_43 : decode cX3_steps 43 = .ok (.goto (-35), 3) := by decide +kernel
theorem dX3_steps_46 : decode cX3_steps 46 = .ok (.iconst (-1), 1) := by decide +kernel
theorem dX3_steps_47 : decode cX3_steps 47 = .ok (.ireturn, 1) := by decide +kernel
theorem dX3_farthest_0 : decode cX3_farthest 0 = .ok (.iconst 1, 1) := by decide +kernel
theorem dX3_farthest_1 : decode cX3_farthest 1 = .ok (.iload_n 1, 1) := by decide +kernel
theorem dX3_farthest_2 : decode cX3_farthest 2 = .ok (.ishl, 1) := by decide +kernel
theorem dX3_farthest_3 : decode cX3_farthest 3 = .ok (.istore_n 3, 1) := by decide +kernel
theorem dX3_farthest_4 : decode cX3_farthest 4 = .ok (.iconst 0, 1) := by decide +kernel
theorem dX3_farthest_5 : decode cX3_farthest 5 = .ok (.istore 4, 2) := by decide +kernel
theorem dX3_farthest_7 : decode cX3_farthest 7 = .ok (.iload 4, 2) := by decide +kernel
theorem dX3_farthest_9 : decode cX3_farthest 9 = .ok (.bipush 25, 2) := by decide +kernel
theorem dX3_farthest_11 : decode cX3_farthest 11 = .ok (.if_icmp .ge 30, 3) := by decide +kernel
theorem dX3_farthest_14 : decode cX3_farthest 14 = .ok (.iload_n 2, 1) := by decide +kernel
theorem dX3_farthest_15 : decode cX3_farthest 15 = .ok (.iload_n 3, 1) := by decide +kernel
theorem dX3_farthest_16 : decode cX3_farthest 16 = .ok (.iconst (-1), 1) := by decide +kernel
theorem dX3_farthest_17 : decode cX3_farthest 17 = .ok (.ixor, 1) := by decide +kernel
theorem dX3_farthest_18 : decode cX3_farthest 18 = .ok (.iand, 1) := by decide +kernel
theorem dX3_farthest_19 : decode cX3_farthest 19 = .ok (.ifCond .ne 6, 3) := by decide +kernel
theorem dX3_farthest_22 : decode cX3_farthest 22 = .ok (.iload 4, 2) := by decide +kernel
theorem dX3_farthest_24 : decode cX3_farthest 24 = .ok (.ireturn, 1) := by decide +kernel
theorem dX3_farthest_25 : decode cX3_farthest 25 = .ok (.iload_n 3, 1) := by decide +kernel
theorem dX3_farthest_26 : decode cX3_farthest 26 = .ok (.aload_n 0, 1) := by decide +kernel
theorem dX3_farthest_27 : decode cX3_farthest 27 = .ok (.iload_n 3, 1) := by decide +kernel
theorem dX3_farthest_28 : decode cX3_farthest 28 = .ok (.invokevirtual 31, 3) := by decide +kernel
theorem dX3_farthest_31 : decode cX3_farthest 31 = .ok (.iload_n 2, 1) := by decide +kernel
theorem dX3_farthest_32 : decode cX3_farthest 32 = .ok (.iand, 1) := by decide +kernel
theorem dX3_farthest_33 : decode cX3_farthest 33 = .ok (.ior, 1) := by decide +kernel
theorem dX3_farthest_34 : decode cX3_farthest 34 = .ok (.istore_n 3, 1) := by decide +kernel
theorem dX3_farthest_35 : decode cX3_farthest 35 = .ok (.iinc 4 1, 3) := by decide +kernel
theorem dX3_farthest_38 : decode cX3_farthest 38 = .ok (.goto (-31), 3) := by decide +kernel
theorem dX3_farthest_41 : decode cX3_farthest 41 = .ok (.bipush 25, 2) := by decide +kernel
theorem dX3_farthest_43 : decode cX3_farthest 43 = .ok (.ireturn, 1) := by decide +kernel
theorem dX3_become_0 : decode cX3_become 0 = .ok (.aload_n 0, 1) := by decide +kernel
theorem dX3_become_1 : decode cX3_become 1 = .ok (.aload_n 1, 1) := by decide +kernel
theorem dX3_become_2 : decode cX3_become 2 = .ok (.getfield 9, 3) := by decide +kernel
theorem dX3_become_5 : decode cX3_become 5 = .ok (.putfield 9, 3) := by decide +kernel
theorem dX3_become_8 : decode cX3_become 8 = .ok (.aload_n 0, 1) := by decide +kernel
theorem dX3_become_9 : decode cX3_become 9 = .ok (.aload_n 1, 1) := by decide +kernel
theorem dX3_become_10 : decode cX3_become 10 = .ok (.getfield 15, 3) := by decide +kernel
theorem dX3_become_13 : decode cX3_become 13 = .ok (.putfield 15, 3) := by decide +kernel
theorem dX3_become_16 : decode cX3_become 16 = .ok (.aload_n 0, 1) := by decide +kernel
theorem dX3_become_17 : decode cX3_become 17 = .ok (.aload_n 1, 1) := by decide +kernel
theorem dX3_become_18 : decode cX3_become 18 = .ok (.getfield 18, 3) := by decide +kernel
theorem dX3_become_21 : decode cX3_become 21 = .ok (.putfield 18, 3) := by decide +kernel
theorem dX3_become_24 : decode cX3_become 24 = .ok (.aload_n 0, 1) := by decide +kernel
theorem dX3_become_25 : decode cX3_become 25 = .ok (.aload_n 1, 1) := by decide +kernel
theorem dX3_become_26 : decode cX3_become 26 = .ok (.getfield 21, 3) := by decide +kernel
theorem dX3_become_29 : decode cX3_become 29 = .ok (.putfield 21, 3) := by decide +kernel
theorem dX3_become_32 : decode cX3_become 32 = .ok (.return_, 1) := by decide +kernel
end
section
theorem dX4_init_0 : decode cX4_init 0 = .ok (.aload_n 0, 1) := by decide +kernel
theorem dX4_init_1 : decode cX4_init 1 = .ok (.invokespecial 3, 3) := by decide +kernel
theorem dX4_init_4 : decode cX4_init 4 = .ok (.aload_n 0, 1) := by decide +kernel
theorem dX4_init_5 : decode cX4_init 5 = .ok (.sipush 404, 3) := by decide +kernel
theorem dX4_init_8 : decode cX4_init 8 = .ok (.newarray .int, 2) := by decide +kernel
theorem dX4_init_10 : decode cX4_init 10 = .ok (.putfield 11, 3) := by decide +kernel
theorem dX4_init_13 : decode cX4_init 13 = .ok (.aload_n 0, 1) := by decide +kernel
theorem dX4_init_14 : decode cX4_init 14 = .ok (.iconst 4, 1) := by decide +kernel
theorem dX4_init_15 : decode cX4_init 15 = .ok (.newarray .int, 2) := by decide +kernel
theorem dX4_init_17 : decode cX4_init 17 = .ok (.putfield 15, 3) := by decide +kernel
theorem dX4_init_20 : decode cX4_init 20 = .ok (.aload_n 0, 1) := by decide +kernel
theorem dX4_init_21 : decode cX4_init 21 = .ok (.bipush 16, 2) := by decide +kernel
theorem dX4_init_23 : decode cX4_init 23 = .ok (.newarray .int, 2) := by decide +kernel
theorem dX4_init_25 : decode cX4_init 25 = .ok (.putfield 18, 3) := by decide +kernel
theorem dX4_init_28 : decode cX4_init 28 = .ok (.aload_n 0, 1) := by decide +kernel
theorem dX4_init_29 : decode cX4_init 29 = .ok (.iconst 0, 1) := by decide +kernel
theorem dX4_init_30 : decode cX4_init 30 = .ok (.putfield 21, 3) := by decide +kernel
theorem dX4_init_33 : decode cX4_init 33 = .ok (.return_, 1) := by decide +kernel
theorem dX4_clear_0 : decode cX4_clear 0 = .ok (.aload_n 0, 1) := by decide +kernel
theorem dX4_clear_1 : decode cX4_clear 1 = .ok (.iconst 0, 1) := by decide +kernel
theorem dX4_clear_2 : decode cX4_clear 2 = .ok (.putfield 21, 3) := by decide +kernel
theorem dX4_clear_5 : decode cX4_clear 5 = .ok (.aload_n 0, 1) := by decide +kernel
theorem dX4_clear_6 : decode cX4_clear 6 = .ok (.iconst 0, 1) := by decide +kernel
theorem dX4_clear_7 : decode cX4_clear 7 = .ok (.invokevirtual 25, 3) := by decide +kernel
theorem dX4_clear_10 : decode cX4_clear 10 = .ok (.aload_n 0, 1) := by decide +kernel
theorem dX4_clear_11 : decode cX4_clear 11 = .ok (.iconst 2, 1) := by decide +kernel
theorem dX4_clear_12 : decode cX4_clear 12 = .ok (.invokevirtual 25, 3) := by decide +kernel
theorem dX4_clear_15 : decode cX4_clear 15 = .ok (.aload_n 0, 1) := by decide +kernel
theorem dX4_clear_16 : decode cX4_clear 16 = .ok (.iconst 0, 1) := by decide +kernel
theorem dX4_clear_17 : decode cX4_clear 17 = .ok (.invokevirtual 29, 3) := by decide +kernel
theorem dX4_clear_20 : decode cX4_clear 20 = .ok (.aload_n 0, 1) := by decide +kernel
theorem dX4_clear_21 : decode cX4_clear 21 = .ok (.bipush (-15), 2) := by decide +kernel
theorem dX4_clear_23 : decode cX4_clear 23 = .ok (.invokevirtual 29, 3) := by decide +kernel
theorem dX4_clear_26 : decode cX4_clear 26 = .ok (.aload_n 0, 1) := by decide +kernel
theorem dX4_clear_27 : decode cX4_clear 27 = .ok (.iconst 1, 1) := by decide +kernel
theorem dX4_clear_28 : decode cX4_clear 28 = .ok (.invokevirtual 25, 3) := by decide +kernel
theorem dX4_clear_31 : decode cX4_clear 31 = .ok (.aload_n 0, 1) := by decide +kernel
theorem dX4_clear_32 : decode cX4_clear 32 = .ok (.iconst 3, 1) := by decide +kernel
theorem dX4_clear_33 : decode cX4_clear 33 = .ok (.invokevirtual 25, 3) := by decide +kernel
theorem dX4_clear_36 : decode cX4_clear 36 = .ok (.aload_n 0, 1) := by decide +kernel
theorem dX4_clear_37 : decode cX4_clear 37 = .ok (.iconst 1, 1) := by decide +kernel
theorem dX4_clear_38 : decode cX4_clear 38 = .ok (.invokevirtual 29, 3) := by decide +kernel
theorem dX4_clear_41 : decode cX4_clear 41 = .ok (.aload_n 0, 1) := by decide +kernel
theorem dX4_clear_42 : decode cX4_clear 42 = .ok (.bipush (-15), 2) := by decide +kernel
theorem dX4_clear_44 : decode cX4_clear 44 = .ok (.invokevirtual 29, 3) := by decide +kernel
theorem dX4_clear_47 : decode cX4_clear 47 = .ok (.return_, 1) := by decide +kernel
theorem dX4_become_0 : decode cX4_become 0 = .ok (.aload_n 0, 1) := by decide +kernel
theorem dX4_become_1 : decode cX4_become 1 = .ok (.aload_n 1, 1) := by decide +kernel
theorem dX4_become_2 : decode cX4_become 2 = .ok (.getfield 21, 3) := by decide +kernel
theorem dX4_become_5 : decode cX4_become 5 = .ok (.putfield 21, 3) := by decide +kernel
theorem dX4_become_8 : decode cX4_become 8 = .ok (.aload_n 1, 1) := by decide +kernel
theorem dX4_become_9 : decode cX4_become 9 = .ok (.getfield 11, 3) := by decide +kernel
theorem dX4_become_12 : decode cX4_become 12 = .ok (.iconst 0, 1) := by decide +kernel
theorem dX4_become_13 : decode cX4_become 13 = .ok (.aload_n 0, 1) := by decide +kernel
theorem dX4_become_14 : decode cX4_become 14 = .ok (.getfield 11, 3) := by decide +kernel
theorem dX4_become_17 : decode cX4_become 17 = .ok (.iconst 0, 1) := by decide +kernel
theorem dX4_become_18 : decode cX4_become 18 = .ok (.sipush 404, 3) := by decide +kernel
theorem dX4_become_21 : decode cX4_become 21 = .ok (.invokestatic 32, 3) := by decide +kernel
theorem dX4_become_24 : decode cX4_become 24 = .ok (.aload_n 1, 1) := by decide +kernel
theorem dX4_become_25 : decode cX4_become 25 = .ok (.getfield 15, 3) := by decide +kernel
theorem dX4_become_28 : decode cX4_become 28 = .ok (.iconst 0, 1) := by decide +kernel
theorem dX4_become_29 : decode cX4_become 29 = .ok (.aload_n 0, 1) := by decide +kernel
theorem dX4_become_30 : decode cX4_become 30 = .ok (.getfield 15, 3) := by decide +kernel
theorem dX4_become_33 : decode cX4_become 33 = .ok (.iconst 0, 1) := by decide +kernel
theorem dX4_become_34 : decode cX4_become 34 = .ok (.iconst 4, 1) := by decide +kernel
theorem dX4_become_35 : decode cX4_become 35 = .ok (.invokestatic 32, 3) := by decide +kernel
theorem dX4_become_38 : decode cX4_become 38 = .ok (.return_, 1) := by decide +kernel
theorem dX4_begin_0 : decode cX4_begin 0 = .ok (.iload_n 1, 1) := by decide +kernel
theorem dX4_begin_1 : decode cX4_begin 1 = .ok (.ifCond .lt 18, 3) := by decide +kernel
theorem dX4_begin_4 : decode cX4_begin 4 = .ok (.iload_n 1, 1) := by decide +kernel
theorem dX4_begin_5 : decode cX4_begin 5 = .ok (.iconst 4, 1) := by decide +kernel
theorem dX4_begin_6 : decode cX4_begin 6 = .ok (.if_icmp .ge 13, 3) := by decide +kernel
theorem dX4_begin_9 : decode cX4_begin 9 = .ok (.aload_n 0, 1) := by decide +kernel
theorem dX4_begin_10 : decode cX4_begin 10 = .ok (.getfield 15, 3) := by decide +kernel
theorem dX4_begin_13 : decode cX4_begin 13 = .ok (.iload_n 1, 1) := by decide +kernel
theorem dX4_begin_14 : decode cX4_begin 14 = .ok (.aload_n 0, 1) := by decide +kernel
theorem dX4_begin_15 : decode cX4_begin 15 = .ok (.getfield 21, 3) := by decide +kernel
theorem dX4_begin_18 : decode cX4_begin 18 = .ok (.iastore, 1) := by decide +kernel
theorem dX4_begin_19 : decode cX4_begin 19 = .ok (.return_, 1) := by decide +kernel
theorem dX4_add_0 : decode cX4_add 0 = .ok (.aload_n 0, 1) := by decide +kernel
theorem dX4_add_1 : decode cX4_add 1 = .ok (.getfield 21, 3) := by decide +kernel
theorem dX4_add_4 : decode cX4_add 4 = .ok (.sipush 404, 3) := by decide +kernel
theorem dX4_add_7 : decode cX4_add 7 = .ok (.if_icmp .ge 23, 3) := by decide +kernel
theorem dX4_add_10 : decode cX4_add 10 = .ok (.aload_n 0, 1) := by decide +kernel
theorem dX4_add_11 : decode cX4_add 11 = .ok (.getfield 11, 3) := by decide +kernel
theorem dX4_add_14 : decode cX4_add 14 = .ok (.aload_n 0, 1) := by decide +kernel
theorem dX4_add_15 : decode cX4_add 15 = .ok (.getfield 21, 3) := by decide +kernel
theorem dX4_add_18 : decode cX4_add 18 = .ok (.iload_n 1, 1) := by decide +kernel
theorem dX4_add_19 : decode cX4_add 19 = .ok (.iastore, 1) := by decide +kernel
theorem dX4_add_20 : decode cX4_add 20 = .ok (.aload_n 0, 1) := by decide +kernel
theorem dX4_add_21 : decode cX4_add 21 = .ok (.dup, 1) := by decide +kernel
theorem dX4_add_22 : decode cX4_add 22 = .ok (.getfield 21, 3) := by decide +kernel
theorem dX4_add_25 : decode cX4_add 25 = .ok (.iconst 1, 1) := by decide +kernel
theorem dX4_add_26 : decode cX4_add 26 = .ok (.iadd, 1) := by decide +kernel
theorem dX4_add_27 : decode cX4_add 27 = .ok (.putfield 21, 3) := by decide +kernel
theorem dX4_add_30 : decode cX4_add 30 = .ok (.return_, 1) := by decide +kernel
theorem dX4_addLess_0 : decode cX4_addLess 0 = .ok (.aload_n 0, 1) := by decide +kernel
theorem dX4_addLess_1 : decode cX4_addLess 1 = .ok (.bipush (-14), 2) := by decide +kernel
theorem dX4_addLess_3 : decode cX4_addLess 3 = .ok (.invokevirtual 29, 3) := by decide +kernel
theorem dX4_addLess_6 : decode cX4_addLess 6 = .ok (.aload_n 0, 1) := by decide +kernel
theorem dX4_addLess_7 : decode cX4_addLess 7 = .ok (.iconst 0, 1) := by decide +kernel
theorem dX4_addLess_8 : decode cX4_addLess 8 = .ok (.invokevirtual 29, 3) := by decide +kernel
theorem dX4_addLess_11 : decode cX4_addLess 11 = .ok (.aload_n 0, 1) := by decide +kernel
theorem dX4_addLess_12 : decode cX4_addLess 12 = .ok (.getfield 21, 3) := by decide +kernel
theorem dX4_addLess_15 : decode cX4_addLess 15 = .ok (.iconst 1, 1) := by decide +kernel
theorem dX4_addLess_16 : decode cX4_addLess 16 = .ok (.isub, 1) := by decide +kernel
theorem dX4_addLess_17 : decode cX4_addLess 17 = .ok (.ireturn, 1) := by decide +kernel
theorem dX4_elseHere_0 : decode cX4_elseHere 0 = .ok (.iload_n 1, 1) := by decide +kernel
theorem dX4_elseHere_1 : decode cX4_elseHere 1 = .ok (.ifCond .lt 20, 3) := by decide +kernel
theorem dX4_elseHere_4 : decode cX4_elseHere 4 = .ok (.iload_n 1, 1) := by decide +kernel
theorem dX4_elseHere_5 : decode cX4_elseHere 5 = .ok (.sipush 404, 3) := by decide +kernel
theorem dX4_elseHere_8 : decode cX4_elseHere 8 = .ok (.if_icmp .ge 13, 3) := by decide +kernel
theorem dX4_elseHere_11 : decode cX4_elseHere 11 = .ok (.aload_n 0, 1) := by decide +kernel
theorem dX4_elseHere_12 : decode cX4_elseHere 12 = .ok (.getfield 11, 3) := by decide +kernel
theorem dX4_elseHere_15 : decode cX4_elseHere 15 = .ok (.iload_n 1, 1) := by decide +kernel
theorem dX4_elseHere_16 : decode cX4_elseHere 16 = .ok (.aload_n 0, 1) := by decide +kernel
theorem dX4_elseHere_17 : decode cX4_elseHere 17 = .ok (.getfield 21, 3) := by decide +kernel
theorem dX4_elseHere_20 : decode cX4_elseHere 20 = .ok (.iastore, 1) := by decide +kernel
theorem dX4_elseHere_21 : decode cX4_elseHere 21 = .ok (.return_, 1) := by decide +kernel
theorem dX4_value_0 : decode cX4_value 0 = .ok (.iconst 0, 1) := by decide +kernel
theorem dX4_value_1 : decode cX4_value 1 = .ok (.istore_n 3, 1) := by decide +kernel
theorem dX4_value_2 : decode cX4_value 2 = .ok (.iload_n 1, 1) := by decide +kernel
theorem dX4_value_3 : decode cX4_value 3 = .ok (.ifCond .lt 17, 3) := by decide +kernel
theorem dX4_value_6 : decode cX4_value 6 = .ok (.iload_n 1, 1) := by decide +kernel
theorem dX4_value_7 : decode cX4_value 7 = .ok (.iconst 4, 1) := by decide +kernel
theorem dX4_value_8 : decode cX4_value 8 = .ok (.if_icmp .ge 12, 3) := by decide +kernel
theorem dX4_value_11 : decode cX4_value 11 = .ok (.aload_n 0, 1) := by decide +kernel
theorem dX4_value_12 : decode cX4_value 12 = .ok (.getfield 15, 3) := by decide +kernel
theorem dX4_value_15 : decode cX4_value 15 = .ok (.iload_n 1, 1) := by decide +kernel
theorem dX4_value_16 : decode cX4_value 16 = .ok (.iaload, 1) := by decide +kernel
theorem dX4_value_17 : decode cX4_value 17 = .ok (.goto 7, 3) := by decide +kernel
theorem dX4_value_20 : decode cX4_value 20 = .ok (.aload_n 0, 1) := by decide +kernel
theorem dX4_value_21 : decode cX4_value 21 = .ok (.getfield 21, 3) := by decide +kernel
theorem dX4_value_24 : decode cX4_value 24 = .ok (.istore 4, 2) := by decide +kernel
theorem dX4_value_26 : decode cX4_value 26 = .ok (.iconst 0, 1) := by decide +kernel
theorem dX4_value_27 : decode cX4_value 27 = .ok (.istore 5, 2) := by decide +kernel
theorem dX4_value_29 : decode cX4_value 29 = .ok (.iload 5, 2) := by decide +kernel
theorem dX4_value_31 : decode cX4_value 31 = .ok (.sipush 404, 3) := by decide +kernel
theorem dX4_value_34 : decode cX4_value 34 = .ok (.if_icmp .ge 204, 3) := by decide +kernel
theorem dX4_value_37 : decode cX4_value 37 = .ok (.iload 4, 2) := by decide +kernel
theorem dX4_value_39 : decode cX4_value 39 = .ok (.ifCond .lt 199, 3) := by decide +kernel
theorem dX4_value_42 : decode cX4_value 42 = .ok (.iload 4, 2) := by decide +kernel
theorem dX4_value_44 : decode cX4_value 44 = .ok (.aload_n 0, 1) := by decide +kernel
theorem dX4_value_45 : decode cX4_value 45 = .ok (.getfield 21, 3) := by decide +kernel
theorem dX4_value_48 : decode cX4_value 48 = .ok (.if_icmp .ge 190, 3) := by decide +kernel
theorem dX4_value_51 : decode cX4_value 51 = .ok (.aload_n 0, 1) := by decide +kernel
theorem dX4_value_52 : decode cX4_value 52 = .ok (.getfield 11, 3) := by decide +kernel
theorem dX4_value_55 : decode cX4_value 55 = .ok (.iload 4, 2) := by decide +kernel
theorem dX4_value_57 : decode cX4_value 57 = .ok (.iaload, 1) := by decide +kernel
theorem dX4_value_58 : decode cX4_value 58 = .ok (.istore 6, 2) := by decide +kernel
theorem dX4_value_60 : decode cX4_value 60 = .ok (.iinc 4 1, 3) := by decide +kernel
theorem dX4_value_63 : decode cX4_value 63 = .ok (.iload 6, 2) := by decide +kernel
theorem dX4_value_65 : decode cX4_value 65 = .ok (.bipush (-9), 2) := by decide +kernel
theorem dX4_value_67 : decode cX4_value 67 = .ok (.if_icmp .lt 48, 3) := by decide +kernel
theorem dX4_value_70 : decode cX4_value 70 = .ok (.iload_n 3, 1) := by decide +kernel
theorem dX4_value_71 : decode cX4_value 71 = .ok (.bipush 16, 2) := by decide +kernel
theorem dX4_value_73 : decode cX4_value 73 = .ok (.if_icmp .ge 12, 3) := by decide +kernel
theorem dX4_value_76 : decode cX4_value 76 = .ok (.iconst (-1), 1) := by decide +kernel
theorem dX4_value_77 : decode cX4_value 77 = .ok (.iload 6, 2) := by decide +kernel
theorem dX4_value_79 : decode cX4_value 79 = .ok (.isub, 1) := by decide +kernel
theorem dX4_value_80 : decode cX4_value 80 = .ok (.aload_n 2, 1) := by decide +kernel
theorem dX4_value_81 : decode cX4_value 81 = .ok (.arraylength, 1) := by decide +kernel
theorem dX4_value_82 : decode cX4_value 82 = .ok (.if_icmp .lt 5, 3) := by decide +kernel
theorem dX4_value_85 : decode cX4_value 85 = .ok (.iconst 0, 1) := by decide +kernel
theorem dX4_value_86 : decode cX4_value 86 = .ok (.ireturn, 1) := by decide +kernel
theorem dX4_value_87 : decode cX4_value 87 = .ok (.aload_n 0, 1) := by decide +kernel
theorem dX4_value_88 : decode cX4_value 88 = .ok (.getfield 18, 3) := by decide +kernel
theorem dX4_value_91 : decode cX4_value 91 = .ok (.iload_n 3, 1) := by decide +kernel
theorem dX4_value_92 : decode cX4_value 92 = .ok (.iload 6, 2) := by decide +kernel
theorem dX4_value_94 : decode cX4_value 94 = .ok (.ifCond .lt 8, 3) := by decide +kernel
theorem dX4_value_97 : decode cX4_value 97 = .ok (.iload 6, 2) := by decide +kernel
theorem dX4_value_99 : decode cX4_value 99 = .ok (.goto 9, 3) := by decide +kernel
theorem dX4_value_102 : decode cX4_value 102 = .ok (.aload_n 2, 1) := by decide +kernel
theorem dX4_value_103 : decode cX4_value 103 = .ok (.iconst (-1), 1) := by decide +kernel
theorem dX4_value_104 : decode cX4_value 104 = .ok (.iload 6, 2) := by decide +kernel
theorem dX4_value_106 : decode cX4_value 106 = .ok (.isub, 1) := by decide +kernel
theorem dX4_value_107 : decode cX4_value 107 = .ok (.iaload, 1) := by decide +kernel
theorem dX4_value_108 : decode cX4_value 108 = .ok (.iastore, 1) := by decide +kernel
theorem dX4_value_109 : decode cX4_value 109 = .ok (.iinc 3 1, 3) := by decide +kernel
theorem dX4_value_112 : decode cX4_value 112 = .ok (.goto 120, 3) := by decide +kernel
theorem dX4_value_115 : decode cX4_value 115 = .ok (.iload 6, 2) := by decide +kernel
theorem dX4_value_117 : decode cX4_value 117 = .ok (.bipush (-15), 2) := by decide +kernel
theorem dX4_value_119 : decode cX4_value 119 = .ok (.if_icmp .ne 19, 3) := by decide +kernel
theorem dX4_value_122 : decode cX4_value 122 = .ok (.iload_n 3, 1) := by decide +kernel
theorem dX4_value_123 : decode cX4_value 123 = .ok (.iconst 1, 1) := by decide +kernel
theorem dX4_value_124 : decode cX4_value 124 = .ok (.if_icmp .ne 12, 3) := by decide +kernel
theorem dX4_value_127 : decode cX4_value 127 = .ok (.aload_n 0, 1) := by decide +kernel
theorem dX4_value_128 : decode cX4_value 128 = .ok (.getfield 18, 3) := by decide +kernel
theorem dX4_value_131 : decode cX4_value 131 = .ok (.iconst 0, 1) := by decide +kernel
theorem dX4_value_132 : decode cX4_value 132 = .ok (.iaload, 1) := by decide +kernel
theorem dX4_value_133 : decode cX4_value 133 = .ok (.goto 4, 3) := by decide +kernel
theorem dX4_value_136 : decode cX4_value 136 = .ok (.iconst 0, 1) := by decide +kernel
theorem dX4_value_137 : decode cX4_value 137 = .ok (.ireturn, 1) := by decide +kernel
theorem dX4_value_138 : decode cX4_value 138 = .ok (.iload_n 3, 1) := by decide +kernel
theorem dX4_value_139 : decode cX4_value 139 = .ok (.iconst 2, 1) := by decide +kernel
theorem dX4_value_140 : decode cX4_value 140 = .ok (.if_icmp .ge 5, 3) := by decide +kernel
theorem dX4_value_143 : decode cX4_value 143 = .ok (.iconst 0, 1) := by decide +kernel
theorem dX4_value_144 : decode cX4_value 144 = .ok (.ireturn, 1) := by decide +kernel
theorem dX4_value_145 : decode cX4_value 145 = .ok (.iinc 3 (-1), 3) := by decide +kernel
theorem dX4_value_148 : decode cX4_value 148 = .ok (.aload_n 0, 1) := by decide +kernel
theorem dX4_value_149 : decode cX4_value 149 = .ok (.getfield 18, 3) := by decide +kernel
theorem dX4_value_152 : decode cX4_value 152 = .ok (.iload_n 3, 1) := by decide +kernel
theorem dX4_value_153 : decode cX4_value 153 = .ok (.iconst 1, 1) := by decide +kernel
theorem dX4_value_154 : decode cX4_value 154 = .ok (.isub, 1) := by decide +kernel
theorem dX4_value_155 : decode cX4_value 155 = .ok (.iaload, 1) := by decide +kernel
theorem dX4_value_156 : decode cX4_value 156 = .ok (.istore 7, 2) := by decide +kernel
theorem dX4_value_158 : decode cX4_value 158 = .ok (.aload_n 0, 1) := by decide +kernel
theorem dX4_value_159 : decode cX4_value 159 = .ok (.getfield 18, 3) := by decide +kernel
theorem dX4_value_162 : decode cX4_value 162 = .ok (.iload_n 3, 1) := by decide +kernel
theorem dX4_value_163 : decode cX4_value 163 = .ok (.iaload, 1) := by decide +kernel
theorem dX4_value_164 : decode cX4_value 164 = .ok (.istore 8, 2) := by decide +kernel
theorem dX4_value_166 : decode cX4_value 166 = .ok (.iload 6, 2) := by decide +kernel
theorem dX4_value_168 : decode cX4_value 168 = .ok (.bipush (-14), 2) := by decide +kernel
theorem dX4_value_170 : decode cX4_value 170 = .ok (.if_icmp .ne 31, 3) := by decide +kernel
theorem dX4_value_173 : decode cX4_value 173 = .ok (.iinc 3 (-1), 3) := by decide +kernel
theorem dX4_value_176 : decode cX4_value 176 = .ok (.iload 7, 2) := by decide +kernel
theorem dX4_value_178 : decode cX4_value 178 = .ok (.iload 8, 2) := by decide +kernel
theorem dX4_value_180 : decode cX4_value 180 = .ok (.if_icmp .ge 10, 3) := by decide +kernel
theorem dX4_value_183 : decode cX4_value 183 = .ok (.iload 4, 2) := by decide +kernel
theorem dX4_value_185 : decode cX4_value 185 = .ok (.iconst 1, 1) := by decide +kernel
theorem dX4_value_186 : decode cX4_value 186 = .ok (.iadd, 1) := by decide +kernel
theorem dX4_value_187 : decode cX4_value 187 = .ok (.goto 9, 3) := by decide +kernel
theorem dX4_value_190 : decode cX4_value 190 = .ok (.aload_n 0, 1) := by decide +kernel
theorem dX4_value_191 : decode cX4_value 191 = .ok (.iload 4, 2) := by decide +kernel
theorem dX4_value_193 : decode cX4_value 193 = .ok (.invokevirtual 38, 3) := by decide +kernel
theorem dX4_value_196 : decode cX4_value 196 = .ok (.istore 4, 2) := by decide +kernel
theorem dX4_value_198 : decode cX4_value 198 = .ok (.goto 34, 3) := by decide +kernel
theorem dX4_value_201 : decode cX4_value 201 = .ok (.iload 6, 2) := by decide +kernel
theorem dX4_value_203 : decode cX4_value 203 = .ok (.bipush (-13), 2) := by decide +kernel
theorem dX4_value_205 : decode cX4_value 205 = .ok (.if_icmp .ne 10, 3) := by decide +kernel
theorem dX4_value_208 : decode cX4_value 208 = .ok (.iload 8, 2) := by decide +kernel
theorem dX4_value_210 : decode cX4_value 210 = .ok (.ifCond .ne 5, 3) := by decide +kernel
theorem dX4_value_213 : decode cX4_value 213 = .ok (.iconst 0, 1) := by decide +kernel
theorem dX4_value_214 : decode cX4_value 214 = .ok (.ireturn, 1) := by decide +kernel
theorem dX4_value_215 : decode cX4_value 215 = .ok (.aload_n 0, 1) := by decide +kernel
theorem dX4_value_216 : decode cX4_value 216 = .ok (.getfield 18, 3) := by decide +kernel
theorem dX4_value_219 : decode cX4_value 219 = .ok (.iload_n 3, 1) := by decide +kernel
theorem dX4_value_220 : decode cX4_value 220 = .ok (.iconst 1, 1) := by decide +kernel
theorem dX4_value_221 : decode cX4_value 221 = .ok (.isub, 1) := by decide +kernel
theorem dX4_value_222 : decode cX4_value 222 = .ok (.iload 6, 2) := by decide +kernel
theorem dX4_value_224 : decode cX4_value 224 = .ok (.iload 7, 2) := by decide +kernel
theorem dX4_value_226 : decode cX4_value 226 = .ok (.iload 8, 2) := by decide +kernel
theorem dX4_value_228 : decode cX4_value 228 = .ok (.invokestatic 42, 3) := by decide +kernel
theorem dX4_value_231 : decode cX4_value 231 = .ok (.iastore, 1) := by decide +kernel
theorem dX4_value_232 : decode cX4_value 232 = .ok (.iinc 5 1, 3) := by decide +kernel
theorem dX4_value_235 : decode cX4_value 235 = .ok (.goto (-206), 3) := by decide +kernel
theorem dX4_value_238 : decode cX4_value 238 = .ok (.iconst 0, 1) := by decide +kernel
theorem dX4_value_239 : decode cX4_value 239 = .ok (.ireturn, 1) := by decide +kernel
theorem dX4_elseOf_0 : decode cX4_elseOf 0 = .ok (.iload_n 1, 1) := by decide +kernel
theorem dX4_elseOf_1 : decode cX4_elseOf 1 = .ok (.ifCond .lt 20, 3) := by decide +kernel
theorem dX4_elseOf_4 : decode cX4_elseOf 4 = .ok (.iload_n 1, 1) := by decide +kernel
theorem dX4_elseOf_5 : decode cX4_elseOf 5 = .ok (.aload_n 0, 1) := by decide +kernel
theorem dX4_elseOf_6 : decode cX4_elseOf 6 = .ok (.getfield 21, 3) := by decide +kernel
theorem dX4_elseOf_9 : decode cX4_elseOf 9 = .ok (.if_icmp .ge 12, 3) := by decide +kernel
theorem dX4_elseOf_12 : decode cX4_elseOf 12 = .ok (.aload_n 0, 1) := by decide +kernel
theorem dX4_elseOf_13 : decode cX4_elseOf 13 = .ok (.getfield 11, 3) := by decide +kernel
theorem dX4_elseOf_16 : decode cX4_elseOf 16 = .ok (.iload_n 1, 1) := by decide +kernel
theorem dX4_elseOf_17 : decode cX4_elseOf 17 = .ok (.iaload, 1) := by decide +kernel
theorem dX4_elseOf_18 : decode cX4_elseOf 18 = .ok (.goto 7, 3) := by decide +kernel
theorem dX4_elseOf_21 : decode cX4_elseOf 21 = .ok (.aload_n 0, 1) := by decide +kernel
theorem dX4_elseOf_22 : decode cX4_elseOf 22 = .ok (.getfield 21, 3) := by decide +kernel
theorem dX4_elseOf_25 : decode cX4_elseOf 25 = .ok (.ireturn, 1) := by decide +kernel
theorem dX4_reckon_0 : decode cX4_reckon 0 = .ok (.iload_n 0, 1) := by decide +kernel
theorem dX4_reckon_1 : decode cX4_reckon 1 = .ok (.tableswitch 55 (-13) (-10) #[43, 39, 35, 31], 31) := by decide +kernel
theorem dX4_reckon_32 : decode cX4_reckon 32 = .ok (.iload_n 1, 1) := by decide +kernel
theorem dX4_reckon_33 : decode cX4_reckon 33 = .ok (.iload_n 2, 1) := by decide +kernel
theorem dX4_reckon_34 : decode cX4_reckon 34 = .ok (.iadd, 1) := by decide +kernel
theorem dX4_reckon_35 : decode cX4_reckon 35 = .ok (.ireturn, 1) := by decide +kernel
theorem dX4_reckon_36 : decode cX4_reckon 36 = .ok (.iload_n 1, 1) := by decide +kernel
theorem dX4_reckon_37 : decode cX4_reckon 37 = .ok (.iload_n 2, 1) := by decide +kernel
theorem dX4_reckon_38 : decode cX4_reckon 38 = .ok (.isub, 1) := by decide +kernel
theorem dX4_reckon_39 : decode cX4_reckon 39 = .ok (.ireturn, 1) := by decide +kernel
theorem dX4_reckon_40 : decode cX4_reckon 40 = .ok (.iload_n 1, 1) := by decide +kernel
theorem dX4_reckon_41 : decode cX4_reckon 41 = .ok (.iload_n 2, 1) := by decide +kernel
theorem dX4_reckon_42 : decode cX4_reckon 42 = .ok (.imul, 1) := by decide +kernel
theorem dX4_reckon_43 : decode cX4_reckon 43 = .ok (.ireturn, 1) := by decide +kernel
theorem dX4_reckon_44 : decode cX4_reckon 44 = .ok (.iload_n 2, 1) := by decide +kernel
theorem dX4_reckon_45 : decode cX4_reckon 45 = .ok (.ifCond .ne 7, 3) := by decide +kernel
theorem dX4_reckon_48 : decode cX4_reckon 48 = .ok (.iconst 0, 1) := by decide +kernel
theorem dX4_reckon_49 : decode cX4_reckon 49 = .ok (.goto 6, 3) := by decide +kernel
theorem dX4_reckon_52 : decode cX4_reckon 52 = .ok (.iload_n 1, 1) := by decide +kernel
theorem dX4_reckon_53 : decode cX4_reckon 53 = .ok (.iload_n 2, 1) := by decide +kernel
theorem dX4_reckon_54 : decode cX4_reckon 54 = .ok (.idiv, 1) := by decide +kernel
theorem dX4_reckon_55 : decode cX4_reckon 55 = .ok (.ireturn, 1) := by decide +kernel
theorem dX4_reckon_56 : decode cX4_reckon 56 = .ok (.iconst 0, 1) := by decide +kernel
theorem dX4_reckon_57 : decode cX4_reckon 57 = .ok (.ireturn, 1) := by decide +kernel
end
section
theorem dX5_init_0 : decode cX5_init 0 = .ok (.aload_n 0, 1) := by decide +kernel
theorem dX5_init_1 : decode cX5_init 1 = .ok (.invokespecial 3, 3) := by decide +kernel
theorem dX5_init_4 : decode cX5_init 4 = .ok (.aload_n 0, 1) := by decide +kernel
theorem dX5_init_5 : decode cX5_init 5 = .ok (.iconst 5, 1) := by decide +kernel
theorem dX5_init_6 : decode cX5_init 6 = .ok (.newarray .int, 2) := by decide +kernel
theorem dX5_init_8 : decode cX5_init 8 = .ok (.putfield 9, 3) := by decide +kernel
theorem dX5_init_11 : decode cX5_init 11 = .ok (.aload_n 0, 1) := by decide +kernel
theorem dX5_init_12 : decode cX5_init 12 = .ok (.iconst 5, 1) := by decide +kernel
theorem dX5_init_13 : decode cX5_init 13 = .ok (.newarray .int, 2) := by decide +kernel
theorem dX5_init_15 : decode cX5_init 15 = .ok (.putfield 15, 3) := by decide +kernel
theorem dX5_init_18 : decode cX5_init 18 = .ok (.aload_n 0, 1) := by decide +kernel
theorem dX5_init_19 : decode cX5_init 19 = .ok (.iconst 0, 1) := by decide +kernel
theorem dX5_init_20 : decode cX5_init 20 = .ok (.putfield 18, 3) := by decide +kernel
theorem dX5_init_23 : decode cX5_init 23 = .ok (.aload_n 0, 1) := by decide +kernel
theorem dX5_init_24 : decode cX5_init 24 = .ok (.aload_n 1, 1) := by decide +kernel
theorem dX5_init_25 : decode cX5_init 25 = .ok (.putfield 22, 3) := by decide +kernel
theorem dX5_init_28 : decode cX5_init 28 = .ok (.return_, 1) := by decide +kernel
theorem dX5_match_0 : decode cX5_match 0 = .ok (.aload_n 0, 1) := by decide +kernel
theorem dX5_match_1 : decode cX5_match 1 = .ok (.iconst (-1), 1) := by decide +kernel
theorem dX5_match_2 : decode cX5_match 2 = .ok (.putfield 18, 3) := by decide +kernel
theorem dX5_match_5 : decode cX5_match 5 = .ok (.aload_n 0, 1) := by decide +kernel
theorem dX5_match_6 : decode cX5_match 6 = .ok (.aload_n 1, 1) := by decide +kernel
theorem dX5_match_7 : decode cX5_match 7 = .ok (.iconst 1, 1) := by decide +kernel
theorem dX5_match_8 : decode cX5_match 8 = .ok (.iload_n 2, 1) := by decide +kernel
theorem dX5_match_9 : decode cX5_match 9 = .ok (.ishl, 1) := by decide +kernel
theorem dX5_match_10 : decode cX5_match 10 = .ok (.iconst 1, 1) := by decide +kernel
theorem dX5_match_11 : decode cX5_match 11 = .ok (.isub, 1) := by decide +kernel
theorem dX5_match_12 : decode cX5_match 12 = .ok (.iconst 0, 1) := by decide +kernel
theorem dX5_match_13 : decode cX5_match 13 = .ok (.iconst 0, 1) := by decide +kernel
theorem dX5_match_14 : decode cX5_match 14 = .ok (.invokevirtual 26, 3) := by decide +kernel
theorem dX5_match_17 : decode cX5_match 17 = .ok (.return_, 1) := by decide +kernel
theorem dX5_pairOff_0 : decode cX5_pairOff 0 = .ok (.iload_n 2, 1) := by decide +kernel
theorem dX5_pairOff_1 : decode cX5_pairOff 1 = .ok (.invokestatic 30, 3) := by decide +kernel
theorem dX5_pairOff_4 : decode cX5_pairOff 4 = .ok (.istore 5, 2) := by decide +kernel
theorem dX5_pairOff_6 : decode cX5_pairOff 6 = .ok (.iload_n 2, 1) := by decide +kernel
theorem dX5_pairOff_7 : decode cX5_pairOff 7 = .ok (.ifCond .eq 15, 3) := by decide +kernel
theorem dX5_pairOff_10 : decode cX5_pairOff 10 = .ok (.iload 5, 2) := by decide +kernel
theorem dX5_pairOff_12 : decode cX5_pairOff 12 = .ok (.iconst 5, 1) := by decide +kernel
theorem dX5_pairOff_13 : decode cX5_pairOff 13 = .ok (.if_icmp .ge 9, 3) := by decide +kernel
theorem dX5_pairOff_16 : decode cX5_pairOff 16 = .ok (.iload 4, 2) := by decide +kernel
theorem dX5_pairOff_18 : decode cX5_pairOff 18 = .ok (.iconst 5, 1) := by decide +kernel
theorem dX5_pairOff_19 : decode cX5_pairOff 19 = .ok (.if_icmp .le 9, 3) := by decide +kernel
theorem dX5_pairOff_22 : decode cX5_pairOff 22 = .ok (.aload_n 0, 1) := by decide +kernel
theorem dX5_pairOff_23 : decode cX5_pairOff 23 = .ok (.iload_n 3, 1) := by decide +kernel
theorem dX5_pairOff_24 : decode cX5_pairOff 24 = .ok (.invokevirtual 34, 3) := by decide +kernel
theorem dX5_pairOff_27 : decode cX5_pairOff 27 = .ok (.return_, 1) := by decide +kernel
theorem dX5_pairOff_28 : decode cX5_pairOff 28 = .ok (.iload_n 2, 1) := by decide +kernel
theorem dX5_pairOff_29 : decode cX5_pairOff 29 = .ok (.iconst 1, 1) := by decide +kernel
theorem dX5_pairOff_30 : decode cX5_pairOff 30 = .ok (.iload 5, 2) := by decide +kernel
theorem dX5_pairOff_32 : decode cX5_pairOff 32 = .ok (.ishl, 1) := by decide +kernel
theorem dX5_pairOff_33 : decode cX5_pairOff 33 = .ok (.iconst (-1), 1) := by decide +kernel
theorem dX5_pairOff_34 : decode cX5_pairOff 34 = .ok (.ixor, 1) := by decide +kernel
theorem dX5_pairOff_35 : decode cX5_pairOff 35 = .ok (.iand, 1) := by decide +kernel
theorem dX5_pairOff_36 : decode cX5_pairOff 36 = .ok (.istore 6, 2) := by decide +kernel
theorem dX5_pairOff_38 : decode cX5_pairOff 38 = .ok (.iload 5, 2) := by decide +kernel
theorem dX5_pairOff_40 : decode cX5_pairOff 40 = .ok (.iconst 1, 1) := by decide +kernel
theorem dX5_pairOff_41 : decode cX5_pairOff 41 = .ok (.iadd, 1) := by decide +kernel
theorem dX5_pairOff_42 : decode cX5_pairOff 42 = .ok (.istore 7, 2) := by decide +kernel
theorem dX5_pairOff_44 : decode cX5_pairOff 44 = .ok (.iload 7, 2) := by decide +kernel
theorem dX5_pairOff_46 : decode cX5_pairOff 46 = .ok (.iconst 5, 1) := by decide +kernel
theorem dX5_pairOff_47 : decode cX5_pairOff 47 = .ok (.if_icmp .ge 79, 3) := by decide +kernel
theorem dX5_pairOff_50 : decode cX5_pairOff 50 = .ok (.iload 6, 2) := by decide +kernel
theorem dX5_pairOff_52 : decode cX5_pairOff 52 = .ok (.iload 7, 2) := by decide +kernel
theorem dX5_pairOff_54 : decode cX5_pairOff 54 = .ok (.iushr, 1) := by decide +kernel
theorem dX5_pairOff_55 : decode cX5_pairOff 55 = .ok (.iconst 1, 1) := by decide +kernel
theorem dX5_pairOff_56 : decode cX5_pairOff 56 = .ok (.iand, 1) := by decide +kernel
theorem dX5_pairOff_57 : decode cX5_pairOff 57 = .ok (.ifCond .eq 63, 3) := by decide +kernel
theorem dX5_pairOff_60 : decode cX5_pairOff 60 = .ok (.aload_n 0, 1) := by decide +kernel
theorem dX5_pairOff_61 : decode cX5_pairOff 61 = .ok (.getfield 9, 3) := by decide +kernel
theorem dX5_pairOff_64 : decode cX5_pairOff 64 = .ok (.iload 5, 2) := by decide +kernel
theorem dX5_pairOff_66 : decode cX5_pairOff 66 = .ok (.iload 7, 2) := by decide +kernel
theorem dX5_pairOff_68 : decode cX5_pairOff 68 = .ok (.iastore, 1) := by decide +kernel
theorem dX5_pairOff_69 : decode cX5_pairOff 69 = .ok (.aload_n 0, 1) := by decide +kernel
theorem dX5_pairOff_70 : decode cX5_pairOff 70 = .ok (.getfield 9, 3) := by decide +kernel
theorem dX5_pairOff_73 : decode cX5_pairOff 73 = .ok (.iload 7, 2) := by decide +kernel
theorem dX5_pairOff_75 : decode cX5_pairOff 75 = .ok (.iload 5, 2) := by decide +kernel
theorem dX5_pairOff_77 : decode cX5_pairOff 77 = .ok (.iastore, 1) := by decide +kernel
theorem dX5_pairOff_78 : decode cX5_pairOff 78 = .ok (.aload_n 0, 1) := by decide +kernel
theorem dX5_pairOff_79 : decode cX5_pairOff 79 = .ok (.aload_n 1, 1) := by decide +kernel
theorem dX5_pairOff_80 : decode cX5_pairOff 80 = .ok (.getfield 38, 3) := by decide +kernel
theorem dX5_pairOff_83 : decode cX5_pairOff 83 = .ok (.iload 5, 2) := by decide +kernel
theorem dX5_pairOff_85 : decode cX5_pairOff 85 = .ok (.iaload, 1) := by decide +kernel
theorem dX5_pairOff_86 : decode cX5_pairOff 86 = .ok (.aload_n 1, 1) := by decide +kernel
theorem dX5_pairOff_87 : decode cX5_pairOff 87 = .ok (.getfield 38, 3) := by decide +kernel
theorem dX5_pairOff_90 : decode cX5_pairOff 90 = .ok (.iload 7, 2) := by decide +kernel
theorem dX5_pairOff_92 : decode cX5_pairOff 92 = .ok (.iaload, 1) := by decide +kernel
theorem dX5_pairOff_93 : decode cX5_pairOff 93 = .ok (.invokevirtual 43, 3) := by decide +kernel
theorem dX5_pairOff_96 : decode cX5_pairOff 96 = .ok (.istore 8, 2) := by decide +kernel
theorem dX5_pairOff_98 : decode cX5_pairOff 98 = .ok (.aload_n 0, 1) := by decide +kernel
theorem dX5_pairOff_99 : decode cX5_pairOff 99 = .ok (.aload_n 1, 1) := by decide +kernel
theorem dX5_pairOff_100 : decode cX5_pairOff 100 = .ok (.iload 6, 2) := by decide +kernel
theorem dX5_pairOff_102 : decode cX5_pairOff 102 = .ok (.iconst 1, 1) := by decide +kernel
theorem dX5_pairOff_103 : decode cX5_pairOff 103 = .ok (.iload 7, 2) := by decide +kernel
theorem dX5_pairOff_105 : decode cX5_pairOff 105 = .ok (.ishl, 1) := by decide +kernel
theorem dX5_pairOff_106 : decode cX5_pairOff 106 = .ok (.iconst (-1), 1) := by decide +kernel
theorem dX5_pairOff_107 : decode cX5_pairOff 107 = .ok (.ixor, 1) := by decide +kernel
theorem dX5_pairOff_108 : decode cX5_pairOff 108 = .ok (.iand, 1) := by decide +kernel
theorem dX5_pairOff_109 : decode cX5_pairOff 109 = .ok (.iload_n 3, 1) := by decide +kernel
theorem dX5_pairOff_110 : decode cX5_pairOff 110 = .ok (.iload 8, 2) := by decide +kernel
theorem dX5_pairOff_112 : decode cX5_pairOff 112 = .ok (.iadd, 1) := by decide +kernel
theorem dX5_pairOff_113 : decode cX5_pairOff 113 = .ok (.iload 4, 2) := by decide +kernel
theorem dX5_pairOff_115 : decode cX5_pairOff 115 = .ok (.iconst 1, 1) := by decide +kernel
theorem dX5_pairOff_116 : decode cX5_pairOff 116 = .ok (.iadd, 1) := by decide +kernel
theorem dX5_pairOff_117 : decode cX5_pairOff 117 = .ok (.invokevirtual 26, 3) := by decide +kernel
theorem dX5_pairOff_120 : decode cX5_pairOff 120 = .ok (.iinc 7 1, 3) := by decide +kernel
theorem dX5_pairOff_123 : decode cX5_pairOff 123 = .ok (.goto (-79), 3) := by decide +kernel
theorem dX5_pairOff_126 : decode cX5_pairOff 126 = .ok (.iload_n 2, 1) := by decide +kernel
theorem dX5_pairOff_127 : decode cX5_pairOff 127 = .ok (.invokestatic 47, 3) := by decide +kernel
theorem dX5_pairOff_130 : decode cX5_pairOff 130 = .ok (.iconst 1, 1) := by decide +kernel
theorem dX5_pairOff_131 : decode cX5_pairOff 131 = .ok (.iand, 1) := by decide +kernel
theorem dX5_pairOff_132 : decode cX5_pairOff 132 = .ok (.ifCond .eq 24, 3) := by decide +kernel
theorem dX5_pairOff_135 : decode cX5_pairOff 135 = .ok (.aload_n 0, 1) := by decide +kernel
theorem dX5_pairOff_136 : decode cX5_pairOff 136 = .ok (.getfield 9, 3) := by decide +kernel
theorem dX5_pairOff_139 : decode cX5_pairOff 139 = .ok (.iload 5, 2) := by decide +kernel
theorem dX5_pairOff_141 : decode cX5_pairOff 141 = .ok (.bipush (-2), 2) := by decide +kernel
theorem dX5_pairOff_143 : decode cX5_pairOff 143 = .ok (.iastore, 1) := by decide +kernel
theorem dX5_pairOff_144 : decode cX5_pairOff 144 = .ok (.aload_n 0, 1) := by decide +kernel
theorem dX5_pairOff_145 : decode cX5_pairOff 145 = .ok (.aload_n 1, 1) := by decide +kernel
theorem dX5_pairOff_146 : decode cX5_pairOff 146 = .ok (.iload 6, 2) := by decide +kernel
theorem dX5_pairOff_148 : decode cX5_pairOff 148 = .ok (.iload_n 3, 1) := by decide +kernel
theorem dX5_pairOff_149 : decode cX5_pairOff 149 = .ok (.iload 4, 2) := by decide +kernel
theorem dX5_pairOff_151 : decode cX5_pairOff 151 = .ok (.iconst 1, 1) := by decide +kernel
theorem dX5_pairOff_152 : decode cX5_pairOff 152 = .ok (.iadd, 1) := by decide +kernel
theorem dX5_pairOff_153 : decode cX5_pairOff 153 = .ok (.invokevirtual 26, 3) := by decide +kernel
theorem dX5_pairOff_156 : decode cX5_pairOff 156 = .ok (.return_, 1) := by decide +kernel
theorem dX5_keepIfLess_0 : decode cX5_keepIfLess 0 = .ok (.aload_n 0, 1) := by decide +kernel
theorem dX5_keepIfLess_1 : decode cX5_keepIfLess 1 = .ok (.getfield 18, 3) := by decide +kernel
theorem dX5_keepIfLess_4 : decode cX5_keepIfLess 4 = .ok (.iconst (-1), 1) := by decide +kernel
theorem dX5_keepIfLess_5 : decode cX5_keepIfLess 5 = .ok (.if_icmp .eq 11, 3) := by decide +kernel
theorem dX5_keepIfLess_8 : decode cX5_keepIfLess 8 = .ok (.iload_n 1, 1) := by decide +kernel
theorem dX5_keepIfLess_9 : decode cX5_keepIfLess 9 = .ok (.aload_n 0, 1) := by decide +kernel
theorem dX5_keepIfLess_10 : decode cX5_keepIfLess 10 = .ok (.getfield 18, 3) := by decide +kernel
theorem dX5_keepIfLess_13 : decode cX5_keepIfLess 13 = .ok (.if_icmp .ge 22, 3) := by decide +kernel
theorem dX5_keepIfLess_16 : decode cX5_keepIfLess 16 = .ok (.aload_n 0, 1) := by decide +kernel
theorem dX5_keepIfLess_17 : decode cX5_keepIfLess 17 = .ok (.iload_n 1, 1) := by decide +kernel
theorem dX5_keepIfLess_18 : decode cX5_keepIfLess 18 = .ok (.putfield 18, 3) := by decide +kernel
theorem dX5_keepIfLess_21 : decode cX5_keepIfLess 21 = .ok (.aload_n 0, 1) := by decide +kernel
theorem dX5_keepIfLess_22 : decode cX5_keepIfLess 22 = .ok (.getfield 9, 3) := by decide +kernel
theorem dX5_keepIfLess_25 : decode cX5_keepIfLess 25 = .ok (.iconst 0, 1) := by decide +kernel
theorem dX5_keepIfLess_26 : decode cX5_keepIfLess 26 = .ok (.aload_n 0, 1) := by decide +kernel
theorem dX5_keepIfLess_27 : decode cX5_keepIfLess 27 = .ok (.getfield 15, 3) := by decide +kernel
theorem dX5_keepIfLess_30 : decode cX5_keepIfLess 30 = .ok (.iconst 0, 1) := by decide +kernel
theorem dX5_keepIfLess_31 : decode cX5_keepIfLess 31 = .ok (.iconst 5, 1) := by decide +kernel
theorem dX5_keepIfLess_32 : decode cX5_keepIfLess 32 = .ok (.invokestatic 52, 3) := by decide +kernel
theorem dX5_keepIfLess_35 : decode cX5_keepIfLess 35 = .ok (.return_, 1) := by decide +kernel
theorem dX5_distance_0 : decode cX5_distance 0 = .ok (.aload_n 0, 1) := by decide +kernel
theorem dX5_distance_1 : decode cX5_distance 1 = .ok (.getfield 22, 3) := by decide +kernel
theorem dX5_distance_4 : decode cX5_distance 4 = .ok (.iload_n 1, 1) := by decide +kernel
theorem dX5_distance_5 : decode cX5_distance 5 = .ok (.invokevirtual 58, 3) := by decide +kernel
theorem dX5_distance_8 : decode cX5_distance 8 = .ok (.aload_n 0, 1) := by decide +kernel
theorem dX5_distance_9 : decode cX5_distance 9 = .ok (.getfield 22, 3) := by decide +kernel
theorem dX5_distance_12 : decode cX5_distance 12 = .ok (.iload_n 2, 1) := by decide +kernel
theorem dX5_distance_13 : decode cX5_distance 13 = .ok (.invokevirtual 58, 3) := by decide +kernel
theorem dX5_distance_16 : decode cX5_distance 16 = .ok (.isub, 1) := by decide +kernel
theorem dX5_distance_17 : decode cX5_distance 17 = .ok (.invokestatic 63, 3) := by decide +kernel
theorem dX5_distance_20 : decode cX5_distance 20 = .ok (.aload_n 0, 1) := by decide +kernel
theorem dX5_distance_21 : decode cX5_distance 21 = .ok (.getfield 22, 3) := by decide +kernel
theorem dX5_distance_24 : decode cX5_distance 24 = .ok (.iload_n 1, 1) := by decide +kernel
theorem dX5_distance_25 : decode cX5_distance 25 = .ok (.invokevirtual 68, 3) := by decide +kernel
theorem dX5_distance_28 : decode cX5_distance 28 = .ok (.aload_n 0, 1) := by decide +kernel
theorem dX5_distance_29 : decode cX5_distance 29 = .ok (.getfield 22, 3) := by decide +kernel
theorem dX5_distance_32 : decode cX5_distance 32 = .ok (.iload_n 2, 1) := by decide +kernel
theorem dX5_distance_33 : decode cX5_distance 33 = .ok (.invokevirtual 68, 3) := by decide +kernel
theorem dX5_distance_36 : decode cX5_distance 36 = .ok (.isub, 1) := by decide +kernel
theorem dX5_distance_37 : decode cX5_distance 37 = .ok (.invokestatic 63, 3) := by decide +kernel
theorem dX5_distance_40 : decode cX5_distance 40 = .ok (.iadd, 1) := by decide +kernel
theorem dX5_distance_41 : decode cX5_distance 41 = .ok (.ireturn, 1) := by decide +kernel
end
section
theorem dX6_init_0 : decode cX6_init 0 = .ok (.aload_n 0, 1) := by decide +kernel
theorem dX6_init_1 : decode cX6_init 1 = .ok (.invokespecial 3, 3) := by decide +kernel
theorem dX6_init_4 : decode cX6_init 4 = .ok (.aload_n 0, 1) := by decide +kernel
theorem dX6_init_5 : decode cX6_init 5 = .ok (.bipush 40, 2) := by decide +kernel
theorem dX6_init_7 : decode cX6_init 7 = .ok (.anewarray 9, 3) := by decide +kernel
theorem dX6_init_10 : decode cX6_init 10 = .ok (.putfield 11, 3) := by decide +kernel
theorem dX6_init_13 : decode cX6_init 13 = .ok (.aload_n 0, 1) := by decide +kernel
theorem dX6_init_14 : decode cX6_init 14 = .ok (.iconst 0, 1) := by decide +kernel
theorem dX6_init_15 : decode cX6_init 15 = .ok (.putfield 17, 3) := by decide +kernel
theorem dX6_init_18 : decode cX6_init 18 = .ok (.aload_n 0, 1) := by decide +kernel
theorem dX6_init_19 : decode cX6_init 19 = .ok (.iconst 0, 1) := by decide +kernel
theorem dX6_init_20 : decode cX6_init 20 = .ok (.putfield 21, 3) := by decide +kernel
theorem dX6_init_23 : decode cX6_init 23 = .ok (.iconst 0, 1) := by decide +kernel
theorem dX6_init_24 : decode cX6_init 24 = .ok (.istore_n 1, 1) := by decide +kernel
theorem dX6_init_25 : decode cX6_init 25 = .ok (.iload_n 1, 1) := by decide +kernel
theorem dX6_init_26 : decode cX6_init 26 = .ok (.bipush 40, 2) := by decide +kernel
theorem dX6_init_28 : decode cX6_init 28 = .ok (.if_icmp .ge 22, 3) := by decide +kernel
theorem dX6_init_31 : decode cX6_init 31 = .ok (.aload_n 0, 1) := by decide +kernel
theorem dX6_init_32 : decode cX6_init 32 = .ok (.getfield 11, 3) := by decide +kernel
theorem dX6_init_35 : decode cX6_init 35 = .ok (.iload_n 1, 1) := by decide +kernel
theorem dX6_init_36 : decode cX6_init 36 = .ok (.new 9, 3) := by decide +kernel
theorem dX6_init_39 : decode cX6_init 39 = .ok (.dup, 1) := by decide +kernel
theorem dX6_init_40 : decode cX6_init 40 = .ok (.invokespecial 24, 3) := by decide +kernel
theorem dX6_init_43 : decode cX6_init 43 = .ok (.aastore, 1) := by decide +kernel
theorem dX6_init_44 : decode cX6_init 44 = .ok (.iinc 1 1, 3) := by decide +kernel
theorem dX6_init_47 : decode cX6_init 47 = .ok (.goto (-22), 3) := by decide +kernel
theorem dX6_init_50 : decode cX6_init 50 = .ok (.return_, 1) := by decide +kernel
theorem dX6_clear_0 : decode cX6_clear 0 = .ok (.aload_n 0, 1) := by decide +kernel
theorem dX6_clear_1 : decode cX6_clear 1 = .ok (.iconst 0, 1) := by decide +kernel
theorem dX6_clear_2 : decode cX6_clear 2 = .ok (.putfield 21, 3) := by decide +kernel
theorem dX6_clear_5 : decode cX6_clear 5 = .ok (.return_, 1) := by decide +kernel
theorem dX6_keep_0 : decode cX6_keep 0 = .ok (.aload_n 0, 1) := by decide +kernel
theorem dX6_keep_1 : decode cX6_keep 1 = .ok (.aload_n 0, 1) := by decide +kernel
theorem dX6_keep_2 : decode cX6_keep 2 = .ok (.getfield 17, 3) := by decide +kernel
theorem dX6_keep_5 : decode cX6_keep 5 = .ok (.iconst 1, 1) := by decide +kernel
theorem dX6_keep_6 : decode cX6_keep 6 = .ok (.iadd, 1) := by decide +kernel
theorem dX6_keep_7 : decode cX6_keep 7 = .ok (.bipush 40, 2) := by decide +kernel
theorem dX6_keep_9 : decode cX6_keep 9 = .ok (.irem, 1) := by decide +kernel
theorem dX6_keep_10 : decode cX6_keep 10 = .ok (.putfield 17, 3) := by decide +kernel
theorem dX6_keep_13 : decode cX6_keep 13 = .ok (.aload_n 0, 1) := by decide +kernel
theorem dX6_keep_14 : decode cX6_keep 14 = .ok (.getfield 11, 3) := by decide +kernel
theorem dX6_keep_17 : decode cX6_keep 17 = .ok (.aload_n 0, 1) := by decide +kernel
theorem dX6_keep_18 : decode cX6_keep 18 = .ok (.getfield 17, 3) := by decide +kernel
theorem dX6_keep_21 : decode cX6_keep 21 = .ok (.aaload, 1) := by decide +kernel
theorem dX6_keep_22 : decode cX6_keep 22 = .ok (.aload_n 1, 1) := by decide +kernel
theorem dX6_keep_23 : decode cX6_keep 23 = .ok (.invokevirtual 25, 3) := by decide +kernel
theorem dX6_keep_26 : decode cX6_keep 26 = .ok (.aload_n 0, 1) := by decide +kernel
theorem dX6_keep_27 : decode cX6_keep 27 = .ok (.aload_n 0, 1) := by decide +kernel
theorem dX6_keep_28 : decode cX6_keep 28 = .ok (.getfield 21, 3) := by decide +kernel
theorem dX6_keep_31 : decode cX6_keep 31 = .ok (.iconst 1, 1) := by decide +kernel
theorem dX6_keep_32 : decode cX6_keep 32 = .ok (.iadd, 1) := by decide +kernel
theorem dX6_keep_33 : decode cX6_keep 33 = .ok (.bipush 40, 2) := by decide +kernel
theorem dX6_keep_35 : decode cX6_keep 35 = .ok (.invokestatic 29, 3) := by decide +kernel
theorem dX6_keep_38 : decode cX6_keep 38 = .ok (.putfield 21, 3) := by decide +kernel
theorem dX6_keep_41 : decode cX6_keep 41 = .ok (.return_, 1) := by decide +kernel
theorem dX6_takeBack_0 : decode cX6_takeBack 0 = .ok (.aload_n 0, 1) := by decide +kernel
theorem dX6_takeBack_1 : decode cX6_takeBack 1 = .ok (.getfield 21, 3) := by decide +kernel
theorem dX6_takeBack_4 : decode cX6_takeBack 4 = .ok (.ifCond .ne 5, 3) := by decide +kernel
theorem dX6_takeBack_7 : decode cX6_takeBack 7 = .ok (.iconst 0, 1) := by decide +kernel
theorem dX6_takeBack_8 : decode cX6_takeBack 8 = .ok (.ireturn, 1) := by decide +kernel
theorem dX6_takeBack_9 : decode cX6_takeBack 9 = .ok (.aload_n 1, 1) := by decide +kernel
theorem dX6_takeBack_10 : decode cX6_takeBack 10 = .ok (.aload_n 0, 1) := by decide +kernel
theorem dX6_takeBack_11 : decode cX6_takeBack 11 = .ok (.getfield 11, 3) := by decide +kernel
theorem dX6_takeBack_14 : decode cX6_takeBack 14 = .ok (.aload_n 0, 1) := by decide +kernel
theorem dX6_takeBack_15 : decode cX6_takeBack 15 = .ok (.getfield 17, 3) := by decide +kernel
theorem dX6_takeBack_18 : decode cX6_takeBack 18 = .ok (.aaload, 1) := by decide +kernel
theorem dX6_takeBack_19 : decode cX6_takeBack 19 = .ok (.invokevirtual 25, 3) := by decide +kernel
theorem dX6_takeBack_22 : decode cX6_takeBack 22 = .ok (.aload_n 0, 1) := by decide +kernel
theorem dX6_takeBack_23 : decode cX6_takeBack 23 = .ok (.aload_n 0, 1) := by decide +kernel
theorem dX6_takeBack_24 : decode cX6_takeBack 24 = .ok (.getfield 17, 3) := by decide +kernel
theorem dX6_takeBack_27 : decode cX6_takeBack 27 = .ok (.bipush 40, 2) := by decide +kernel
theorem dX6_takeBack_29 : decode cX6_takeBack 29 = .ok (.iadd, 1) := by decide +kernel
theorem dX6_takeBack_30 : decode cX6_takeBack 30 = .ok (.iconst 1, 1) := by decide +kernel
theorem dX6_takeBack_31 : decode cX6_takeBack 31 = .ok (.isub, 1) := by decide +kernel
theorem dX6_takeBack_32 : decode cX6_takeBack 32 = .ok (.bipush 40, 2) := by decide +kernel
theorem dX6_takeBack_34 : decode cX6_takeBack 34 = .ok (.irem, 1) := by decide +kernel
theorem dX6_takeBack_35 : decode cX6_takeBack 35 = .ok (.putfield 17, 3) := by decide +kernel
theorem dX6_takeBack_38 : decode cX6_takeBack 38 = .ok (.aload_n 0, 1) := by decide +kernel
theorem dX6_takeBack_39 : decode cX6_takeBack 39 = .ok (.dup, 1) := by decide +kernel
theorem dX6_takeBack_40 : decode cX6_takeBack 40 = .ok (.getfield 21, 3) := by decide +kernel
theorem dX6_takeBack_43 : decode cX6_takeBack 43 = .ok (.iconst 1, 1) := by decide +kernel
theorem dX6_takeBack_44 : decode cX6_takeBack 44 = .ok (.isub, 1) := by decide +kernel
theorem dX6_takeBack_45 : decode cX6_takeBack 45 = .ok (.putfield 21, 3) := by decide +kernel
theorem dX6_takeBack_48 : decode cX6_takeBack 48 = .ok (.iconst 1, 1) := by decide +kernel
theorem dX6_takeBack_49 : decode cX6_takeBack 49 = .ok (.ireturn, 1) := by decide +kernel
end
