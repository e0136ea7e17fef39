theorem dX8_init_0 : decode cX8_init 0 = .ok (.aload_n 0, 1) := by decide +kernel
theorem dX8_init_1 : decode cX8_init 1 = .ok (.invokespecial 3, 3) := by decide +kernel
theorem dX8_init_4 : decode cX8_init 4 = .ok (.aload_n 0, 1) := by decide +kernel
theorem dX8_init_5 : decode cX8_init 5 = .ok (.iconst 0, 1) := by decide +kernel
theorem dX8_init_6 : decode cX8_init 6 = .ok (.putfield 9, 3) := by decide +kernel
theorem dX8_init_9 : decode cX8_init 9 = .ok (.aload_n 0, 1) := by decide +kernel
theorem dX8_init_10 : decode cX8_init 10 = .ok (.iconst 0, 1) := by decide +kernel
theorem dX8_init_11 : decode cX8_init 11 = .ok (.putfield 15, 3) := by decide +kernel
theorem dX8_init_14 : decode cX8_init 14 = .ok (.aload_n 0, 1) := by decide +kernel
theorem dX8_init_15 : decode cX8_init 15 = .ok (.iconst 0, 1) := by decide +kernel
theorem dX8_init_16 : decode cX8_init 16 = .ok (.putfield 18, 3) := by decide +kernel
theorem dX8_init_19 : decode cX8_init 19 = .ok (.aload_n 0, 1) := by decide +kernel
theorem dX8_init_20 : decode cX8_init 20 = .ok (.iconst 0, 1) := by decide +kernel
theorem dX8_init_21 : decode cX8_init 21 = .ok (.putfield 21, 3) := by decide +kernel
theorem dX8_init_24 : decode cX8_init 24 = .ok (.aload_n 0, 1) := by decide +kernel
theorem dX8_init_25 : decode cX8_init 25 = .ok (.bipush 25, 2) := by decide +kernel
theorem dX8_init_27 : decode cX8_init 27 = .ok (.newarray .byte, 2) := by decide +kernel
theorem dX8_init_29 : decode cX8_init 29 = .ok (.putfield 24, 3) := by decide +kernel
theorem dX8_init_32 : decode cX8_init 32 = .ok (.aload_n 0, 1) := by decide +kernel
theorem dX8_init_33 : decode cX8_init 33 = .ok (.iconst 5, 1) := by decide +kernel
theorem dX8_init_34 : decode cX8_init 34 = .ok (.newarray .int, 2) := by decide +kernel
theorem dX8_init_36 : decode cX8_init 36 = .ok (.putfield 28, 3) := by decide +kernel
theorem dX8_init_39 : decode cX8_init 39 = .ok (.aload_n 0, 1) := by decide +kernel
theorem dX8_init_40 : decode cX8_init 40 = .ok (.iconst 5, 1) := by decide +kernel
theorem dX8_init_41 : decode cX8_init 41 = .ok (.newarray .int, 2) := by decide +kernel
theorem dX8_init_43 : decode cX8_init 43 = .ok (.putfield 32, 3) := by decide +kernel
theorem dX8_init_46 : decode cX8_init 46 = .ok (.return_, 1) := by decide +kernel
theorem dX8_clear_0 : decode cX8_clear 0 = .ok (.aload_n 0, 1) := by decide +kernel
theorem dX8_clear_1 : decode cX8_clear 1 = .ok (.iconst 0, 1) := by decide +kernel
theorem dX8_clear_2 : decode cX8_clear 2 = .ok (.putfield 9, 3) := by decide +kernel
theorem dX8_clear_5 : decode cX8_clear 5 = .ok (.aload_n 0, 1) := by decide +kernel
theorem dX8_clear_6 : decode cX8_clear 6 = .ok (.iconst 0, 1) := by decide +kernel
theorem dX8_clear_7 : decode cX8_clear 7 = .ok (.putfield 15, 3) := by decide +kernel
theorem dX8_clear_10 : decode cX8_clear 10 = .ok (.aload_n 0, 1) := by decide +kernel
theorem dX8_clear_11 : decode cX8_clear 11 = .ok (.iconst 0, 1) := by decide +kernel
theorem dX8_clear_12 : decode cX8_clear 12 = .ok (.putfield 18, 3) := by decide +kernel
theorem dX8_clear_15 : decode cX8_clear 15 = .ok (.aload_n 0, 1) := by decide +kernel
theorem dX8_clear_16 : decode cX8_clear 16 = .ok (.iconst 0, 1) := by decide +kernel
theorem dX8_clear_17 : decode cX8_clear 17 = .ok (.putfield 21, 3) := by decide +kernel
theorem dX8_clear_20 : decode cX8_clear 20 = .ok (.aload_n 0, 1) := by decide +kernel
theorem dX8_clear_21 : decode cX8_clear 21 = .ok (.getfield 32, 3) := by decide +kernel
theorem dX8_clear_24 : decode cX8_clear 24 = .ok (.iconst 0, 1) := by decide +kernel
theorem dX8_clear_25 : decode cX8_clear 25 = .ok (.invokestatic 35, 3) := by decide +kernel
theorem dX8_clear_28 : decode cX8_clear 28 = .ok (.return_, 1) := by decide +kernel
theorem dX8_become_0 : decode cX8_become 0 = .ok (.aload_n 0, 1) := by decide +kernel
theorem dX8_become_1 : decode cX8_become 1 = .ok (.aload_n 1, 1) := by decide +kernel
theorem dX8_become_2 : decode cX8_become 2 = .ok (.getfield 9, 3) := by decide +kernel
theorem dX8_become_5 : decode cX8_become 5 = .ok (.putfield 9, 3) := by decide +kernel
theorem dX8_become_8 : decode cX8_become 8 = .ok (.aload_n 0, 1) := by decide +kernel
theorem dX8_become_9 : decode cX8_become 9 = .ok (.aload_n 1, 1) := by decide +kernel
theorem dX8_become_10 : decode cX8_become 10 = .ok (.getfield 15, 3) := by decide +kernel
theorem dX8_become_13 : decode cX8_become 13 = .ok (.putfield 15, 3) := by decide +kernel
theorem dX8_become_16 : decode cX8_become 16 = .ok (.aload_n 0, 1) := by decide +kernel
theorem dX8_become_17 : decode cX8_become 17 = .ok (.aload_n 1, 1) := by decide +kernel
theorem dX8_become_18 : decode cX8_become 18 = .ok (.getfield 18, 3) := by decide +kernel
theorem dX8_become_21 : decode cX8_become 21 = .ok (.putfield 18, 3) := by decide +kernel
theorem dX8_become_24 : decode cX8_become 24 = .ok (.aload_n 0, 1) := by decide +kernel
theorem dX8_become_25 : decode cX8_become 25 = .ok (.aload_n 1, 1) := by decide +kernel
theorem dX8_become_26 : decode cX8_become 26 = .ok (.getfield 21, 3) := by decide +kernel
theorem dX8_become_29 : decode cX8_become 29 = .ok (.putfield 21, 3) := by decide +kernel
theorem dX8_become_32 : decode cX8_become 32 = .ok (.aload_n 1, 1) := by decide +kernel
theorem dX8_become_33 : decode cX8_become 33 = .ok (.getfield 24, 3) := by decide +kernel
theorem dX8_become_36 : decode cX8_become 36 = .ok (.iconst 0, 1) := by decide +kernel
theorem dX8_become_37 : decode cX8_become 37 = .ok (.aload_n 0, 1) := by decide +kernel
theorem dX8_become_38 : decode cX8_become 38 = .ok (.getfield 24, 3) := by decide +kernel
theorem dX8_become_41 : decode cX8_become 41 = .ok (.iconst 0, 1) := by decide +kernel
theorem dX8_become_42 : decode cX8_become 42 = .ok (.bipush 25, 2) := by decide +kernel
theorem dX8_become_44 : decode cX8_become 44 = .ok (.invokestatic 41, 3) := by decide +kernel
theorem dX8_become_47 : decode cX8_become 47 = .ok (.aload_n 1, 1) := by decide +kernel
theorem dX8_become_48 : decode cX8_become 48 = .ok (.getfield 28, 3) := by decide +kernel
theorem dX8_become_51 : decode cX8_become 51 = .ok (.iconst 0, 1) := by decide +kernel
theorem dX8_become_52 : decode cX8_become 52 = .ok (.aload_n 0, 1) := by decide +kernel
theorem dX8_become_53 : decode cX8_become 53 = .ok (.getfield 28, 3) := by decide +kernel
theorem dX8_become_56 : decode cX8_become 56 = .ok (.iconst 0, 1) := by decide +kernel
theorem dX8_become_57 : decode cX8_become 57 = .ok (.iconst 5, 1) := by decide +kernel
theorem dX8_become_58 : decode cX8_become 58 = .ok (.invokestatic 41, 3) := by decide +kernel
theorem dX8_become_61 : decode cX8_become 61 = .ok (.aload_n 1, 1) := by decide +kernel
theorem dX8_become_62 : decode cX8_become 62 = .ok (.getfield 32, 3) := by decide +kernel
theorem dX8_become_65 : decode cX8_become 65 = .ok (.iconst 0, 1) := by decide +kernel
theorem dX8_become_66 : decode cX8_become 66 = .ok (.aload_n 0, 1) := by decide +kernel
theorem dX8_become_67 : decode cX8_become 67 = .ok (.getfield 32, 3) := by decide +kernel
theorem dX8_become_70 : decode cX8_become 70 = .ok (.iconst 0, 1) := by decide +kernel
theorem dX8_become_71 : decode cX8_become 71 = .ok (.iconst 5, 1) := by decide +kernel
theorem dX8_become_72 : decode cX8_become 72 = .ok (.invokestatic 41, 3) := by decide +kernel
theorem dX8_become_75 : decode cX8_become 75 = .ok (.return_, 1) := by decide +kernel
theorem dX8_isTuned_0 : decode cX8_isTuned 0 = .ok (.iload_n 1, 1) := by decide +kernel
theorem dX8_isTuned_1 : decode cX8_isTuned 1 = .ok (.ifCond .lt 24, 3) := by decide +kernel
theorem dX8_isTuned_4 : decode cX8_isTuned 4 = .ok (.iload_n 1, 1) := by decide +kernel
theorem dX8_isTuned_5 : decode cX8_isTuned 5 = .ok (.bipush 25, 2) := by decide +kernel
theorem dX8_isTuned_7 : decode cX8_isTuned 7 = .ok (.if_icmp .ge 18, 3) := by decide +kernel
theorem dX8_isTuned_10 : decode cX8_isTuned 10 = .ok (.aload_n 0, 1) := by decide +kernel
theorem dX8_isTuned_11 : decode cX8_isTuned 11 = .ok (.getfield 21, 3) := by decide +kernel
theorem dX8_isTuned_14 : decode cX8_isTuned 14 = .ok (.iload_n 1, 1) := by decide +kernel
theorem dX8_isTuned_15 : decode cX8_isTuned 15 = .ok (.iushr, 1) := by decide +kernel
theorem dX8_isTuned_16 : decode cX8_isTuned 16 = .ok (.iconst 1, 1) := by decide +kernel
theorem dX8_isTuned_17 : decode cX8_isTuned 17 = .ok (.iand, 1) := by decide +kernel
theorem dX8_isTuned_18 : decode cX8_isTuned 18 = .ok (.ifCond .eq 7, 3) := by decide +kernel
theorem dX8_isTuned_21 : decode cX8_isTuned 21 = .ok (.iconst 1, 1) := by decide +kernel
theorem dX8_isTuned_22 : decode cX8_isTuned 22 = .ok (.goto 4, 3) := by decide +kernel
theorem dX8_isTuned_25 : decode cX8_isTuned 25 = .ok (.iconst 0, 1) := by decide +kernel
theorem dX8_isTuned_26 : decode cX8_isTuned 26 = .ok (.ireturn, 1) := by decide +kernel
theorem dX8_isRoped_0 : decode cX8_isRoped 0 = .ok (.aload_n 0, 1) := by decide +kernel
theorem dX8_isRoped_1 : decode cX8_isRoped 1 = .ok (.getfield 18, 3) := by decide +kernel
theorem dX8_isRoped_4 : decode cX8_isRoped 4 = .ok (.iload_n 1, 1) := by decide +kernel
theorem dX8_isRoped_5 : decode cX8_isRoped 5 = .ok (.iushr, 1) := by decide +kernel
theorem dX8_isRoped_6 : decode cX8_isRoped 6 = .ok (.iconst 1, 1) := by decide +kernel
theorem dX8_isRoped_7 : decode cX8_isRoped 7 = .ok (.iand, 1) := by decide +kernel
theorem dX8_isRoped_8 : decode cX8_isRoped 8 = .ok (.ifCond .eq 7, 3) := by decide +kernel
theorem dX8_isRoped_11 : decode cX8_isRoped 11 = .ok (.iconst 1, 1) := by decide +kernel
theorem dX8_isRoped_12 : decode cX8_isRoped 12 = .ok (.goto 4, 3) := by decide +kernel
theorem dX8_isRoped_15 : decode cX8_isRoped 15 = .ok (.iconst 0, 1) := by decide +kernel
theorem dX8_isRoped_16 : decode cX8_isRoped 16 = .ok (.ireturn, 1) := by decide +kernel
theorem dX8_beatOf_0 : decode cX8_beatOf 0 = .ok (.aload_n 0, 1) := by decide +kernel
theorem dX8_beatOf_1 : decode cX8_beatOf 1 = .ok (.iload_n 1, 1) := by decide +kernel
theorem dX8_beatOf_2 : decode cX8_beatOf 2 = .ok (.invokevirtual 47, 3) := by decide +kernel
theorem dX8_beatOf_5 : decode cX8_beatOf 5 = .ok (.ifCond .eq 14, 3) := by decide +kernel
theorem dX8_beatOf_8 : decode cX8_beatOf 8 = .ok (.aload_n 0, 1) := by decide +kernel
theorem dX8_beatOf_9 : decode cX8_beatOf 9 = .ok (.getfield 24, 3) := by decide +kernel
theorem dX8_beatOf_12 : decode cX8_beatOf 12 = .ok (.iload_n 1, 1) := by decide +kernel
theorem dX8_beatOf_13 : decode cX8_beatOf 13 = .ok (.baload, 1) := by decide +kernel
theorem dX8_beatOf_14 : decode cX8_beatOf 14 = .ok (.iconst 3, 1) := by decide +kernel
theorem dX8_beatOf_15 : decode cX8_beatOf 15 = .ok (.ishr, 1) := by decide +kernel
theorem dX8_beatOf_16 : decode cX8_beatOf 16 = .ok (.goto 4, 3) := by decide +kernel
theorem dX8_beatOf_19 : decode cX8_beatOf 19 = .ok (.iconst 0, 1) := by decide +kernel
theorem dX8_beatOf_20 : decode cX8_beatOf 20 = .ok (.ireturn, 1) := by decide +kernel
theorem dX8_offsetOf_0 : decode cX8_offsetOf 0 = .ok (.aload_n 0, 1) := by decide +kernel
theorem dX8_offsetOf_1 : decode cX8_offsetOf 1 = .ok (.iload_n 1, 1) := by decide +kernel
theorem dX8_offsetOf_2 : decode cX8_offsetOf 2 = .ok (.invokevirtual 47, 3) := by decide +kernel
theorem dX8_offsetOf_5 : decode cX8_offsetOf 5 = .ok (.ifCond .eq 15, 3) := by decide +kernel
theorem dX8_offsetOf_8 : decode cX8_offsetOf 8 = .ok (.aload_n 0, 1) := by decide +kernel
theorem dX8_offsetOf_9 : decode cX8_offsetOf 9 = .ok (.getfield 24, 3) := by decide +kernel
theorem dX8_offsetOf_12 : decode cX8_offsetOf 12 = .ok (.iload_n 1, 1) := by decide +kernel
theorem dX8_offsetOf_13 : decode cX8_offsetOf 13 = .ok (.baload, 1) := by decide +kernel
theorem dX8_offsetOf_14 : decode cX8_offsetOf 14 = .ok (.bipush 7, 2) := by decide +kernel
theorem dX8_offsetOf_16 : decode cX8_offsetOf 16 = .ok (.iand, 1) := by decide +kernel
theorem dX8_offsetOf_17 : decode cX8_offsetOf 17 = .ok (.goto 4, 3) := by decide +kernel
theorem dX8_offsetOf_20 : decode cX8_offsetOf 20 = .ok (.iconst 0, 1) := by decide +kernel
theorem dX8_offsetOf_21 : decode cX8_offsetOf 21 = .ok (.ireturn, 1) := by decide +kernel
theorem dX8_soundIn_0 : decode cX8_soundIn 0 = .ok (.iload_n 1, 1) := by decide +kernel
theorem dX8_soundIn_1 : decode cX8_soundIn 1 = .ok (.ifCond .lt 34, 3) := by decide +kernel
theorem dX8_soundIn_4 : decode cX8_soundIn 4 = .ok (.iload_n 1, 1) := by decide +kernel
theorem dX8_soundIn_5 : decode cX8_soundIn 5 = .ok (.bipush 25, 2) := by decide +kernel
theorem dX8_soundIn_7 : decode cX8_soundIn 7 = .ok (.if_icmp .ge 28, 3) := by decide +kernel
theorem dX8_soundIn_10 : decode cX8_soundIn 10 = .ok (.aload_n 0, 1) := by decide +kernel
theorem dX8_soundIn_11 : decode cX8_soundIn 11 = .ok (.getfield 24, 3) := by decide +kernel
theorem dX8_soundIn_14 : decode cX8_soundIn 14 = .ok (.iload_n 1, 1) := by decide +kernel
theorem dX8_soundIn_15 : decode cX8_soundIn 15 = .ok (.bipush 8, 2) := by decide +kernel
theorem dX8_soundIn_17 : decode cX8_soundIn 17 = .ok (.iload_n 2, 1) := by decide +kernel
theorem dX8_soundIn_18 : decode cX8_soundIn 18 = .ok (.imul, 1) := by decide +kernel
theorem dX8_soundIn_19 : decode cX8_soundIn 19 = .ok (.iload_n 3, 1) := by decide +kernel
theorem dX8_soundIn_20 : decode cX8_soundIn 20 = .ok (.iadd, 1) := by decide +kernel
theorem dX8_soundIn_21 : decode cX8_soundIn 21 = .ok (.i2b, 1) := by decide +kernel
theorem dX8_soundIn_22 : decode cX8_soundIn 22 = .ok (.bastore, 1) := by decide +kernel
theorem dX8_soundIn_23 : decode cX8_soundIn 23 = .ok (.aload_n 0, 1) := by decide +kernel
theorem dX8_soundIn_24 : decode cX8_soundIn 24 = .ok (.dup, 1) := by decide +kernel
theorem dX8_soundIn_25 : decode cX8_soundIn 25 = .ok (.getfield 21, 3) := by decide +kernel
theorem dX8_soundIn_28 : decode cX8_soundIn 28 = .ok (.iconst 1, 1) := by decide +kernel
theorem dX8_soundIn_29 : decode cX8_soundIn 29 = .ok (.iload_n 1, 1) := by decide +kernel
theorem dX8_soundIn_30 : decode cX8_soundIn 30 = .ok (.ishl, 1) := by decide +kernel
theorem dX8_soundIn_31 : decode cX8_soundIn 31 = .ok (.ior, 1) := by decide +kernel
theorem dX8_soundIn_32 : decode cX8_soundIn 32 = .ok (.putfield 21, 3) := by decide +kernel
theorem dX8_soundIn_35 : decode cX8_soundIn 35 = .ok (.return_, 1) := by decide +kernel
theorem dX8_soundFromTheLeft_0 : decode cX8_soundFromTheLeft 0 = .ok (.aload_n 0, 1) := by decide +kernel
theorem dX8_soundFromTheLeft_1 : decode cX8_soundFromTheLeft 1 = .ok (.iload_n 1, 1) := by decide +kernel
theorem dX8_soundFromTheLeft_2 : decode cX8_soundFromTheLeft 2 = .ok (.iconst 1, 1) := by decide +kernel
theorem dX8_soundFromTheLeft_3 : decode cX8_soundFromTheLeft 3 = .ok (.isub, 1) := by decide +kernel
theorem dX8_soundFromTheLeft_4 : decode cX8_soundFromTheLeft 4 = .ok (.invokevirtual 51, 3) := by decide +kernel
theorem dX8_soundFromTheLeft_7 : decode cX8_soundFromTheLeft 7 = .ok (.istore_n 2, 1) := by decide +kernel
theorem dX8_soundFromTheLeft_8 : decode cX8_soundFromTheLeft 8 = .ok (.iload_n 2, 1) := by decide +kernel
theorem dX8_soundFromTheLeft_9 : decode cX8_soundFromTheLeft 9 = .ok (.ifCond .le 20, 3) := by decide +kernel
theorem dX8_soundFromTheLeft_12 : decode cX8_soundFromTheLeft 12 = .ok (.aload_n 0, 1) := by decide +kernel
theorem dX8_soundFromTheLeft_13 : decode cX8_soundFromTheLeft 13 = .ok (.iload_n 1, 1) := by decide +kernel
theorem dX8_soundFromTheLeft_14 : decode cX8_soundFromTheLeft 14 = .ok (.iload_n 2, 1) := by decide +kernel
theorem dX8_soundFromTheLeft_15 : decode cX8_soundFromTheLeft 15 = .ok (.aload_n 0, 1) := by decide +kernel
theorem dX8_soundFromTheLeft_16 : decode cX8_soundFromTheLeft 16 = .ok (.iload_n 1, 1) := by decide +kernel
theorem dX8_soundFromTheLeft_17 : decode cX8_soundFromTheLeft 17 = .ok (.iconst 1, 1) := by decide +kernel
theorem dX8_soundFromTheLeft_18 : decode cX8_soundFromTheLeft 18 = .ok (.isub, 1) := by decide +kernel
theorem dX8_soundFromTheLeft_19 : decode cX8_soundFromTheLeft 19 = .ok (.invokevirtual 55, 3) := by decide +kernel
theorem dX8_soundFromTheLeft_22 : decode cX8_soundFromTheLeft 22 = .ok (.iconst 1, 1) := by decide +kernel
theorem dX8_soundFromTheLeft_23 : decode cX8_soundFromTheLeft 23 = .ok (.iadd, 1) := by decide +kernel
theorem dX8_soundFromTheLeft_24 : decode cX8_soundFromTheLeft 24 = .ok (.iload_n 2, 1) := by decide +kernel
theorem dX8_soundFromTheLeft_25 : decode cX8_soundFromTheLeft 25 = .ok (.irem, 1) := by decide +kernel
theorem dX8_soundFromTheLeft_26 : decode cX8_soundFromTheLeft 26 = .ok (.invokevirtual 58, 3) := by decide +kernel
theorem dX8_soundFromTheLeft_29 : decode cX8_soundFromTheLeft 29 = .ok (.return_, 1) := by decide +kernel
theorem dX8_hush_0 : decode cX8_hush 0 = .ok (.aload_n 0, 1) := by decide +kernel
theorem dX8_hush_1 : decode cX8_hush 1 = .ok (.dup, 1) := by decide +kernel
theorem dX8_hush_2 : decode cX8_hush 2 = .ok (.getfield 21, 3) := by decide +kernel
theorem dX8_hush_5 : decode cX8_hush 5 = .ok (.iconst 1, 1) := by decide +kernel
theorem dX8_hush_6 : decode cX8_hush 6 = .ok (.iload_n 1, 1) := by decide +kernel
theorem dX8_hush_7 : decode cX8_hush 7 = .ok (.ishl, 1) := by decide +kernel
theorem dX8_hush_8 : decode cX8_hush 8 = .ok (.iconst (-1), 1) := by decide +kernel
theorem dX8_hush_9 : decode cX8_hush 9 = .ok (.ixor, 1) := by decide +kernel
theorem dX8_hush_10 : decode cX8_hush 10 = .ok (.iand, 1) := by decide +kernel
theorem dX8_hush_11 : decode cX8_hush 11 = .ok (.putfield 21, 3) := by decide +kernel
theorem dX8_hush_14 : decode cX8_hush 14 = .ok (.return_, 1) := by decide +kernel
theorem dX8_soundsAt_0 : decode cX8_soundsAt 0 = .ok (.aload_n 0, 1) := by decide +kernel
theorem dX8_soundsAt_1 : decode cX8_soundsAt 1 = .ok (.iload_n 1, 1) := by decide +kernel
theorem dX8_soundsAt_2 : decode cX8_soundsAt 2 = .ok (.invokevirtual 51, 3) := by decide +kernel
theorem dX8_soundsAt_5 : decode cX8_soundsAt 5 = .ok (.istore_n 3, 1) := by decide +kernel
theorem dX8_soundsAt_6 : decode cX8_soundsAt 6 = .ok (.iload_n 3, 1) := by decide +kernel
theorem dX8_soundsAt_7 : decode cX8_soundsAt 7 = .ok (.ifCond .le 18, 3) := by decide +kernel
theorem dX8_soundsAt_10 : decode cX8_soundsAt 10 = .ok (.iload_n 2, 1) := by decide +kernel
theorem dX8_soundsAt_11 : decode cX8_soundsAt 11 = .ok (.iload_n 3, 1) := by decide +kernel
theorem dX8_soundsAt_12 : decode cX8_soundsAt 12 = .ok (.irem, 1) := by decide +kernel
theorem dX8_soundsAt_13 : decode cX8_soundsAt 13 = .ok (.aload_n 0, 1) := by decide +kernel
theorem dX8_soundsAt_14 : decode cX8_soundsAt 14 = .ok (.iload_n 1, 1) := by decide +kernel
theorem dX8_soundsAt_15 : decode cX8_soundsAt 15 = .ok (.invokevirtual 55, 3) := by decide +kernel
theorem dX8_soundsAt_18 : decode cX8_soundsAt 18 = .ok (.if_icmp .ne 7, 3) := by decide +kernel
theorem dX8_soundsAt_21 : decode cX8_soundsAt 21 = .ok (.iconst 1, 1) := by decide +kernel
theorem dX8_soundsAt_22 : decode cX8_soundsAt 22 = .ok (.goto 4, 3) := by decide +kernel
theorem dX8_soundsAt_25 : decode cX8_soundsAt 25 = .ok (.iconst 0, 1) := by decide +kernel
theorem dX8_soundsAt_26 : decode cX8_soundsAt 26 = .ok (.ireturn, 1) := by decide +kernel
theorem dX8_loudAt_0 : decode cX8_loudAt 0 = .ok (.iconst 0, 1) := by decide +kernel
theorem dX8_loudAt_1 : decode cX8_loudAt 1 = .ok (.istore_n 2, 1) := by decide +kernel
theorem dX8_loudAt_2 : decode cX8_loudAt 2 = .ok (.iconst 0, 1) := by decide +kernel
theorem dX8_loudAt_3 : decode cX8_loudAt 3 = .ok (.istore_n 3, 1) := by decide +kernel
theorem dX8_loudAt_4 : decode cX8_loudAt 4 = .ok (.aload_n 0, 1) := by decide +kernel
theorem dX8_loudAt_5 : decode cX8_loudAt 5 = .ok (.getfield 21, 3) := by decide +kernel
theorem dX8_loudAt_8 : decode cX8_loudAt 8 = .ok (.istore 4, 2) := by decide +kernel
theorem dX8_loudAt_10 : decode cX8_loudAt 10 = .ok (.iload_n 3, 1) := by decide +kernel
theorem dX8_loudAt_11 : decode cX8_loudAt 11 = .ok (.bipush 25, 2) := by decide +kernel
theorem dX8_loudAt_13 : decode cX8_loudAt 13 = .ok (.if_icmp .ge 45, 3) := by decide +kernel
theorem dX8_loudAt_16 : decode cX8_loudAt 16 = .ok (.iload 4, 2) := by decide +kernel
theorem dX8_loudAt_18 : decode cX8_loudAt 18 = .ok (.ifCond .eq 40, 3) := by decide +kernel
theorem dX8_loudAt_21 : decode cX8_loudAt 21 = .ok (.aload_n 0, 1) := by decide +kernel
theorem dX8_loudAt_22 : decode cX8_loudAt 22 = .ok (.iload 4, 2) := by decide +kernel
theorem dX8_loudAt_24 : decode cX8_loudAt 24 = .ok (.invokestatic 62, 3) := by decide +kernel
theorem dX8_loudAt_27 : decode cX8_loudAt 27 = .ok (.iload_n 1, 1) := by decide +kernel
theorem dX8_loudAt_28 : decode cX8_loudAt 28 = .ok (.invokevirtual 65, 3) := by decide +kernel
theorem dX8_loudAt_31 : decode cX8_loudAt 31 = .ok (.ifCond .eq 12, 3) := by decide +kernel
theorem dX8_loudAt_34 : decode cX8_loudAt 34 = .ok (.iload_n 2, 1) := by decide +kernel
theorem dX8_loudAt_35 : decode cX8_loudAt 35 = .ok (.iload 4, 2) := by decide +kernel
theorem dX8_loudAt_37 : decode cX8_loudAt 37 = .ok (.iload 4, 2) := by decide +kernel
theorem dX8_loudAt_39 : decode cX8_loudAt 39 = .ok (.ineg, 1) := by decide +kernel
theorem dX8_loudAt_40 : decode cX8_loudAt 40 = .ok (.iand, 1) := by decide +kernel
theorem dX8_loudAt_41 : decode cX8_loudAt 41 = .ok (.ior, 1) := by decide +kernel
theorem dX8_loudAt_42 : decode cX8_loudAt 42 = .ok (.istore_n 2, 1) := by decide +kernel
theorem dX8_loudAt_43 : decode cX8_loudAt 43 = .ok (.iinc 3 1, 3) := by decide +kernel
theorem dX8_loudAt_46 : decode cX8_loudAt 46 = .ok (.iload 4, 2) := by decide +kernel
theorem dX8_loudAt_48 : decode cX8_loudAt 48 = .ok (.iload 4, 2) := by decide +kernel
theorem dX8_loudAt_50 : decode cX8_loudAt 50 = .ok (.iconst 1, 1) := by decide +kernel
theorem dX8_loudAt_51 : decode cX8_loudAt 51 = .ok (.isub, 1) := by decide +kernel
theorem dX8_loudAt_52 : decode cX8_loudAt 52 = .ok (.iand, 1) := by decide +kernel
theorem dX8_loudAt_53 : decode cX8_loudAt 53 = .ok (.istore 4, 2) := by decide +kernel
theorem dX8_loudAt_55 : decode cX8_loudAt 55 = .ok (.goto (-45), 3) := by decide +kernel
theorem dX8_loudAt_58 : decode cX8_loudAt 58 = .ok (.iload_n 2, 1) := by decide +kernel
theorem dX8_loudAt_59 : decode cX8_loudAt 59 = .ok (.ireturn, 1) := by decide +kernel
theorem dX8_allTunesDivide_0 : decode cX8_allTunesDivide 0 = .ok (.iconst 0, 1) := by decide +kernel
theorem dX8_allTunesDivide_1 : decode cX8_allTunesDivide 1 = .ok (.istore_n 2, 1) := by decide +kernel
theorem dX8_allTunesDivide_2 : decode cX8_allTunesDivide 2 = .ok (.aload_n 0, 1) := by decide +kernel
theorem dX8_allTunesDivide_3 : decode cX8_allTunesDivide 3 = .ok (.getfield 21, 3) := by decide +kernel
theorem dX8_allTunesDivide_6 : decode cX8_allTunesDivide 6 = .ok (.istore_n 3, 1) := by decide +kernel
theorem dX8_allTunesDivide_7 : decode cX8_allTunesDivide 7 = .ok (.iload_n 2, 1) := by decide +kernel
theorem dX8_allTunesDivide_8 : decode cX8_allTunesDivide 8 = .ok (.bipush 25, 2) := by decide +kernel
theorem dX8_allTunesDivide_10 : decode cX8_allTunesDivide 10 = .ok (.if_icmp .ge 43, 3) := by decide +kernel
theorem dX8_allTunesDivide_13 : decode cX8_allTunesDivide 13 = .ok (.iload_n 3, 1) := by decide +kernel
theorem dX8_allTunesDivide_14 : decode cX8_allTunesDivide 14 = .ok (.ifCond .eq 39, 3) := by decide +kernel
theorem dX8_allTunesDivide_17 : decode cX8_allTunesDivide 17 = .ok (.aload_n 0, 1) := by decide +kernel
theorem dX8_allTunesDivide_18 : decode cX8_allTunesDivide 18 = .ok (.iload_n 3, 1) := by decide +kernel
theorem dX8_allTunesDivide_19 : decode cX8_allTunesDivide 19 = .ok (.invokestatic 62, 3) := by decide +kernel
theorem dX8_allTunesDivide_22 : decode cX8_allTunesDivide 22 = .ok (.invokevirtual 51, 3) := by decide +kernel
theorem dX8_allTunesDivide_25 : decode cX8_allTunesDivide 25 = .ok (.istore 4, 2) := by decide +kernel
theorem dX8_allTunesDivide_27 : decode cX8_allTunesDivide 27 = .ok (.iload 4, 2) := by decide +kernel
theorem dX8_allTunesDivide_29 : decode cX8_allTunesDivide 29 = .ok (.ifCond .le 12, 3) := by decide +kernel
theorem dX8_allTunesDivide_32 : decode cX8_allTunesDivide 32 = .ok (.iload_n 1, 1) := by decide +kernel
theorem dX8_allTunesDivide_33 : decode cX8_allTunesDivide 33 = .ok (.iload 4, 2) := by decide +kernel
theorem dX8_allTunesDivide_35 : decode cX8_allTunesDivide 35 = .ok (.irem, 1) := by decide +kernel
theorem dX8_allTunesDivide_36 : decode cX8_allTunesDivide 36 = .ok (.ifCond .eq 5, 3) := by decide +kernel
theorem dX8_allTunesDivide_39 : decode cX8_allTunesDivide 39 = .ok (.iconst 0, 1) := by decide +kernel
theorem dX8_allTunesDivide_40 : decode cX8_allTunesDivide 40 = .ok (.ireturn, 1) := by decide +kernel
theorem dX8_allTunesDivide_41 : decode cX8_allTunesDivide 41 = .ok (.iinc 2 1, 3) := by decide +kernel
theorem dX8_allTunesDivide_44 : decode cX8_allTunesDivide 44 = .ok (.iload_n 3, 1) := by decide +kernel
theorem dX8_allTunesDivide_45 : decode cX8_allTunesDivide 45 = .ok (.iload_n 3, 1) := by decide +kernel
theorem dX8_allTunesDivide_46 : decode cX8_allTunesDivide 46 = .ok (.iconst 1, 1) := by decide +kernel
theorem dX8_allTunesDivide_47 : decode cX8_allTunesDivide 47 = .ok (.isub, 1) := by decide +kernel
theorem dX8_allTunesDivide_48 : decode cX8_allTunesDivide 48 = .ok (.iand, 1) := by decide +kernel
theorem dX8_allTunesDivide_49 : decode cX8_allTunesDivide 49 = .ok (.istore_n 3, 1) := by decide +kernel
theorem dX8_allTunesDivide_50 : decode cX8_allTunesDivide 50 = .ok (.goto (-43), 3) := by decide +kernel
theorem dX8_allTunesDivide_53 : decode cX8_allTunesDivide 53 = .ok (.iconst 1, 1) := by decide +kernel
theorem dX8_allTunesDivide_54 : decode cX8_allTunesDivide 54 = .ok (.ireturn, 1) := by decide +kernel
theorem dX8_goersIn_0 : decode cX8_goersIn 0 = .ok (.iconst 0, 1) := by decide +kernel
theorem dX8_goersIn_1 : decode cX8_goersIn 1 = .ok (.istore_n 3, 1) := by decide +kernel
theorem dX8_goersIn_2 : decode cX8_goersIn 2 = .ok (.iconst 0, 1) := by decide +kernel
theorem dX8_goersIn_3 : decode cX8_goersIn 3 = .ok (.istore 4, 2) := by decide +kernel
theorem dX8_goersIn_5 : decode cX8_goersIn 5 = .ok (.iload 4, 2) := by decide +kernel
theorem dX8_goersIn_7 : decode cX8_goersIn 7 = .ok (.iload_n 2, 1) := by decide +kernel
theorem dX8_goersIn_8 : decode cX8_goersIn 8 = .ok (.if_icmp .ge 33, 3) := by decide +kernel
theorem dX8_goersIn_11 : decode cX8_goersIn 11 = .ok (.iload 4, 2) := by decide +kernel
theorem dX8_goersIn_13 : decode cX8_goersIn 13 = .ok (.iconst 5, 1) := by decide +kernel
theorem dX8_goersIn_14 : decode cX8_goersIn 14 = .ok (.if_icmp .ge 27, 3) := by decide +kernel
theorem dX8_goersIn_17 : decode cX8_goersIn 17 = .ok (.aload_n 0, 1) := by decide +kernel
theorem dX8_goersIn_18 : decode cX8_goersIn 18 = .ok (.getfield 28, 3) := by decide +kernel
theorem dX8_goersIn_21 : decode cX8_goersIn 21 = .ok (.iload 4, 2) := by decide +kernel
theorem dX8_goersIn_23 : decode cX8_goersIn 23 = .ok (.iaload, 1) := by decide +kernel
theorem dX8_goersIn_24 : decode cX8_goersIn 24 = .ok (.iload_n 1, 1) := by decide +kernel
theorem dX8_goersIn_25 : decode cX8_goersIn 25 = .ok (.if_icmp .ne 10, 3) := by decide +kernel
theorem dX8_goersIn_28 : decode cX8_goersIn 28 = .ok (.iload_n 3, 1) := by decide +kernel
theorem dX8_goersIn_29 : decode cX8_goersIn 29 = .ok (.iconst 1, 1) := by decide +kernel
theorem dX8_goersIn_30 : decode cX8_goersIn 30 = .ok (.iload 4, 2) := by decide +kernel
theorem dX8_goersIn_32 : decode cX8_goersIn 32 = .ok (.ishl, 1) := by decide +kernel
theorem dX8_goersIn_33 : decode cX8_goersIn 33 = .ok (.ior, 1) := by decide +kernel
theorem dX8_goersIn_34 : decode cX8_goersIn 34 = .ok (.istore_n 3, 1) := by decide +kernel
theorem dX8_goersIn_35 : decode cX8_goersIn 35 = .ok (.iinc 4 1, 3) := by decide +kernel
theorem dX8_goersIn_38 : decode cX8_goersIn 38 = .ok (.goto (-33), 3) := by decide +kernel
theorem dX8_goersIn_41 : decode cX8_goersIn 41 = .ok (.iload_n 3, 1) := by decide +kernel
theorem dX8_goersIn_42 : decode cX8_goersIn 42 = .ok (.ireturn, 1) := by decide +kernel
theorem dX8_stoodOn_0 : decode cX8_stoodOn 0 = .ok (.iconst 0, 1) := by decide +kernel
theorem dX8_stoodOn_1 : decode cX8_stoodOn 1 = .ok (.istore_n 2, 1) := by decide +kernel
theorem dX8_stoodOn_2 : decode cX8_stoodOn 2 = .ok (.iconst 0, 1) := by decide +kernel
theorem dX8_stoodOn_3 : decode cX8_stoodOn 3 = .ok (.istore_n 3, 1) := by decide +kernel
theorem dX8_stoodOn_4 : decode cX8_stoodOn 4 = .ok (.iload_n 3, 1) := by decide +kernel
theorem dX8_stoodOn_5 : decode cX8_stoodOn 5 = .ok (.iload_n 1, 1) := by decide +kernel
theorem dX8_stoodOn_6 : decode cX8_stoodOn 6 = .ok (.if_icmp .ge 25, 3) := by decide +kernel
theorem dX8_stoodOn_9 : decode cX8_stoodOn 9 = .ok (.iload_n 3, 1) := by decide +kernel
theorem dX8_stoodOn_10 : decode cX8_stoodOn 10 = .ok (.iconst 5, 1) := by decide +kernel
theorem dX8_stoodOn_11 : decode cX8_stoodOn 11 = .ok (.if_icmp .ge 20, 3) := by decide +kernel
theorem dX8_stoodOn_14 : decode cX8_stoodOn 14 = .ok (.iload_n 2, 1) := by decide +kernel
theorem dX8_stoodOn_15 : decode cX8_stoodOn 15 = .ok (.iconst 1, 1) := by decide +kernel
theorem dX8_stoodOn_16 : decode cX8_stoodOn 16 = .ok (.aload_n 0, 1) := by decide +kernel
theorem dX8_stoodOn_17 : decode cX8_stoodOn 17 = .ok (.getfield 28, 3) := by decide +kernel
theorem dX8_stoodOn_20 : decode cX8_stoodOn 20 = .ok (.iload_n 3, 1) := by decide +kernel
theorem dX8_stoodOn_21 : decode cX8_stoodOn 21 = .ok (.iaload, 1) := by decide +kernel
theorem dX8_stoodOn_22 : decode cX8_stoodOn 22 = .ok (.ishl, 1) := by decide +kernel
theorem dX8_stoodOn_23 : decode cX8_stoodOn 23 = .ok (.ior, 1) := by decide +kernel
theorem dX8_stoodOn_24 : decode cX8_stoodOn 24 = .ok (.istore_n 2, 1) := by decide +kernel
theorem dX8_stoodOn_25 : decode cX8_stoodOn 25 = .ok (.iinc 3 1, 3) := by decide +kernel
theorem dX8_stoodOn_28 : decode cX8_stoodOn 28 = .ok (.goto (-24), 3) := by decide +kernel
theorem dX8_stoodOn_31 : decode cX8_stoodOn 31 = .ok (.iload_n 2, 1) := by decide +kernel
theorem dX8_stoodOn_32 : decode cX8_stoodOn 32 = .ok (.ireturn, 1) := by decide +kernel
