section
theorem dX8_init_0 : decode cX8_init 0 = .ok (.aload_n 0, 1) := by decide +kernel
theorem dX8_init_1 : decode cX8_init 1 = .ok (.invokespecial 3, 3) := by decide +kernel
theorem dX8_init_4 : decode cX8_init 4 = .ok (.aload_n 0, 1) := by decide +kernel
theorem dX8_init_5 : decode cX8_init 5 = .ok (.iconst 0, 1) := by decide +kernel
theorem dX8_init_6 : decode cX8_init 6 = .ok (.putfield 9, 3) := by decide +kernel
theorem dX8_init_9 : decode cX8_init 9 = .ok (.aload_n 0, 1) := by decide +kernel
theorem dX8_init_10 : decode cX8_init 10 = .ok (.iconst 0, 1) := by decide +kernel
theorem dX8_init_11 : decode cX8_init 11 = .ok (.putfield 15, 3) := by decide +kernel
theorem dX8_init_14 : decode cX8_init 14 = .ok (.aload_n 0, 1) := by decide +kernel
theorem dX8_init_15 : decode cX8_init 15 = .ok (.iconst 0, 1) := by decide +kernel
theorem dX8_init_16 : decode cX8_init 16 = .ok (.putfield 18, 3) := by decide +kernel
theorem dX8_init_19 : decode cX8_init 19 = .ok (.aload_n 0, 1) := by decide +kernel
theorem dX8_init_20 : decode cX8_init 20 = .ok (.iconst 0, 1) := by decide +kernel
theorem dX8_init_21 : decode cX8_init 21 = .ok (.putfield 21, 3) := by decide +kernel
theorem dX8_init_24 : decode cX8_init 24 = .ok (.aload_n 0, 1) := by decide +kernel
theorem dX8_init_25 : decode cX8_init 25 = .ok (.bipush 25, 2) := by decide +kernel
theorem dX8_init_27 : decode cX8_init 27 = .ok (.newarray .byte, 2) := by decide +kernel
theorem dX8_init_29 : decode cX8_init 29 = .ok (.putfield 24, 3) := by decide +kernel
theorem dX8_init_32 : decode cX8_init 32 = .ok (.aload_n 0, 1) := by decide +kernel
theorem dX8_init_33 : decode cX8_init 33 = .ok (.iconst 5, 1) := by decide +kernel
theorem dX8_init_34 : decode cX8_init 34 = .ok (.newarray .int, 2) := by decide +kernel
theorem dX8_init_36 : decode cX8_init 36 = .ok (.putfield 28, 3) := by decide +kernel
theorem dX8_init_39 : decode cX8_init 39 = .ok (.aload_n 0, 1) := by decide +kernel
theorem dX8_init_40 : decode cX8_init 40 = .ok (.iconst 5, 1) := by decide +kernel
theorem dX8_init_41 : decode cX8_init 41 = .ok (.newarray .int, 2) := by decide +kernel
theorem dX8_init_43 : decode cX8_init 43 = .ok (.putfield 32, 3) := by decide +kernel
theorem dX8_init_46 : decode cX8_init 46 = .ok (.return_, 1) := by decide +kernel
theorem dX8_clear_0 : decode cX8_clear 0 = .ok (.aload_n 0, 1) := by decide +kernel
theorem dX8_clear_1 : decode cX8_clear 1 = .ok (.iconst 0, 1) := by decide +kernel
theorem dX8_clear_2 : decode cX8_clear 2 = .ok (.putfield 9, 3) := by decide +kernel
theorem dX8_clear_5 : decode cX8_clear 5 = .ok (.aload_n 0, 1) := by decide +kernel
theorem dX8_clear_6 : decode cX8_clear 6 = .ok (.iconst 0, 1) := by decide +kernel
theorem dX8_clear_7 : decode cX8_clear 7 = .ok (.putfield 15, 3) := by decide +kernel
theorem dX8_clear_10 : decode cX8_clear 10 = .ok (.aload_n 0, 1) := by decide +kernel
theorem dX8_clear_11 : decode cX8_clear 11 = .ok (.iconst 0, 1) := by decide +kernel
theorem dX8_clear_12 : decode cX8_clear 12 = .ok (.putfield 18, 3) := by decide +kernel
theorem dX8_clear_15 : decode cX8_clear 15 = .ok (.aload_n 0, 1) := by decide +kernel
theorem dX8_clear_16 : decode cX8_clear 16 = .ok (.iconst 0, 1) := by decide +kernel
theorem dX8_clear_17 : decode cX8_clear 17 = .ok (.putfield 21, 3) := by decide +kernel
theorem dX8_clear_20 : decode cX8_clear 20 = .ok (.aload_n 0, 1) := by decide +kernel
theorem dX8_clear_21 : decode cX8_clear 21 = .ok (.getfield 32, 3) := by decide +kernel
theorem dX8_clear_24 : decode cX8_clear 24 = .ok (.iconst 0, 1) := by decide +kernel
theorem dX8_clear_25 : decode cX8_clear 25 = .ok (.invokestatic 35, 3) := by decide +kernel
theorem dX8_clear_28 : decode cX8_clear 28 = .ok (.return_, 1) := by decide +kernel
theorem dX8_become_0 : decode cX8_become 0 = .ok (.aload_n 0, 1) := by decide +kernel
theorem dX8_become_1 : decode cX8_become 1 = .ok (.aload_n 1, 1) := by decide +kernel
theorem dX8_become_2 : decode cX8_become 2 = .ok (.getfield 9, 3) := by decide +kernel
theorem dX8_become_5 : decode cX8_become 5 = .ok (.putfield 9, 3) := by decide +kernel
theorem dX8_become_8 : decode cX8_become 8 = .ok (.aload_n 0, 1) := by decide +kernel
theorem dX8_become_9 : decode cX8_become 9 = .ok (.aload_n 1, 1) := by decide +kernel
theorem dX8_become_10 : decode cX8_become 10 = .ok (.getfield 15, 3) := by decide +kernel
theorem dX8_become_13 : decode cX8_become 13 = .ok (.putfield 15, 3) := by decide +kernel
theorem dX8_become_16 : decode cX8_become 16 = .ok (.aload_n 0, 1) := by decide +kernel
theorem dX8_become_17 : decode cX8_become 17 = .ok (.aload_n 1, 1) := by decide +kernel
theorem dX8_become_18 : decode cX8_become 18 = .ok (.getfield 18, 3) := by decide +kernel
theorem dX8_become_21 : decode cX8_become 21 = .ok (.putfield 18, 3) := by decide +kernel
theorem dX8_become_24 : decode cX8_become 24 = .ok (.aload_n 0, 1) := by decide +kernel
theorem dX8_become_25 : decode cX8_become 25 = .ok (.aload_n 1, 1) := by decide +kernel
theorem dX8_become_26 : decode cX8_become 26 = .ok (.getfield 21, 3) := by decide +kernel
theorem dX8_become_29 : decode cX8_become 29 = .ok (.putfield 21, 3) := by decide +kernel
theorem dX8_become_32 : decode cX8_become 32 = .ok (.aload_n 1, 1) := by decide +kernel
theorem dX8_become_33 : decode cX8_become 33 = .ok (.getfield 24, 3) := by decide +kernel
theorem dX8_become_36 : decode cX8_become 36 = .ok (.iconst 0, 1) := by decide +kernel
theorem dX8_become_37 : decode cX8_become 37 = .ok (.aload_n 0, 1) := by decide +kernel
theorem dX8_become_38 : decode cX8_become 38 = .ok (.getfield 24, 3) := by decide +kernel
theorem dX8_become_41 : decode cX8_become 41 = .ok (.iconst 0, 1) := by decide +kernel
theorem dX8_become_42 : decode cX8_become 42 = .ok (.bipush 25, 2) := by decide +kernel
theorem dX8_become_44 : decode cX8_become 44 = .ok (.invokestatic 41, 3) := by decide +kernel
theorem dX8_become_47 : decode cX8_become 47 = .ok (.aload_n 1, 1) := by decide +kernel
theorem dX8_become_48 : decode cX8_become 48 = .ok (.getfield 28, 3) := by decide +kernel
theorem dX8_become_51 : decode cX8_become 51 = .ok (.iconst 0, 1) := by decide +kernel
theorem dX8_become_52 : decode cX8_become 52 = .ok (.aload_n 0, 1) := by decide +kernel
theorem dX8_become_53 : decode cX8_become 53 = .ok (.getfield 28, 3) := by decide +kernel
theorem dX8_become_56 : decode cX8_become 56 = .ok (.iconst 0, 1) := by decide +kernel
theorem dX8_become_57 : decode cX8_become 57 = .ok (.iconst 5, 1) := by decide +kernel
theorem dX8_become_58 : decode cX8_become 58 = .ok (.invokestatic 41, 3) := by decide +kernel
theorem dX8_become_61 : decode cX8_become 61 = .ok (.aload_n 1, 1) := by decide +kernel
theorem dX8_become_62 : decode cX8_become 62 = .ok (.getfield 32, 3) := by decide +kernel
theorem dX8_become_65 : decode cX8_become 65 = .ok (.iconst 0, 1) := by decide +kernel
theorem dX8_become_66 : decode cX8_become 66 = .ok (.aload_n 0, 1) := by decide +kernel
theorem dX8_become_67 : decode cX8_become 67 = .ok (.getfield 32, 3) := by decide +kernel
theorem dX8_become_70 : decode cX8_become 70 = .ok (.iconst 0, 1) := by decide +kernel
theorem dX8_become_71 : decode cX8_become 71 = .ok (.iconst 5, 1) := by decide +kernel
theorem dX8_become_72 : decode cX8_become 72 = .ok (.invokestatic 41, 3) := by decide +kernel
theorem dX8_become_75 : decode cX8_become 75 = .ok (.return_, 1) := by decide +kernel
theorem dX8_isTuned_0 : decode cX8_isTuned 0 = .ok (.iload_n 1, 1) := by decide +kernel
theorem dX8_isTuned_1 : decode cX8_isTuned 1 = .ok (.ifCond .lt 24, 3) := by decide +kernel
theorem dX8_isTuned_4 : decode cX8_isTuned 4 = .ok (.iload_n 1, 1) := by decide +kernel
theorem dX8_isTuned_5 : decode cX8_isTuned 5 = .ok (.bipush 25, 2) := by decide +kernel
theorem dX8_isTuned_7 : decode cX8_isTuned 7 = .ok (.if_icmp .ge 18, 3) := by decide +kernel
theorem dX8_isTuned_10 : decode cX8_isTuned 10 = .ok (.aload_n 0, 1) := by decide +kernel
theorem dX8_isTuned_11 : decode cX8_isTuned 11 = .ok (.getfield 21, 3) := by decide +kernel
theorem dX8_isTuned_14 : decode cX8_isTuned 14 = .ok (.iload_n 1, 1) := by decide +kernel
theorem dX8_isTuned_15 : decode cX8_isTuned 15 = .ok (.iushr, 1) := by decide +kernel
theorem dX8_isTuned_16 : decode cX8_isTuned 16 = .ok (.iconst 1, 1) := by decide +kernel
theorem dX8_isTuned_17 : decode cX8_isTuned 17 = .ok (.iand, 1) := by decide +kernel
theorem dX8_isTuned_18 : decode cX8_isTuned 18 = .ok (.ifCond .eq 7, 3) := by decide +kernel
theorem dX8_isTuned_21 : decode cX8_isTuned 21 = .ok (.iconst 1, 1) := by decide +kernel
theorem dX8_isTuned_22 : decode cX8_isTuned 22 = .ok (.goto 4, 3) := by decide +kernel
theorem dX8_isTuned_25 : decode cX8_isTuned 25 = .ok (.iconst 0, 1) := by decide +kernel
theorem dX8_isTuned_26 : decode cX8_isTuned 26 = .ok (.ireturn, 1) := by decide +kernel
theorem dX8_isRoped_0 : decode cX8_isRoped 0 = .ok (.aload_n 0, 1) := by decide +kernel
theorem dX8_isRoped_1 : decode cX8_isRoped 1 = .ok (.getfield 18, 3) := by decide +kernel
theorem dX8_isRoped_4 : decode cX8_isRoped 4 = .ok (.iload_n 1, 1) := by decide +kernel
theorem dX8_isRoped_5 : decode cX8_isRoped 5 = .ok (.iushr, 1) := by decide +kernel
theorem dX8_isRoped_6 : decode cX8_isRoped 6 = .ok (.iconst 1, 1) := by decide +kernel
theorem dX8_isRoped_7 : decode cX8_isRoped 7 = .ok (.iand, 1) := by decide +kernel
theorem dX8_isRoped_8 : decode cX8_isRoped 8 = .ok (.ifCond .eq 7, 3) := by decide +kernel
theorem dX8_isRoped_11 : decode cX8_isRoped 11 = .ok (.iconst 1, 1) := by decide +kernel
theorem dX8_isRoped_12 : decode cX8_isRoped 12 = .ok (.goto 4, 3) := by decide +kernel
theorem dX8_isRoped_15 : decode cX8_isRoped 15 = .ok (.iconst 0, 1) := by decide +kernel
theorem dX8_isRoped_16 : decode cX8_isRoped 16 = .ok (.ireturn, 1) := by decide +kernel
theorem dX8_beatOf_0 : decode cX8_beatOf 0 = .ok (.aload_n 0, 1) := by decide +kernel
theorem dX8_beatOf_1 : decode cX8_beatOf 1 = .ok (.iload_n 1, 1) := by decide +kernel
theorem dX8_beatOf_2 : decode cX8_beatOf 2 = .ok (.invokevirtual 47, 3) := by decide +kernel
theorem dX8_beatOf_5 : decode cX8_beatOf 5 = .ok (.ifCond .eq 14, 3) := by decide +kernel
theorem dX8_beatOf_8 : decode cX8_beatOf 8 = .ok (.aload_n 0, 1) := by decide +kernel
theorem dX8_beatOf_9 : decode cX8_beatOf 9 = .ok (.getfield 24, 3) := by decide +kernel
theorem dX8_beatOf_12 : decode cX8_beatOf 12 = .ok (.iload_n 1, 1) := by decide +kernel
theorem dX8_beatOf_13 : decode cX8_beatOf 13 = .ok (.baload, 1) := by decide +kernel
theorem dX8_beatOf_14 : decode cX8_beatOf 14 = .ok (.iconst 3, 1) := by decide +kernel
theorem dX8_beatOf_15 : decode cX8_beatOf 15 = .ok (.ishr, 1) := by decide +kernel
theorem dX8_beatOf_16 : decode cX8_beatOf 16 = .ok (.goto 4, 3) := by decide +kernel
theorem dX8_beatOf_19 : decode cX8_beatOf 19 = .ok (.iconst 0, 1) := by decide +kernel
theorem dX8_beatOf_20 : decode cX8_beatOf 20 = .ok (.ireturn, 1) := by decide +kernel
theorem dX8_offsetOf_0 : decode cX8_offsetOf 0 = .ok (.aload_n 0, 1) := by decide +kernel
theorem dX8_offsetOf_1 : decode cX8_offsetOf 1 = .ok (.iload_n 1, 1) := by decide +kernel
theorem dX8_offsetOf_2 : decode cX8_offsetOf 2 = .ok (.invokevirtual 47, 3) := by decide +kernel
theorem dX8_offsetOf_5 : decode cX8_offsetOf 5 = .ok (.ifCond .eq 15, 3) := by decide +kernel
theorem dX8_offsetOf_8 : decode cX8_offsetOf 8 = .ok (.aload_n 0, 1) := by decide +kernel
theorem dX8_offsetOf_9 : decode cX8_offsetOf 9 = .ok (.getfield 24, 3) := by decide +kernel
theorem dX8_offsetOf_12 : decode cX8_offsetOf 12 = .ok (.iload_n 1, 1) := by decide +kernel
theorem dX8_offsetOf_13 : decode cX8_offsetOf 13 = .ok (.baload, 1) := by decide +kernel
theorem dX8_offsetOf_14 : decode cX8_offsetOf 14 = .ok (.bipush 7, 2) := by decide +kernel
theorem dX8_offsetOf_16 : decode cX8_offsetOf 16 = .ok (.iand, 1) := by decide +kernel
theorem dX8_offsetOf_17 : decode cX8_offsetOf 17 = .ok (.goto 4, 3) := by decide +kernel
theorem dX8_offsetOf_20 : decode cX8_offsetOf 20 = .ok (.iconst 0, 1) := by decide +kernel
theorem dX8_offsetOf_21 : decode cX8_offsetOf 21 = .ok (.ireturn, 1) := by decide +kernel
theorem dX8_soundIn_0 : decode cX8_soundIn 0 = .ok (.iload_n 1, 1) := by decide +kernel
theorem dX8_soundIn_1 : decode cX8_soundIn 1 = .ok (.ifCond .lt 34, 3) := by decide +kernel
theorem dX8_soundIn_4 : decode cX8_soundIn 4 = .ok (.iload_n 1, 1) := by decide +kernel
theorem dX8_soundIn_5 : decode cX8_soundIn 5 = .ok (.bipush 25, 2) := by decide +kernel
theorem dX8_soundIn_7 : decode cX8_soundIn 7 = .ok (.if_icmp .ge 28, 3) := by decide +kernel
theorem dX8_soundIn_10 : decode cX8_soundIn 10 = .ok (.aload_n 0, 1) := by decide +kernel
theorem dX8_soundIn_11 : decode cX8_soundIn 11 = .ok (.getfield 24, 3) := by decide +kernel
theorem dX8_soundIn_14 : decode cX8_soundIn 14 = .ok (.iload_n 1, 1) := by decide +kernel
theorem dX8_soundIn_15 : decode cX8_soundIn 15 = .ok (.bipush 8, 2) := by decide +kernel
theorem dX8_soundIn_17 : decode cX8_soundIn 17 = .ok (.iload_n 2, 1) := by decide +kernel
theorem dX8_soundIn_18 : decode cX8_soundIn 18 = .ok (.imul, 1) := by decide +kernel
theorem dX8_soundIn_19 : decode cX8_soundIn 19 = .ok (.iload_n 3, 1) := by decide +kernel
theorem dX8_soundIn_20 : decode cX8_soundIn 20 = .ok (.iadd, 1) := by decide +kernel
theorem dX8_soundIn_21 : decode cX8_soundIn 21 = .ok (.i2b, 1) := by decide +kernel
theorem dX8_soundIn_22 : decode cX8_soundIn 22 = .ok (.bastore, 1) := by decide +kernel
theorem dX8_soundIn_23 : decode cX8_soundIn 23 = .ok (.aload_n 0, 1) := by decide +kernel
theorem dX8_soundIn_24 : decode cX8_soundIn 24 = .ok (.dup, 1) := by decide +kernel
theorem dX8_soundIn_25 : decode cX8_soundIn 25 = .ok (.getfield 21, 3) := by decide +kernel
theorem dX8_soundIn_28 : decode cX8_soundIn 28 = .ok (.iconst 1, 1) := by decide +kernel
theorem dX8_soundIn_29 : decode cX8_soundIn 29 = .ok (.iload_n 1, 1) := by decide +kernel
theorem dX8_soundIn_30 : decode cX8_soundIn 30 = .ok (.ishl, 1) := by decide +kernel
theorem dX8_soundIn_31 : decode cX8_soundIn 31 = .ok (.ior, 1) := by decide +kernel
theorem dX8_soundIn_32 : decode cX8_soundIn 32 = .ok (.putfield 21, 3) := by decide +kernel
theorem dX8_soundIn_35 : decode cX8_soundIn 35 = .ok (.return_, 1) := by decide +kernel
theorem dX8_soundFromTheLeft_0 : decode cX8_soundFromTheLeft 0 = .ok (.aload_n 0, 1) := by decide +kernel
theorem dX8_soundFromTheLeft_1 : decode cX8_soundFromTheLeft 1 = .ok (.iload_n 1, 1) := by decide +kernel
theorem dX8_soundFromTheLeft_2 : decode cX8_soundFromTheLeft 2 = .ok (.iconst 1, 1) := by decide +kernel
theorem dX8_soundFromTheLeft_3 : decode cX8_soundFromTheLeft 3 = .ok (.isub, 1) := by decide +kernel
theorem dX8_soundFromTheLeft_4 : decode cX8_soundFromTheLeft 4 = .ok (.invokevirtual 51, 3) := by decide +kernel
theorem dX8_soundFromTheLeft_7 : decode cX8_soundFromTheLeft 7 = .ok (.istore_n 2, 1) := by decide +kernel
theorem dX8_soundFromTheLeft_8 : decode cX8_soundFromTheLeft 8 = .ok (.iload_n 2, 1) := by decide +kernel
theorem dX8_soundFromTheLeft_9 : decode cX8_soundFromTheLeft 9 = .ok (.ifCond .le 20, 3) := by decide +kernel
theorem dX8_soundFromTheLeft_12 : decode cX8_soundFromTheLeft 12 = .ok (.aload_n 0, 1) := by decide +kernel
theorem dX8_soundFromTheLeft_13 : decode cX8_soundFromTheLeft 13 = .ok (.iload_n 1, 1) := by decide +kernel
theorem dX8_soundFromTheLeft_14 : decode cX8_soundFromTheLeft 14 = .ok (.iload_n 2, 1) := by decide +kernel
theorem dX8_soundFromTheLeft_15 : decode cX8_soundFromTheLeft 15 = .ok (.aload_n 0, 1) := by decide +kernel
theorem dX8_soundFromTheLeft_16 : decode cX8_soundFromTheLeft 16 = .ok (.iload_n 1, 1) := by decide +kernel
theorem dX8_soundFromTheLeft_17 : decode cX8_soundFromTheLeft 17 = .ok (.iconst 1, 1) := by decide +kernel
theorem dX8_soundFromTheLeft_18 : decode cX8_soundFromTheLeft 18 = .ok (.isub, 1) := by decide +kernel
theorem dX8_soundFromTheLeft_19 : decode cX8_soundFromTheLeft 19 = .ok (.invokevirtual 55, 3) := by decide +kernel
theorem dX8_soundFromTheLeft_22 : decode cX8_soundFromTheLeft 22 = .ok (.iconst 1, 1) := by decide +kernel
theorem dX8_soundFromTheLeft_23 : decode cX8_soundFromTheLeft 23 = .ok (.iadd, 1) := by decide +kernel
theorem dX8_soundFromTheLeft_24 : decode cX8_soundFromTheLeft 24 = .ok (.iload_n 2, 1) := by decide +kernel
theorem dX8_soundFromTheLeft_25 : decode cX8_soundFromTheLeft 25 = .ok (.irem, 1) := by decide +kernel
theorem dX8_soundFromTheLeft_26 : decode cX8_soundFromTheLeft 26 = .ok (.invokevirtual 58, 3) := by decide +kernel
theorem dX8_soundFromTheLeft_29 : decode cX8_soundFromTheLeft 29 = .ok (.return_, 1) := by decide +kernel
theorem dX8_hush_0 : decode cX8_hush 0 = .ok (.aload_n 0, 1) := by decide +kernel
theorem dX8_hush_1 : decode cX8_hush 1 = .ok (.dup, 1) := by decide +kernel
theorem dX8_hush_2 : decode cX8_hush 2 = .ok (.getfield 21, 3) := by decide +kernel
theorem dX8_hush_5 : decode cX8_hush 5 = .ok (.iconst 1, 1) := by decide +kernel
theorem dX8_hush_6 : decode cX8_hush 6 = .ok (.iload_n 1, 1) := by decide +kernel
theorem dX8_hush_7 : decode cX8_hush 7 = .ok (.ishl, 1) := by decide +kernel
theorem dX8_hush_8 : decode cX8_hush 8 = .ok (.iconst (-1), 1) := by decide +kernel
theorem dX8_hush_9 : decode cX8_hush 9 = .ok (.ixor, 1) := by decide +kernel
theorem dX8_hush_10 : decode cX8_hush 10 = .ok (.iand, 1) := by decide +kernel
theorem dX8_hush_11 : decode cX8_hush 11 = .ok (.putfield 21, 3) := by decide +kernel
theorem dX8_hush_14 : decode cX8_hush 14 = .ok (.return_, 1) := by decide +kernel
theorem dX8_soundsAt_0 : decode cX8_soundsAt 0 = .ok (.aload_n 0, 1) := by decide +kernel
theorem dX8_soundsAt_1 : decode cX8_soundsAt 1 = .ok (.iload_n 1, 1) := by decide +kernel
theorem dX8_soundsAt_2 : decode cX8_soundsAt 2 = .ok (.invokevirtual 51, 3) := by decide +kernel
theorem dX8_soundsAt_5 : decode cX8_soundsAt 5 = .ok (.istore_n 3, 1) := by decide +kernel
theorem dX8_soundsAt_6 : decode cX8_soundsAt 6 = .ok (.iload_n 3, 1) := by decide +kernel
theorem dX8_soundsAt_7 : decode cX8_soundsAt 7 = .ok (.ifCond .le 18, 3) := by decide +kernel
theorem dX8_soundsAt_10 : decode cX8_soundsAt 10 = .ok (.iload_n 2, 1) := by decide +kernel
theorem dX8_soundsAt_11 : decode cX8_soundsAt 11 = .ok (.iload_n 3, 1) := by decide +kernel
theorem dX8_soundsAt_12 : decode cX8_soundsAt 12 = .ok (.irem, 1) := by decide +kernel
theorem dX8_soundsAt_13 : decode cX8_soundsAt 13 = .ok (.aload_n 0, 1) := by decide +kernel
theorem dX8_soundsAt_14 : decode cX8_soundsAt 14 = .ok (.iload_n 1, 1) := by decide +kernel
theorem dX8_soundsAt_15 : decode cX8_soundsAt 15 = .ok (.invokevirtual 55, 3) := by decide +kernel
theorem dX8_soundsAt_18 : decode cX8_soundsAt 18 = .ok (.if_icmp .ne 7, 3) := by decide +kernel
theorem dX8_soundsAt_21 : decode cX8_soundsAt 21 = .ok (.iconst 1, 1) := by decide +kernel
theorem dX8_soundsAt_22 : decode cX8_soundsAt 22 = .ok (.goto 4, 3) := by decide +kernel
theorem dX8_soundsAt_25 : decode cX8_soundsAt 25 = .ok (.iconst 0, 1) := by decide +kernel
theorem dX8_soundsAt_26 : decode cX8_soundsAt 26 = .ok (.ireturn, 1) := by decide +kernel
theorem dX8_loudAt_0 : decode cX8_loudAt 0 = .ok (.iconst 0, 1) := by decide +kernel
theorem dX8_loudAt_1 : decode cX8_loudAt 1 = .ok (.istore_n 2, 1) := by decide +kernel
theorem dX8_loudAt_2 : decode cX8_loudAt 2 = .ok (.iconst 0, 1) := by decide +kernel
theorem dX8_loudAt_3 : decode cX8_loudAt 3 = .ok (.istore_n 3, 1) := by decide +kernel
theorem dX8_loudAt_4 : decode cX8_loudAt 4 = .ok (.aload_n 0, 1) := by decide +kernel
theorem dX8_loudAt_5 : decode cX8_loudAt 5 = .ok (.getfield 21, 3) := by decide +kernel
theorem dX8_loudAt_8 : decode cX8_loudAt 8 = .ok (.istore 4, 2) := by decide +kernel
theorem dX8_loudAt_10 : decode cX8_loudAt 10 = .ok (.iload_n 3, 1) := by decide +kernel
theorem dX8_loudAt_11 : decode cX8_loudAt 11 = .ok (.bipush 25, 2) := by decide +kernel
theorem dX8_loudAt_13 : decode cX8_loudAt 13 = .ok (.if_icmp .ge 45, 3) := by decide +kernel
theorem dX8_loudAt_16 : decode cX8_loudAt 16 = .ok (.iload 4, 2) := by decide +kernel
theorem dX8_loudAt_18 : decode cX8_loudAt 18 = .ok (.ifCond .eq 40, 3) := by decide +kernel
theorem dX8_loudAt_21 : decode cX8_loudAt 21 = .ok (.aload_n 0, 1) := by decide +kernel
theorem dX8_loudAt_22 : decode cX8_loudAt 22 = .ok (.iload 4, 2) := by decide +kernel
theorem dX8_loudAt_24 : decode cX8_loudAt 24 = .ok (.invokestatic 62, 3) := by decide +kernel
theorem dX8_loudAt_27 : decode cX8_loudAt 27 = .ok (.iload_n 1, 1) := by decide +kernel
theorem dX8_loudAt_28 : decode cX8_loudAt 28 = .ok (.invokevirtual 65, 3) := by decide +kernel
theorem dX8_loudAt_31 : decode cX8_loudAt 31 = .ok (.ifCond .eq 12, 3) := by decide +kernel
theorem dX8_loudAt_34 : decode cX8_loudAt 34 = .ok (.iload_n 2, 1) := by decide +kernel
theorem dX8_loudAt_35 : decode cX8_loudAt 35 = .ok (.iload 4, 2) := by decide +kernel
theorem dX8_loudAt_37 : decode cX8_loudAt 37 = .ok (.iload 4, 2) := by decide +kernel
theorem dX8_loudAt_39 : decode cX8_loudAt 39 = .ok (.ineg, 1) := by decide +kernel
theorem dX8_loudAt_40 : decode cX8_loudAt 40 = .ok (.iand, 1) := by decide +kernel
theorem dX8_loudAt_41 : decode cX8_loudAt 41 = .ok (.ior, 1) := by decide +kernel
theorem dX8_loudAt_42 : decode cX8_loudAt 42 = .ok (.istore_n 2, 1) := by decide +kernel
theorem dX8_loudAt_43 : decode cX8_loudAt 43 = .ok (.iinc 3 1, 3) := by decide +kernel
theorem dX8_loudAt_46 : decode cX8_loudAt 46 = .ok (.iload 4, 2) := by decide +kernel
theorem dX8_loudAt_48 : decode cX8_loudAt 48 = .ok (.iload 4, 2) := by decide +kernel
theorem dX8_loudAt_50 : decode cX8_loudAt 50 = .ok (.iconst 1, 1) := by decide +kernel
theorem dX8_loudAt_51 : decode cX8_loudAt 51 = .ok (.isub, 1) := by decide +kernel
theorem dX8_loudAt_52 : decode cX8_loudAt 52 = .ok (.iand, 1) := by decide +kernel
theorem dX8_loudAt_53 : decode cX8_loudAt 53 = .ok (.istore 4, 2) := by decide +kernel
theorem dX8_loudAt_55 : decode cX8_loudAt 55 = .ok (.goto (-45), 3) := by decide +kernel
theorem dX8_loudAt_58 : decode cX8_loudAt 58 = .ok (.iload_n 2, 1) := by decide +kernel
theorem dX8_loudAt_59 : decode cX8_loudAt 59 = .ok (.ireturn, 1) := by decide +kernel
theorem dX8_allTunesDivide_0 : decode cX8_allTunesDivide 0 = .ok (.iconst 0, 1) := by decide +kernel
theorem dX8_allTunesDivide_1 : decode cX8_allTunesDivide 1 = .ok (.istore_n 2, 1) := by decide +kernel
theorem dX8_allTunesDivide_2 : decode cX8_allTunesDivide 2 = .ok (.aload_n 0, 1) := by decide +kernel
theorem dX8_allTunesDivide_3 : decode cX8_allTunesDivide 3 = .ok (.getfield 21, 3) := by decide +kernel
theorem dX8_allTunesDivide_6 : decode cX8_allTunesDivide 6 = .ok (.istore_n 3, 1) := by decide +kernel
theorem dX8_allTunesDivide_7 : decode cX8_allTunesDivide 7 = .ok (.iload_n 2, 1) := by decide +kernel
theorem dX8_allTunesDivide_8 : decode cX8_allTunesDivide 8 = .ok (.bipush 25, 2) := by decide +kernel
theorem dX8_allTunesDivide_10 : decode cX8_allTunesDivide 10 = .ok (.if_icmp .ge 43, 3) := by decide +kernel
theorem dX8_allTunesDivide_13 : decode cX8_allTunesDivide 13 = .ok (.iload_n 3, 1) := by decide +kernel
theorem dX8_allTunesDivide_14 : decode cX8_allTunesDivide 14 = .ok (.ifCond .eq 39, 3) := by decide +kernel
theorem dX8_allTunesDivide_17 : decode cX8_allTunesDivide 17 = .ok (.aload_n 0, 1) := by decide +kernel
theorem dX8_allTunesDivide_18 : decode cX8_allTunesDivide 18 = .ok (.iload_n 3, 1) := by decide +kernel
theorem dX8_allTunesDivide_19 : decode cX8_allTunesDivide 19 = .ok (.invokestatic 62, 3) := by decide +kernel
theorem dX8_allTunesDivide_22 : decode cX8_allTunesDivide 22 = .ok (.invokevirtual 51, 3) := by decide +kernel
theorem dX8_allTunesDivide_25 : decode cX8_allTunesDivide 25 = .ok (.istore 4, 2) := by decide +kernel
theorem dX8_allTunesDivide_27 : decode cX8_allTunesDivide 27 = .ok (.iload 4, 2) := by decide +kernel
theorem dX8_allTunesDivide_29 : decode cX8_allTunesDivide 29 = .ok (.ifCond .le 12, 3) := by decide +kernel
theorem dX8_allTunesDivide_32 : decode cX8_allTunesDivide 32 = .ok (.iload_n 1, 1) := by decide +kernel
theorem dX8_allTunesDivide_33 : decode cX8_allTunesDivide 33 = .ok (.iload 4, 2) := by decide +kernel
theorem dX8_allTunesDivide_35 : decode cX8_allTunesDivide 35 = .ok (.irem, 1) := by decide +kernel
theorem dX8_allTunesDivide_36 : decode cX8_allTunesDivide 36 = .ok (.ifCond .eq 5, 3) := by decide +kernel
theorem dX8_allTunesDivide_39 : decode cX8_allTunesDivide 39 = .ok (.iconst 0, 1) := by decide +kernel
theorem dX8_allTunesDivide_40 : decode cX8_allTunesDivide 40 = .ok (.ireturn, 1) := by decide +kernel
theorem dX8_allTunesDivide_41 : decode cX8_allTunesDivide 41 = .ok (.iinc 2 1, 3) := by decide +kernel
theorem dX8_allTunesDivide_44 : decode cX8_allTunesDivide 44 = .ok (.iload_n 3, 1) := by decide +kernel
theorem dX8_allTunesDivide_45 : decode cX8_allTunesDivide 45 = .ok (.iload_n 3, 1) := by decide +kernel
theorem dX8_allTunesDivide_46 : decode cX8_allTunesDivide 46 = .ok (.iconst 1, 1) := by decide +kernel
theorem dX8_allTunesDivide_47 : decode cX8_allTunesDivide 47 = .ok (.isub, 1) := by decide +kernel
theorem dX8_allTunesDivide_48 : decode cX8_allTunesDivide 48 = .ok (.iand, 1) := by decide +kernel
theorem dX8_allTunesDivide_49 : decode cX8_allTunesDivide 49 = .ok (.istore_n 3, 1) := by decide +kernel
theorem dX8_allTunesDivide_50 : decode cX8_allTunesDivide 50 = .ok (.goto (-43), 3) := by decide +kernel
theorem dX8_allTunesDivide_53 : decode cX8_allTunesDivide 53 = .ok (.iconst 1, 1) := by decide +kernel
theorem dX8_allTunesDivide_54 : decode cX8_allTunesDivide 54 = .ok (.ireturn, 1) := by decide +kernel
theorem dX8_goersIn_0 : decode cX8_goersIn 0 = .ok (.iconst 0, 1) := by decide +kernel
theorem dX8_goersIn_1 : decode cX8_goersIn 1 = .ok (.istore_n 3, 1) := by decide +kernel
theorem dX8_goersIn_2 : decode cX8_goersIn 2 = .ok (.iconst 0, 1) := by decide +kernel
theorem dX8_goersIn_3 : decode cX8_goersIn 3 = .ok (.istore 4, 2) := by decide +kernel
theorem dX8_goersIn_5 : decode cX8_goersIn 5 = .ok (.iload 4, 2) := by decide +kernel
theorem dX8_goersIn_7 : decode cX8_goersIn 7 = .ok (.iload_n 2, 1) := by decide +kernel
theorem dX8_goersIn_8 : decode cX8_goersIn 8 = .ok (.if_icmp .ge 33, 3) := by decide +kernel
theorem dX8_goersIn_11 : decode cX8_goersIn 11 = .ok (.iload 4, 2) := by decide +kernel
theorem dX8_goersIn_13 : decode cX8_goersIn 13 = .ok (.iconst 5, 1) := by decide +kernel
theorem dX8_goersIn_14 : decode cX8_goersIn 14 = .ok (.if_icmp .ge 27, 3) := by decide +kernel
theorem dX8_goersIn_17 : decode cX8_goersIn 17 = .ok (.aload_n 0, 1) := by decide +kernel
theorem dX8_goersIn_18 : decode cX8_goersIn 18 = .ok (.getfield 28, 3) := by decide +kernel
theorem dX8_goersIn_21 : decode cX8_goersIn 21 = .ok (.iload 4, 2) := by decide +kernel
theorem dX8_goersIn_23 : decode cX8_goersIn 23 = .ok (.iaload, 1) := by decide +kernel
theorem dX8_goersIn_24 : decode cX8_goersIn 24 = .ok (.iload_n 1, 1) := by decide +kernel
theorem dX8_goersIn_25 : decode cX8_goersIn 25 = .ok (.if_icmp .ne 10, 3) := by decide +kernel
theorem dX8_goersIn_28 : decode cX8_goersIn 28 = .ok (.iload_n 3, 1) := by decide +kernel
theorem dX8_goersIn_29 : decode cX8_goersIn 29 = .ok (.iconst 1, 1) := by decide +kernel
theorem dX8_goersIn_30 : decode cX8_goersIn 30 = .ok (.iload 4, 2) := by decide +kernel
theorem dX8_goersIn_32 : decode cX8_goersIn 32 = .ok (.ishl, 1) := by decide +kernel
theorem dX8_goersIn_33 : decode cX8_goersIn 33 = .ok (.ior, 1) := by decide +kernel
theorem dX8_goersIn_34 : decode cX8_goersIn 34 = .ok (.istore_n 3, 1) := by decide +kernel
theorem dX8_goersIn_35 : decode cX8_goersIn 35 = .ok (.iinc 4 1, 3) := by decide +kernel
theorem dX8_goersIn_38 : decode cX8_goersIn 38 = .ok (.goto (-33), 3) := by decide +kernel
theorem dX8_goersIn_41 : decode cX8_goersIn 41 = .ok (.iload_n 3, 1) := by decide +kernel
theorem dX8_goersIn_42 : decode cX8_goersIn 42 = .ok (.ireturn, 1) := by decide +kernel
theorem dX8_stoodOn_0 : decode cX8_stoodOn 0 = .ok (.iconst 0, 1) := by decide +kernel
theorem dX8_stoodOn_1 : decode cX8_stoodOn 1 = .ok (.istore_n 2, 1) := by decide +kernel
theorem dX8_stoodOn_2 : decode cX8_stoodOn 2 = .ok (.iconst 0, 1) := by decide +kernel
theorem dX8_stoodOn_3 : decode cX8_stoodOn 3 = .ok (.istore_n 3, 1) := by decide +kernel
theorem dX8_stoodOn_4 : decode cX8_stoodOn 4 = .ok (.iload_n 3, 1) := by decide +kernel
theorem dX8_stoodOn_5 : decode cX8_stoodOn 5 = .ok (.iload_n 1, 1) := by decide +kernel
theorem dX8_stoodOn_6 : decode cX8_stoodOn 6 = .ok (.if_icmp .ge 25, 3) := by decide +kernel
theorem dX8_stoodOn_9 : decode cX8_stoodOn 9 = .ok (.iload_n 3, 1) := by decide +kernel
theorem dX8_stoodOn_10 : decode cX8_stoodOn 10 = .ok (.iconst 5, 1) := by decide +kernel
theorem dX8_stoodOn_11 : decode cX8_stoodOn 11 = .ok (.if_icmp .ge 20, 3) := by decide +kernel
theorem dX8_stoodOn_14 : decode cX8_stoodOn 14 = .ok (.iload_n 2, 1) := by decide +kernel
theorem dX8_stoodOn_15 : decode cX8_stoodOn 15 = .ok (.iconst 1, 1) := by decide +kernel
theorem dX8_stoodOn_16 : decode cX8_stoodOn 16 = .ok (.aload_n 0, 1) := by decide +kernel
theorem dX8_stoodOn_17 : decode cX8_stoodOn 17 = .ok (.getfield 28, 3) := by decide +kernel
theorem dX8_stoodOn_20 : decode cX8_stoodOn 20 = .ok (.iload_n 3, 1) := by decide +kernel
theorem dX8_stoodOn_21 : decode cX8_stoodOn 21 = .ok (.iaload, 1) := by decide +kernel
theorem dX8_stoodOn_22 : decode cX8_stoodOn 22 = .ok (.ishl, 1) := by decide +kernel
theorem dX8_stoodOn_23 : decode cX8_stoodOn 23 = .ok (.ior, 1) := by decide +kernel
theorem dX8_stoodOn_24 : decode cX8_stoodOn 24 = .ok (.istore_n 2, 1) := by decide +kernel
theorem dX8_stoodOn_25 : decode cX8_stoodOn 25 = .ok (.iinc 3 1, 3) := by decide +kernel
theorem dX8_stoodOn_28 : decode cX8_stoodOn 28 = .ok (.goto (-24), 3) := by decide +kernel
theorem dX8_stoodOn_31 : decode cX8_stoodOn 31 = .ok (.iload_n 2, 1) := by decide +kernel
theorem dX8_stoodOn_32 : decode cX8_stoodOn 32 = .ok (.ireturn, 1) := by decide +kernel
end
section
theorem dX9_init_0 : decode cX9_init 0 = .ok (.aload_n 0, 1) := by decide +kernel
theorem dX9_init_1 : decode cX9_init 1 = .ok (.invokespecial 3, 3) := by decide +kernel
theorem dX9_init_4 : decode cX9_init 4 = .ok (.aload_n 0, 1) := by decide +kernel
theorem dX9_init_5 : decode cX9_init 5 = .ok (.bipush 22, 2) := by decide +kernel
theorem dX9_init_7 : decode cX9_init 7 = .ok (.newarray .long, 2) := by decide +kernel
theorem dX9_init_9 : decode cX9_init 9 = .ok (.putfield 11, 3) := by decide +kernel
theorem dX9_init_12 : decode cX9_init 12 = .ok (.aload_n 0, 1) := by decide +kernel
theorem dX9_init_13 : decode cX9_init 13 = .ok (.sipush 401, 3) := by decide +kernel
theorem dX9_init_16 : decode cX9_init 16 = .ok (.newarray .byte, 2) := by decide +kernel
theorem dX9_init_18 : decode cX9_init 18 = .ok (.putfield 15, 3) := by decide +kernel
theorem dX9_init_21 : decode cX9_init 21 = .ok (.aload_n 0, 1) := by decide +kernel
theorem dX9_init_22 : decode cX9_init 22 = .ok (.sipush 401, 3) := by decide +kernel
theorem dX9_init_25 : decode cX9_init 25 = .ok (.newarray .short, 2) := by decide +kernel
theorem dX9_init_27 : decode cX9_init 27 = .ok (.putfield 19, 3) := by decide +kernel
theorem dX9_init_30 : decode cX9_init 30 = .ok (.aload_n 0, 1) := by decide +kernel
theorem dX9_init_31 : decode cX9_init 31 = .ok (.sipush 401, 3) := by decide +kernel
theorem dX9_init_34 : decode cX9_init 34 = .ok (.newarray .long, 2) := by decide +kernel
theorem dX9_init_36 : decode cX9_init 36 = .ok (.putfield 23, 3) := by decide +kernel
theorem dX9_init_39 : decode cX9_init 39 = .ok (.aload_n 0, 1) := by decide +kernel
theorem dX9_init_40 : decode cX9_init 40 = .ok (.iconst 0, 1) := by decide +kernel
theorem dX9_init_41 : decode cX9_init 41 = .ok (.putfield 26, 3) := by decide +kernel
theorem dX9_init_44 : decode cX9_init 44 = .ok (.aload_n 0, 1) := by decide +kernel
theorem dX9_init_45 : decode cX9_init 45 = .ok (.iconst 0, 1) := by decide +kernel
theorem dX9_init_46 : decode cX9_init 46 = .ok (.putfield 30, 3) := by decide +kernel
theorem dX9_init_49 : decode cX9_init 49 = .ok (.aload_n 0, 1) := by decide +kernel
theorem dX9_init_50 : decode cX9_init 50 = .ok (.aload_n 1, 1) := by decide +kernel
theorem dX9_init_51 : decode cX9_init 51 = .ok (.putfield 33, 3) := by decide +kernel
theorem dX9_init_54 : decode cX9_init 54 = .ok (.iconst 0, 1) := by decide +kernel
theorem dX9_init_55 : decode cX9_init 55 = .ok (.istore_n 2, 1) := by decide +kernel
theorem dX9_init_56 : decode cX9_init 56 = .ok (.iconst 0, 1) := by decide +kernel
theorem dX9_init_57 : decode cX9_init 57 = .ok (.istore_n 3, 1) := by decide +kernel
theorem dX9_init_58 : decode cX9_init 58 = .ok (.iload_n 3, 1) := by decide +kernel
theorem dX9_init_59 : decode cX9_init 59 = .ok (.ldc 36, 2) := by decide +kernel
theorem dX9_init_61 : decode cX9_init 61 = .ok (.invokevirtual 38, 3) := by decide +kernel
theorem dX9_init_64 : decode cX9_init 64 = .ok (.if_icmp .ge 53, 3) := by decide +kernel
theorem dX9_init_67 : decode cX9_init 67 = .ok (.iload_n 2, 1) := by decide +kernel
theorem dX9_init_68 : decode cX9_init 68 = .ok (.bipush 22, 2) := by decide +kernel
theorem dX9_init_70 : decode cX9_init 70 = .ok (.if_icmp .ge 47, 3) := by decide +kernel
theorem dX9_init_73 : decode cX9_init 73 = .ok (.ldc 36, 2) := by decide +kernel
theorem dX9_init_75 : decode cX9_init 75 = .ok (.iload_n 3, 1) := by decide +kernel
theorem dX9_init_76 : decode cX9_init 76 = .ok (.invokevirtual 43, 3) := by decide +kernel
theorem dX9_init_79 : decode cX9_init 79 = .ok (.bipush 32, 2) := by decide +kernel
theorem dX9_init_81 : decode cX9_init 81 = .ok (.if_icmp .ne 9, 3) := by decide +kernel
theorem dX9_init_84 : decode cX9_init 84 = .ok (.iinc 2 1, 3) := by decide +kernel
theorem dX9_init_87 : decode cX9_init 87 = .ok (.goto 24, 3) := by decide +kernel
theorem dX9_init_90 : decode cX9_init 90 = .ok (.aload_n 0, 1) := by decide +kernel
theorem dX9_init_91 : decode cX9_init 91 = .ok (.getfield 11, 3) := by decide +kernel
theorem dX9_init_94 : decode cX9_init 94 = .ok (.iload_n 2, 1) := by decide +kernel
theorem dX9_init_95 : decode cX9_init 95 = .ok (.aload_n 0, 1) := by decide +kernel
theorem dX9_init_96 : decode cX9_init 96 = .ok (.getfield 11, 3) := by decide +kernel
theorem dX9_init_99 : decode cX9_init 99 = .ok (.iload_n 2, 1) := by decide +kernel
theorem dX9_init_100 : decode cX9_init 100 = .ok (.laload, 1) := by decide +kernel
theorem dX9_init_101 : decode cX9_init 101 = .ok (.ldc 36, 2) := by decide +kernel
theorem dX9_init_103 : decode cX9_init 103 = .ok (.iload_n 3, 1) := by decide +kernel
theorem dX9_init_104 : decode cX9_init 104 = .ok (.invokevirtual 43, 3) := by decide +kernel
theorem dX9_init_107 : decode cX9_init 107 = .ok (.invokestatic 47, 3) := by decide +kernel
theorem dX9_init_110 : decode cX9_init 110 = .ok (.lastore, 1) := by decide +kernel
theorem dX9_init_111 : decode cX9_init 111 = .ok (.iinc 3 1, 3) := by decide +kernel
theorem dX9_init_114 : decode cX9_init 114 = .ok (.goto (-56), 3) := by decide +kernel
theorem dX9_init_117 : decode cX9_init 117 = .ok (.return_, 1) := by decide +kernel
theorem dX9_withLetter_0 : decode cX9_withLetter 0 = .ok (.lload_n 0, 1) := by decide +kernel
theorem dX9_withLetter_1 : decode cX9_withLetter 1 = .ok (.ldc2_w 51, 3) := by decide +kernel
theorem dX9_withLetter_4 : decode cX9_withLetter 4 = .ok (.lmul, 1) := by decide +kernel
theorem dX9_withLetter_5 : decode cX9_withLetter 5 = .ok (.iload_n 2, 1) := by decide +kernel
theorem dX9_withLetter_6 : decode cX9_withLetter 6 = .ok (.bipush 97, 2) := by decide +kernel
theorem dX9_withLetter_8 : decode cX9_withLetter 8 = .ok (.isub, 1) := by decide +kernel
theorem dX9_withLetter_9 : decode cX9_withLetter 9 = .ok (.iconst 1, 1) := by decide +kernel
theorem dX9_withLetter_10 : decode cX9_withLetter 10 = .ok (.iadd, 1) := by decide +kernel
theorem dX9_withLetter_11 : decode cX9_withLetter 11 = .ok (.i2l, 1) := by decide +kernel
theorem dX9_withLetter_12 : decode cX9_withLetter 12 = .ok (.ladd, 1) := by decide +kernel
theorem dX9_withLetter_13 : decode cX9_withLetter 13 = .ok (.lreturn, 1) := by decide +kernel
theorem dX9_kindOf_0 : decode cX9_kindOf 0 = .ok (.iload_n 1, 1) := by decide +kernel
theorem dX9_kindOf_1 : decode cX9_kindOf 1 = .ok (.ifCond .lt 20, 3) := by decide +kernel
theorem dX9_kindOf_4 : decode cX9_kindOf 4 = .ok (.iload_n 1, 1) := by decide +kernel
theorem dX9_kindOf_5 : decode cX9_kindOf 5 = .ok (.aload_n 0, 1) := by decide +kernel
theorem dX9_kindOf_6 : decode cX9_kindOf 6 = .ok (.getfield 26, 3) := by decide +kernel
theorem dX9_kindOf_9 : decode cX9_kindOf 9 = .ok (.if_icmp .ge 12, 3) := by decide +kernel
theorem dX9_kindOf_12 : decode cX9_kindOf 12 = .ok (.aload_n 0, 1) := by decide +kernel
theorem dX9_kindOf_13 : decode cX9_kindOf 13 = .ok (.getfield 15, 3) := by decide +kernel
theorem dX9_kindOf_16 : decode cX9_kindOf 16 = .ok (.iload_n 1, 1) := by decide +kernel
theorem dX9_kindOf_17 : decode cX9_kindOf 17 = .ok (.baload, 1) := by decide +kernel
theorem dX9_kindOf_18 : decode cX9_kindOf 18 = .ok (.goto 5, 3) := by decide +kernel
theorem dX9_kindOf_21 : decode cX9_kindOf 21 = .ok (.bipush 32, 2) := by decide +kernel
theorem dX9_kindOf_23 : decode cX9_kindOf 23 = .ok (.ireturn, 1) := by decide +kernel
theorem dX9_placeOf_0 : decode cX9_placeOf 0 = .ok (.iload_n 1, 1) := by decide +kernel
theorem dX9_placeOf_1 : decode cX9_placeOf 1 = .ok (.ifCond .lt 20, 3) := by decide +kernel
theorem dX9_placeOf_4 : decode cX9_placeOf 4 = .ok (.iload_n 1, 1) := by decide +kernel
theorem dX9_placeOf_5 : decode cX9_placeOf 5 = .ok (.aload_n 0, 1) := by decide +kernel
theorem dX9_placeOf_6 : decode cX9_placeOf 6 = .ok (.getfield 26, 3) := by decide +kernel
theorem dX9_placeOf_9 : decode cX9_placeOf 9 = .ok (.if_icmp .ge 12, 3) := by decide +kernel
theorem dX9_placeOf_12 : decode cX9_placeOf 12 = .ok (.aload_n 0, 1) := by decide +kernel
theorem dX9_placeOf_13 : decode cX9_placeOf 13 = .ok (.getfield 19, 3) := by decide +kernel
theorem dX9_placeOf_16 : decode cX9_placeOf 16 = .ok (.iload_n 1, 1) := by decide +kernel
theorem dX9_placeOf_17 : decode cX9_placeOf 17 = .ok (.saload, 1) := by decide +kernel
theorem dX9_placeOf_18 : decode cX9_placeOf 18 = .ok (.goto 7, 3) := by decide +kernel
theorem dX9_placeOf_21 : decode cX9_placeOf 21 = .ok (.aload_n 0, 1) := by decide +kernel
theorem dX9_placeOf_22 : decode cX9_placeOf 22 = .ok (.getfield 30, 3) := by decide +kernel
theorem dX9_placeOf_25 : decode cX9_placeOf 25 = .ok (.ireturn, 1) := by decide +kernel
theorem dX9_valueOf_0 : decode cX9_valueOf 0 = .ok (.iload_n 1, 1) := by decide +kernel
theorem dX9_valueOf_1 : decode cX9_valueOf 1 = .ok (.ifCond .lt 20, 3) := by decide +kernel
theorem dX9_valueOf_4 : decode cX9_valueOf 4 = .ok (.iload_n 1, 1) := by decide +kernel
theorem dX9_valueOf_5 : decode cX9_valueOf 5 = .ok (.aload_n 0, 1) := by decide +kernel
theorem dX9_valueOf_6 : decode cX9_valueOf 6 = .ok (.getfield 26, 3) := by decide +kernel
theorem dX9_valueOf_9 : decode cX9_valueOf 9 = .ok (.if_icmp .ge 12, 3) := by decide +kernel
theorem dX9_valueOf_12 : decode cX9_valueOf 12 = .ok (.aload_n 0, 1) := by decide +kernel
theorem dX9_valueOf_13 : decode cX9_valueOf 13 = .ok (.getfield 23, 3) := by decide +kernel
theorem dX9_valueOf_16 : decode cX9_valueOf 16 = .ok (.iload_n 1, 1) := by decide +kernel
theorem dX9_valueOf_17 : decode cX9_valueOf 17 = .ok (.laload, 1) := by decide +kernel
theorem dX9_valueOf_18 : decode cX9_valueOf 18 = .ok (.goto 4, 3) := by decide +kernel
theorem dX9_valueOf_21 : decode cX9_valueOf 21 = .ok (.lconst 0, 1) := by decide +kernel
theorem dX9_valueOf_22 : decode cX9_valueOf 22 = .ok (.lreturn, 1) := by decide +kernel
theorem dX9_scan_0 : decode cX9_scan 0 = .ok (.aload_n 0, 1) := by decide +kernel
theorem dX9_scan_1 : decode cX9_scan 1 = .ok (.iconst 0, 1) := by decide +kernel
theorem dX9_scan_2 : decode cX9_scan 2 = .ok (.iload_n 1, 1) := by decide +kernel
theorem dX9_scan_3 : decode cX9_scan 3 = .ok (.aload_n 0, 1) := by decide +kernel
theorem dX9_scan_4 : decode cX9_scan 4 = .ok (.getfield 33, 3) := by decide +kernel
theorem dX9_scan_7 : decode cX9_scan 7 = .ok (.arraylength, 1) := by decide +kernel
theorem dX9_scan_8 : decode cX9_scan 8 = .ok (.invokestatic 53, 3) := by decide +kernel
theorem dX9_scan_11 : decode cX9_scan 11 = .ok (.invokestatic 59, 3) := by decide +kernel
theorem dX9_scan_14 : decode cX9_scan 14 = .ok (.putfield 30, 3) := by decide +kernel
theorem dX9_scan_17 : decode cX9_scan 17 = .ok (.aload_n 0, 1) := by decide +kernel
theorem dX9_scan_18 : decode cX9_scan 18 = .ok (.iconst 0, 1) := by decide +kernel
theorem dX9_scan_19 : decode cX9_scan 19 = .ok (.putfield 26, 3) := by decide +kernel
theorem dX9_scan_22 : decode cX9_scan 22 = .ok (.aload_n 0, 1) := by decide +kernel
theorem dX9_scan_23 : decode cX9_scan 23 = .ok (.iconst 0, 1) := by decide +kernel
theorem dX9_scan_24 : decode cX9_scan 24 = .ok (.invokevirtual 62, 3) := by decide +kernel
theorem dX9_scan_27 : decode cX9_scan 27 = .ok (.istore_n 2, 1) := by decide +kernel
theorem dX9_scan_28 : decode cX9_scan 28 = .ok (.iconst 0, 1) := by decide +kernel
theorem dX9_scan_29 : decode cX9_scan 29 = .ok (.istore_n 3, 1) := by decide +kernel
theorem dX9_scan_30 : decode cX9_scan 30 = .ok (.iload_n 3, 1) := by decide +kernel
theorem dX9_scan_31 : decode cX9_scan 31 = .ok (.sipush 401, 3) := by decide +kernel
theorem dX9_scan_34 : decode cX9_scan 34 = .ok (.if_icmp .ge 27, 3) := by decide +kernel
theorem dX9_scan_37 : decode cX9_scan 37 = .ok (.iload_n 2, 1) := by decide +kernel
theorem dX9_scan_38 : decode cX9_scan 38 = .ok (.aload_n 0, 1) := by decide +kernel
theorem dX9_scan_39 : decode cX9_scan 39 = .ok (.getfield 30, 3) := by decide +kernel
theorem dX9_scan_42 : decode cX9_scan 42 = .ok (.if_icmp .ge 19, 3) := by decide +kernel
theorem dX9_scan_45 : decode cX9_scan 45 = .ok (.aload_n 0, 1) := by decide +kernel
theorem dX9_scan_46 : decode cX9_scan 46 = .ok (.aload_n 0, 1) := by decide +kernel
theorem dX9_scan_47 : decode cX9_scan 47 = .ok (.iload_n 2, 1) := by decide +kernel
theorem dX9_scan_48 : decode cX9_scan 48 = .ok (.invokevirtual 66, 3) := by decide +kernel
theorem dX9_scan_51 : decode cX9_scan 51 = .ok (.invokevirtual 62, 3) := by decide +kernel
theorem dX9_scan_54 : decode cX9_scan 54 = .ok (.istore_n 2, 1) := by decide +kernel
theorem dX9_scan_55 : decode cX9_scan 55 = .ok (.iinc 3 1, 3) := by decide +kernel
theorem dX9_scan_58 : decode cX9_scan 58 = .ok (.goto (-28), 3) := by decide +kernel
theorem dX9_scan_61 : decode cX9_scan 61 = .ok (.return_, 1) := by decide +kernel
theorem dX9_keep_0 : decode cX9_keep 0 = .ok (.iload_n 1, 1) := by decide +kernel
theorem dX9_keep_1 : decode cX9_keep 1 = .ok (.iconst 1, 1) := by decide +kernel
theorem dX9_keep_2 : decode cX9_keep 2 = .ok (.iadd, 1) := by decide +kernel
theorem dX9_keep_3 : decode cX9_keep 3 = .ok (.istore_n 2, 1) := by decide +kernel
theorem dX9_keep_4 : decode cX9_keep 4 = .ok (.bipush 33, 2) := by decide +kernel
theorem dX9_keep_6 : decode cX9_keep 6 = .ok (.istore_n 3, 1) := by decide +kernel
theorem dX9_keep_7 : decode cX9_keep 7 = .ok (.lconst 0, 1) := by decide +kernel
theorem dX9_keep_8 : decode cX9_keep 8 = .ok (.lstore 4, 2) := by decide +kernel
theorem dX9_keep_10 : decode cX9_keep 10 = .ok (.aload_n 0, 1) := by decide +kernel
theorem dX9_keep_11 : decode cX9_keep 11 = .ok (.iload_n 1, 1) := by decide +kernel
theorem dX9_keep_12 : decode cX9_keep 12 = .ok (.invokevirtual 69, 3) := by decide +kernel
theorem dX9_keep_15 : decode cX9_keep 15 = .ok (.istore 6, 2) := by decide +kernel
theorem dX9_keep_17 : decode cX9_keep 17 = .ok (.iload 6, 2) := by decide +kernel
theorem dX9_keep_19 : decode cX9_keep 19 = .ok (.invokestatic 72, 3) := by decide +kernel
theorem dX9_keep_22 : decode cX9_keep 22 = .ok (.ifCond .eq 40, 3) := by decide +kernel
theorem dX9_keep_25 : decode cX9_keep 25 = .ok (.aload_n 0, 1) := by decide +kernel
theorem dX9_keep_26 : decode cX9_keep 26 = .ok (.iload_n 1, 1) := by decide +kernel
theorem dX9_keep_27 : decode cX9_keep 27 = .ok (.invokevirtual 76, 3) := by decide +kernel
theorem dX9_keep_30 : decode cX9_keep 30 = .ok (.istore_n 2, 1) := by decide +kernel
theorem dX9_keep_31 : decode cX9_keep 31 = .ok (.aload_n 0, 1) := by decide +kernel
theorem dX9_keep_32 : decode cX9_keep 32 = .ok (.iload_n 1, 1) := by decide +kernel
theorem dX9_keep_33 : decode cX9_keep 33 = .ok (.iload_n 2, 1) := by decide +kernel
theorem dX9_keep_34 : decode cX9_keep 34 = .ok (.invokevirtual 79, 3) := by decide +kernel
theorem dX9_keep_37 : decode cX9_keep 37 = .ok (.lstore 4, 2) := by decide +kernel
theorem dX9_keep_39 : decode cX9_keep 39 = .ok (.iload_n 2, 1) := by decide +kernel
theorem dX9_keep_40 : decode cX9_keep 40 = .ok (.iload_n 1, 1) := by decide +kernel
theorem dX9_keep_41 : decode cX9_keep 41 = .ok (.isub, 1) := by decide +kernel
theorem dX9_keep_42 : decode cX9_keep 42 = .ok (.bipush 8, 2) := by decide +kernel
theorem dX9_keep_44 : decode cX9_keep 44 = .ok (.if_icmp .le 8, 3) := by decide +kernel
theorem dX9_keep_47 : decode cX9_keep 47 = .ok (.bipush 33, 2) := by decide +kernel
theorem dX9_keep_49 : decode cX9_keep 49 = .ok (.goto 9, 3) := by decide +kernel
theorem dX9_keep_52 : decode cX9_keep 52 = .ok (.aload_n 0, 1) := by decide +kernel
theorem dX9_keep_53 : decode cX9_keep 53 = .ok (.lload 4, 2) := by decide +kernel
theorem dX9_keep_55 : decode cX9_keep 55 = .ok (.invokevirtual 83, 3) := by decide +kernel
theorem dX9_keep_58 : decode cX9_keep 58 = .ok (.istore_n 3, 1) := by decide +kernel
theorem dX9_keep_59 : decode cX9_keep 59 = .ok (.goto 55, 3) := by decide +kernel
theorem dX9_keep_62 : decode cX9_keep 62 = .ok (.iload 6, 2) := by decide +kernel
theorem dX9_keep_64 : decode cX9_keep 64 = .ok (.invokestatic 87, 3) := by decide +kernel
theorem dX9_keep_67 : decode cX9_keep 67 = .ok (.ifCond .eq 36, 3) := by decide +kernel
theorem dX9_keep_70 : decode cX9_keep 70 = .ok (.aload_n 0, 1) := by decide +kernel
theorem dX9_keep_71 : decode cX9_keep 71 = .ok (.iload_n 1, 1) := by decide +kernel
theorem dX9_keep_72 : decode cX9_keep 72 = .ok (.invokevirtual 90, 3) := by decide +kernel
theorem dX9_keep_75 : decode cX9_keep 75 = .ok (.istore_n 2, 1) := by decide +kernel
theorem dX9_keep_76 : decode cX9_keep 76 = .ok (.aload_n 0, 1) := by decide +kernel
theorem dX9_keep_77 : decode cX9_keep 77 = .ok (.iload_n 1, 1) := by decide +kernel
theorem dX9_keep_78 : decode cX9_keep 78 = .ok (.iload_n 2, 1) := by decide +kernel
theorem dX9_keep_79 : decode cX9_keep 79 = .ok (.invokevirtual 93, 3) := by decide +kernel
theorem dX9_keep_82 : decode cX9_keep 82 = .ok (.i2l, 1) := by decide +kernel
theorem dX9_keep_83 : decode cX9_keep 83 = .ok (.lstore 4, 2) := by decide +kernel
theorem dX9_keep_85 : decode cX9_keep 85 = .ok (.iload_n 2, 1) := by decide +kernel
theorem dX9_keep_86 : decode cX9_keep 86 = .ok (.iload_n 1, 1) := by decide +kernel
theorem dX9_keep_87 : decode cX9_keep 87 = .ok (.isub, 1) := by decide +kernel
theorem dX9_keep_88 : decode cX9_keep 88 = .ok (.iconst 4, 1) := by decide +kernel
theorem dX9_keep_89 : decode cX9_keep 89 = .ok (.if_icmp .le 8, 3) := by decide +kernel
theorem dX9_keep_92 : decode cX9_keep 92 = .ok (.bipush 33, 2) := by decide +kernel
theorem dX9_keep_94 : decode cX9_keep 94 = .ok (.goto 5, 3) := by decide +kernel
theorem dX9_keep_97 : decode cX9_keep 97 = .ok (.bipush 30, 2) := by decide +kernel
theorem dX9_keep_99 : decode cX9_keep 99 = .ok (.istore_n 3, 1) := by decide +kernel
theorem dX9_keep_100 : decode cX9_keep 100 = .ok (.goto 14, 3) := by decide +kernel
theorem dX9_keep_103 : decode cX9_keep 103 = .ok (.iload 6, 2) := by decide +kernel
theorem dX9_keep_105 : decode cX9_keep 105 = .ok (.invokestatic 96, 3) := by decide +kernel
theorem dX9_keep_108 : decode cX9_keep 108 = .ok (.ifCond .eq 6, 3) := by decide +kernel
theorem dX9_keep_111 : decode cX9_keep 111 = .ok (.iload 6, 2) := by decide +kernel
theorem dX9_keep_113 : decode cX9_keep 113 = .ok (.istore_n 3, 1) := by decide +kernel
theorem dX9_keep_114 : decode cX9_keep 114 = .ok (.aload_n 0, 1) := by decide +kernel
theorem dX9_keep_115 : decode cX9_keep 115 = .ok (.getfield 26, 3) := by decide +kernel
theorem dX9_keep_118 : decode cX9_keep 118 = .ok (.sipush 401, 3) := by decide +kernel
theorem dX9_keep_121 : decode cX9_keep 121 = .ok (.if_icmp .ge 46, 3) := by decide +kernel
theorem dX9_keep_124 : decode cX9_keep 124 = .ok (.aload_n 0, 1) := by decide +kernel
theorem dX9_keep_125 : decode cX9_keep 125 = .ok (.getfield 15, 3) := by decide +kernel
theorem dX9_keep_128 : decode cX9_keep 128 = .ok (.aload_n 0, 1) := by decide +kernel
theorem dX9_keep_129 : decode cX9_keep 129 = .ok (.getfield 26, 3) := by decide +kernel
theorem dX9_keep_132 : decode cX9_keep 132 = .ok (.iload_n 3, 1) := by decide +kernel
theorem dX9_keep_133 : decode cX9_keep 133 = .ok (.i2b, 1) := by decide +kernel
theorem dX9_keep_134 : decode cX9_keep 134 = .ok (.bastore, 1) := by decide +kernel
theorem dX9_keep_135 : decode cX9_keep 135 = .ok (.aload_n 0, 1) := by decide +kernel
theorem dX9_keep_136 : decode cX9_keep 136 = .ok (.getfield 19, 3) := by decide +kernel
theorem dX9_keep_139 : decode cX9_keep 139 = .ok (.aload_n 0, 1) := by decide +kernel
theorem dX9_keep_140 : decode cX9_keep 140 = .ok (.getfield 26, 3) := by decide +kernel
theorem dX9_keep_143 : decode cX9_keep 143 = .ok (.iload_n 1, 1) := by decide +kernel
theorem dX9_keep_144 : decode cX9_keep 144 = .ok (.i2s, 1) := by decide +kernel
theorem dX9_keep_145 : decode cX9_keep 145 = .ok (.sastore, 1) := by decide +kernel
theorem dX9_keep_146 : decode cX9_keep 146 = .ok (.aload_n 0, 1) := by decide +kernel
theorem dX9_keep_147 : decode cX9_keep 147 = .ok (.getfield 23, 3) := by decide +kernel
theorem dX9_keep_150 : decode cX9_keep 150 = .ok (.aload_n 0, 1) := by decide +kernel
theorem dX9_keep_151 : decode cX9_keep 151 = .ok (.getfield 26, 3) := by decide +kernel
theorem dX9_keep_154 : decode cX9_keep 154 = .ok (.lload 4, 2) := by decide +kernel
theorem dX9_keep_156 : decode cX9_keep 156 = .ok (.lastore, 1) := by decide +kernel
theorem dX9_keep_157 : decode cX9_keep 157 = .ok (.aload_n 0, 1) := by decide +kernel
theorem dX9_keep_158 : decode cX9_keep 158 = .ok (.dup, 1) := by decide +kernel
theorem dX9_keep_159 : decode cX9_keep 159 = .ok (.getfield 26, 3) := by decide +kernel
theorem dX9_keep_162 : decode cX9_keep 162 = .ok (.iconst 1, 1) := by decide +kernel
theorem dX9_keep_163 : decode cX9_keep 163 = .ok (.iadd, 1) := by decide +kernel
theorem dX9_keep_164 : decode cX9_keep 164 = .ok (.putfield 26, 3) := by decide +kernel
theorem dX9_keep_167 : decode cX9_keep 167 = .ok (.iload_n 2, 1) := by decide +kernel
theorem dX9_keep_168 : decode cX9_keep 168 = .ok (.ireturn, 1) := by decide +kernel
theorem dX9_signAt_0 : decode cX9_signAt 0 = .ok (.iload_n 1, 1) := by decide +kernel
theorem dX9_signAt_1 : decode cX9_signAt 1 = .ok (.ifCond .lt 33, 3) := by decide +kernel
theorem dX9_signAt_4 : decode cX9_signAt 4 = .ok (.iload_n 1, 1) := by decide +kernel
theorem dX9_signAt_5 : decode cX9_signAt 5 = .ok (.aload_n 0, 1) := by decide +kernel
theorem dX9_signAt_6 : decode cX9_signAt 6 = .ok (.getfield 30, 3) := by decide +kernel
theorem dX9_signAt_9 : decode cX9_signAt 9 = .ok (.if_icmp .ge 25, 3) := by decide +kernel
theorem dX9_signAt_12 : decode cX9_signAt 12 = .ok (.iload_n 1, 1) := by decide +kernel
theorem dX9_signAt_13 : decode cX9_signAt 13 = .ok (.aload_n 0, 1) := by decide +kernel
theorem dX9_signAt_14 : decode cX9_signAt 14 = .ok (.getfield 33, 3) := by decide +kernel
theorem dX9_signAt_17 : decode cX9_signAt 17 = .ok (.arraylength, 1) := by decide +kernel
theorem dX9_signAt_18 : decode cX9_signAt 18 = .ok (.if_icmp .ge 16, 3) := by decide +kernel
theorem dX9_signAt_21 : decode cX9_signAt 21 = .ok (.aload_n 0, 1) := by decide +kernel
theorem dX9_signAt_22 : decode cX9_signAt 22 = .ok (.getfield 33, 3) := by decide +kernel
theorem dX9_signAt_25 : decode cX9_signAt 25 = .ok (.iload_n 1, 1) := by decide +kernel
theorem dX9_signAt_26 : decode cX9_signAt 26 = .ok (.baload, 1) := by decide +kernel
theorem dX9_signAt_27 : decode cX9_signAt 27 = .ok (.sipush 255, 3) := by decide +kernel
theorem dX9_signAt_30 : decode cX9_signAt 30 = .ok (.iand, 1) := by decide +kernel
theorem dX9_signAt_31 : decode cX9_signAt 31 = .ok (.goto 4, 3) := by decide +kernel
theorem dX9_signAt_34 : decode cX9_signAt 34 = .ok (.iconst 0, 1) := by decide +kernel
theorem dX9_signAt_35 : decode cX9_signAt 35 = .ok (.ireturn, 1) := by decide +kernel
theorem dX9_behindBlanks_0 : decode cX9_behindBlanks 0 = .ok (.iload_n 1, 1) := by decide +kernel
theorem dX9_behindBlanks_1 : decode cX9_behindBlanks 1 = .ok (.istore_n 2, 1) := by decide +kernel
theorem dX9_behindBlanks_2 : decode cX9_behindBlanks 2 = .ok (.iload_n 2, 1) := by decide +kernel
theorem dX9_behindBlanks_3 : decode cX9_behindBlanks 3 = .ok (.aload_n 0, 1) := by decide +kernel
theorem dX9_behindBlanks_4 : decode cX9_behindBlanks 4 = .ok (.getfield 30, 3) := by decide +kernel
theorem dX9_behindBlanks_7 : decode cX9_behindBlanks 7 = .ok (.if_icmp .ge 20, 3) := by decide +kernel
theorem dX9_behindBlanks_10 : decode cX9_behindBlanks 10 = .ok (.aload_n 0, 1) := by decide +kernel
theorem dX9_behindBlanks_11 : decode cX9_behindBlanks 11 = .ok (.iload_n 2, 1) := by decide +kernel
theorem dX9_behindBlanks_12 : decode cX9_behindBlanks 12 = .ok (.invokevirtual 69, 3) := by decide +kernel
theorem dX9_behindBlanks_15 : decode cX9_behindBlanks 15 = .ok (.invokestatic 99, 3) := by decide +kernel
theorem dX9_behindBlanks_18 : decode cX9_behindBlanks 18 = .ok (.ifCond .eq 9, 3) := by decide +kernel
theorem dX9_behindBlanks_21 : decode cX9_behindBlanks 21 = .ok (.iinc 2 1, 3) := by decide +kernel
theorem dX9_behindBlanks_24 : decode cX9_behindBlanks 24 = .ok (.goto (-22), 3) := by decide +kernel
theorem dX9_behindBlanks_27 : decode cX9_behindBlanks 27 = .ok (.iload_n 2, 1) := by decide +kernel
theorem dX9_behindBlanks_28 : decode cX9_behindBlanks 28 = .ok (.ireturn, 1) := by decide +kernel
theorem dX9_behindLetters_0 : decode cX9_behindLetters 0 = .ok (.iload_n 1, 1) := by decide +kernel
theorem dX9_behindLetters_1 : decode cX9_behindLetters 1 = .ok (.istore_n 2, 1) := by decide +kernel
theorem dX9_behindLetters_2 : decode cX9_behindLetters 2 = .ok (.iload_n 2, 1) := by decide +kernel
theorem dX9_behindLetters_3 : decode cX9_behindLetters 3 = .ok (.aload_n 0, 1) := by decide +kernel
theorem dX9_behindLetters_4 : decode cX9_behindLetters 4 = .ok (.getfield 30, 3) := by decide +kernel
theorem dX9_behindLetters_7 : decode cX9_behindLetters 7 = .ok (.if_icmp .ge 20, 3) := by decide +kernel
theorem dX9_behindLetters_10 : decode cX9_behindLetters 10 = .ok (.aload_n 0, 1) := by decide +kernel
theorem dX9_behindLetters_11 : decode cX9_behindLetters 11 = .ok (.iload_n 2, 1) := by decide +kernel
theorem dX9_behindLetters_12 : decode cX9_behindLetters 12 = .ok (.invokevirtual 69, 3) := by decide +kernel
theorem dX9_behindLetters_15 : decode cX9_behindLetters 15 = .ok (.invokestatic 72, 3) := by decide +kernel
theorem dX9_behindLetters_18 : decode cX9_behindLetters 18 = .ok (.ifCond .eq 9, 3) := by decide +kernel
theorem dX9_behindLetters_21 : decode cX9_behindLetters 21 = .ok (.iinc 2 1, 3) := by decide +kernel
theorem dX9_behindLetters_24 : decode cX9_behindLetters 24 = .ok (.goto (-22), 3) := by decide +kernel
theorem dX9_behindLetters_27 : decode cX9_behindLetters 27 = .ok (.iload_n 2, 1) := by decide +kernel
theorem dX9_behindLetters_28 : decode cX9_behindLetters 28 = .ok (.ireturn, 1) := by decide +kernel
theorem dX9_behindDigits_0 : decode cX9_behindDigits 0 = .ok (.iload_n 1, 1) := by decide +kernel
theorem dX9_behindDigits_1 : decode cX9_behindDigits 1 = .ok (.istore_n 2, 1) := by decide +kernel
theorem dX9_behindDigits_2 : decode cX9_behindDigits 2 = .ok (.iload_n 2, 1) := by decide +kernel
theorem dX9_behindDigits_3 : decode cX9_behindDigits 3 = .ok (.aload_n 0, 1) := by decide +kernel
theorem dX9_behindDigits_4 : decode cX9_behindDigits 4 = .ok (.getfield 30, 3) := by decide +kernel
theorem dX9_behindDigits_7 : decode cX9_behindDigits 7 = .ok (.if_icmp .ge 20, 3) := by decide +kernel
theorem dX9_behindDigits_10 : decode cX9_behindDigits 10 = .ok (.aload_n 0, 1) := by decide +kernel
theorem dX9_behindDigits_11 : decode cX9_behindDigits 11 = .ok (.iload_n 2, 1) := by decide +kernel
theorem dX9_behindDigits_12 : decode cX9_behindDigits 12 = .ok (.invokevirtual 69, 3) := by decide +kernel
theorem dX9_behindDigits_15 : decode cX9_behindDigits 15 = .ok (.invokestatic 87, 3) := by decide +kernel
theorem dX9_behindDigits_18 : decode cX9_behindDigits 18 = .ok (.ifCond .eq 9, 3) := by decide +kernel
theorem dX9_behindDigits_21 : decode cX9_behindDigits 21 = .ok (.iinc 2 1, 3) := by decide +kernel
theorem dX9_behindDigits_24 : decode cX9_behindDigits 24 = .ok (.goto (-22), 3) := by decide +kernel
theorem dX9_behindDigits_27 : decode cX9_behindDigits 27 = .ok (.iload_n 2, 1) := by decide +kernel
theorem dX9_behindDigits_28 : decode cX9_behindDigits 28 = .ok (.ireturn, 1) := by decide +kernel
theorem dX9_lettersOf_0 : decode cX9_lettersOf 0 = .ok (.lconst 0, 1) := by decide +kernel
theorem dX9_lettersOf_1 : decode cX9_lettersOf 1 = .ok (.lstore_n 3, 1) := by decide +kernel
theorem dX9_lettersOf_2 : decode cX9_lettersOf 2 = .ok (.iload_n 1, 1) := by decide +kernel
theorem dX9_lettersOf_3 : decode cX9_lettersOf 3 = .ok (.istore 5, 2) := by decide +kernel
theorem dX9_lettersOf_5 : decode cX9_lettersOf 5 = .ok (.iload 5, 2) := by decide +kernel
theorem dX9_lettersOf_7 : decode cX9_lettersOf 7 = .ok (.iload_n 2, 1) := by decide +kernel
theorem dX9_lettersOf_8 : decode cX9_lettersOf 8 = .ok (.if_icmp .ge 20, 3) := by decide +kernel
theorem dX9_lettersOf_11 : decode cX9_lettersOf 11 = .ok (.lload_n 3, 1) := by decide +kernel
theorem dX9_lettersOf_12 : decode cX9_lettersOf 12 = .ok (.aload_n 0, 1) := by decide +kernel
theorem dX9_lettersOf_13 : decode cX9_lettersOf 13 = .ok (.iload 5, 2) := by decide +kernel
theorem dX9_lettersOf_15 : decode cX9_lettersOf 15 = .ok (.invokevirtual 69, 3) := by decide +kernel
theorem dX9_lettersOf_18 : decode cX9_lettersOf 18 = .ok (.invokestatic 47, 3) := by decide +kernel
theorem dX9_lettersOf_21 : decode cX9_lettersOf 21 = .ok (.lstore_n 3, 1) := by decide +kernel
theorem dX9_lettersOf_22 : decode cX9_lettersOf 22 = .ok (.iinc 5 1, 3) := by decide +kernel
theorem dX9_lettersOf_25 : decode cX9_lettersOf 25 = .ok (.goto (-20), 3) := by decide +kernel
theorem dX9_lettersOf_28 : decode cX9_lettersOf 28 = .ok (.lload_n 3, 1) := by decide +kernel
theorem dX9_lettersOf_29 : decode cX9_lettersOf 29 = .ok (.lreturn, 1) := by decide +kernel
theorem dX9_kindOfLetters_0 : decode cX9_kindOfLetters 0 = .ok (.iconst 0, 1) := by decide +kernel
theorem dX9_kindOfLetters_1 : decode cX9_kindOfLetters 1 = .ok (.istore_n 3, 1) := by decide +kernel
theorem dX9_kindOfLetters_2 : decode cX9_kindOfLetters 2 = .ok (.iload_n 3, 1) := by decide +kernel
theorem dX9_kindOfLetters_3 : decode cX9_kindOfLetters 3 = .ok (.bipush 22, 2) := by decide +kernel
theorem dX9_kindOfLetters_5 : decode cX9_kindOfLetters 5 = .ok (.if_icmp .ge 22, 3) := by decide +kernel
theorem dX9_kindOfLetters_8 : decode cX9_kindOfLetters 8 = .ok (.aload_n 0, 1) := by decide +kernel
theorem dX9_kindOfLetters_9 : decode cX9_kindOfLetters 9 = .ok (.getfield 11, 3) := by decide +kernel
theorem dX9_kindOfLetters_12 : decode cX9_kindOfLetters 12 = .ok (.iload_n 3, 1) := by decide +kernel
theorem dX9_kindOfLetters_13 : decode cX9_kindOfLetters 13 = .ok (.laload, 1) := by decide +kernel
theorem dX9_kindOfLetters_14 : decode cX9_kindOfLetters 14 = .ok (.lload_n 1, 1) := by decide +kernel
theorem dX9_kindOfLetters_15 : decode cX9_kindOfLetters 15 = .ok (.lcmp, 1) := by decide +kernel
theorem dX9_kindOfLetters_16 : decode cX9_kindOfLetters 16 = .ok (.ifCond .ne 5, 3) := by decide +kernel
theorem dX9_kindOfLetters_19 : decode cX9_kindOfLetters 19 = .ok (.iload_n 3, 1) := by decide +kernel
theorem dX9_kindOfLetters_20 : decode cX9_kindOfLetters 20 = .ok (.ireturn, 1) := by decide +kernel
theorem dX9_kindOfLetters_21 : decode cX9_kindOfLetters 21 = .ok (.iinc 3 1, 3) := by decide +kernel
theorem dX9_kindOfLetters_24 : decode cX9_kindOfLetters 24 = .ok (.goto (-22), 3) := by decide +kernel
theorem dX9_kindOfLetters_27 : decode cX9_kindOfLetters 27 = .ok (.bipush 31, 2) := by decide +kernel
theorem dX9_kindOfLetters_29 : decode cX9_kindOfLetters 29 = .ok (.ireturn, 1) := by decide +kernel
theorem dX9_numberOf_0 : decode cX9_numberOf 0 = .ok (.iconst 0, 1) := by decide +kernel
theorem dX9_numberOf_1 : decode cX9_numberOf 1 = .ok (.istore_n 3, 1) := by decide +kernel
theorem dX9_numberOf_2 : decode cX9_numberOf 2 = .ok (.iload_n 1, 1) := by decide +kernel
theorem dX9_numberOf_3 : decode cX9_numberOf 3 = .ok (.istore 4, 2) := by decide +kernel
theorem dX9_numberOf_5 : decode cX9_numberOf 5 = .ok (.iload 4, 2) := by decide +kernel
theorem dX9_numberOf_7 : decode cX9_numberOf 7 = .ok (.iload_n 2, 1) := by decide +kernel
theorem dX9_numberOf_8 : decode cX9_numberOf 8 = .ok (.if_icmp .ge 24, 3) := by decide +kernel
theorem dX9_numberOf_11 : decode cX9_numberOf 11 = .ok (.bipush 10, 2) := by decide +kernel
theorem dX9_numberOf_13 : decode cX9_numberOf 13 = .ok (.iload_n 3, 1) := by decide +kernel
theorem dX9_numberOf_14 : decode cX9_numberOf 14 = .ok (.imul, 1) := by decide +kernel
theorem dX9_numberOf_15 : decode cX9_numberOf 15 = .ok (.aload_n 0, 1) := by decide +kernel
theorem dX9_numberOf_16 : decode cX9_numberOf 16 = .ok (.iload 4, 2) := by decide +kernel
theorem dX9_numberOf_18 : decode cX9_numberOf 18 = .ok (.invokevirtual 69, 3) := by decide +kernel
theorem dX9_numberOf_21 : decode cX9_numberOf 21 = .ok (.bipush 48, 2) := by decide +kernel
theorem dX9_numberOf_23 : decode cX9_numberOf 23 = .ok (.isub, 1) := by decide +kernel
theorem dX9_numberOf_24 : decode cX9_numberOf 24 = .ok (.iadd, 1) := by decide +kernel
theorem dX9_numberOf_25 : decode cX9_numberOf 25 = .ok (.istore_n 3, 1) := by decide +kernel
theorem dX9_numberOf_26 : decode cX9_numberOf 26 = .ok (.iinc 4 1, 3) := by decide +kernel
theorem dX9_numberOf_29 : decode cX9_numberOf 29 = .ok (.goto (-24), 3) := by decide +kernel
theorem dX9_numberOf_32 : decode cX9_numberOf 32 = .ok (.iload_n 3, 1) := by decide +kernel
theorem dX9_numberOf_33 : decode cX9_numberOf 33 = .ok (.ireturn, 1) := by decide +kernel
theorem dX9_isBlank_0 : decode cX9_isBlank 0 = .ok (.iload_n 0, 1) := by decide +kernel
theorem dX9_isBlank_1 : decode cX9_isBlank 1 = .ok (.bipush 9, 2) := by decide +kernel
theorem dX9_isBlank_3 : decode cX9_isBlank 3 = .ok (.if_icmp .eq 21, 3) := by decide +kernel
theorem dX9_isBlank_6 : decode cX9_isBlank 6 = .ok (.iload_n 0, 1) := by decide +kernel
theorem dX9_isBlank_7 : decode cX9_isBlank 7 = .ok (.bipush 10, 2) := by decide +kernel
theorem dX9_isBlank_9 : decode cX9_isBlank 9 = .ok (.if_icmp .eq 15, 3) := by decide +kernel
theorem dX9_isBlank_12 : decode cX9_isBlank 12 = .ok (.iload_n 0, 1) := by decide +kernel
theorem dX9_isBlank_13 : decode cX9_isBlank 13 = .ok (.bipush 13, 2) := by decide +kernel
theorem dX9_isBlank_15 : decode cX9_isBlank 15 = .ok (.if_icmp .eq 9, 3) := by decide +kernel
theorem dX9_isBlank_18 : decode cX9_isBlank 18 = .ok (.iload_n 0, 1) := by decide +kernel
theorem dX9_isBlank_19 : decode cX9_isBlank 19 = .ok (.bipush 32, 2) := by decide +kernel
theorem dX9_isBlank_21 : decode cX9_isBlank 21 = .ok (.if_icmp .ne 7, 3) := by decide +kernel
theorem dX9_isBlank_24 : decode cX9_isBlank 24 = .ok (.iconst 1, 1) := by decide +kernel
theorem dX9_isBlank_25 : decode cX9_isBlank 25 = .ok (.goto 4, 3) := by decide +kernel
theorem dX9_isBlank_28 : decode cX9_isBlank 28 = .ok (.iconst 0, 1) := by decide +kernel
theorem dX9_isBlank_29 : decode cX9_isBlank 29 = .ok (.ireturn, 1) := by decide +kernel
theorem dX9_isLetter_0 : decode cX9_isLetter 0 = .ok (.iload_n 0, 1) := by decide +kernel
theorem dX9_isLetter_1 : decode cX9_isLetter 1 = .ok (.bipush 97, 2) := by decide +kernel
theorem dX9_isLetter_3 : decode cX9_isLetter 3 = .ok (.if_icmp .lt 13, 3) := by decide +kernel
theorem dX9_isLetter_6 : decode cX9_isLetter 6 = .ok (.iload_n 0, 1) := by decide +kernel
theorem dX9_isLetter_7 : decode cX9_isLetter 7 = .ok (.bipush 122, 2) := by decide +kernel
theorem dX9_isLetter_9 : decode cX9_isLetter 9 = .ok (.if_icmp .gt 7, 3) := by decide +kernel
theorem dX9_isLetter_12 : decode cX9_isLetter 12 = .ok (.iconst 1, 1) := by decide +kernel
theorem dX9_isLetter_13 : decode cX9_isLetter 13 = .ok (.goto 4, 3) := by decide +kernel
theorem dX9_isLetter_16 : decode cX9_isLetter 16 = .ok (.iconst 0, 1) := by decide +kernel
theorem dX9_isLetter_17 : decode cX9_isLetter 17 = .ok (.ireturn, 1) := by decide +kernel
theorem dX9_isDigit_0 : decode cX9_isDigit 0 = .ok (.iload_n 0, 1) := by decide +kernel
theorem dX9_isDigit_1 : decode cX9_isDigit 1 = .ok (.bipush 48, 2) := by decide +kernel
theorem dX9_isDigit_3 : decode cX9_isDigit 3 = .ok (.if_icmp .lt 13, 3) := by decide +kernel
theorem dX9_isDigit_6 : decode cX9_isDigit 6 = .ok (.iload_n 0, 1) := by decide +kernel
theorem dX9_isDigit_7 : decode cX9_isDigit 7 = .ok (.bipush 57, 2) := by decide +kernel
theorem dX9_isDigit_9 : decode cX9_isDigit 9 = .ok (.if_icmp .gt 7, 3) := by decide +kernel
theorem dX9_isDigit_12 : decode cX9_isDigit 12 = .ok (.iconst 1, 1) := by decide +kernel
theorem dX9_isDigit_13 : decode cX9_isDigit 13 = .ok (.goto 4, 3) := by decide +kernel
theorem dX9_isDigit_16 : decode cX9_isDigit 16 = .ok (.iconst 0, 1) := by decide +kernel
theorem dX9_isDigit_17 : decode cX9_isDigit 17 = .ok (.ireturn, 1) := by decide +kernel
theorem dX9_isSign_0 : decode cX9_isSign 0 = .ok (.iload_n 0, 1) := by decide +kernel
theorem dX9_isSign_1 : decode cX9_isSign 1 = .ok (.tableswitch 105 40 61 #[103, 103, 103, 103, 105, 103, 105, 103, 105, 105, 105, 105, 105, 105, 105, 105, 105, 105, 105, 103, 103, 103], 103) := by decide +kernel
theorem dX9_isSign_104 : decode cX9_isSign 104 = .ok (.iconst 1, 1) := by decide +kernel
theorem dX9_isSign_105 : decode cX9_isSign 105 = .ok (.ireturn, 1) := by decide +kernel
theorem dX9_isSign_106 : decode cX9_isSign 106 = .ok (.iconst 0, 1) := by decide +kernel
theorem dX9_isSign_107 : decode cX9_isSign 107 = .ok (.ireturn, 1) := by decide +kernel
end
section
/-! small helps for laid rows -/
def rfT : List (List (Nat × Nat)) := (List.range 275).map (fun a => (rfL.filter (fun q => q.1 == a)).map (fun q => q.2))
/-- what the reference fields and rows of references hold, once both systems are made -/
def R0 (a k : Nat) : Option Nat := (rfL.find? (fun q => q.1 == a && q.2.1 == k)).map (fun q => q.2.2)
/-- both systems are made -/
def G (h : Hp) : Prop := hn h = 275 ∧ ∀ q ∈ rfL, hr h q.1 q.2.1 = some q.2.2
theorem ltG {h : Hp} {a : Nat} (hG : G h) (h1 : a < 275) : a < hn h := by rw [hG.1]; exact h1
theorem rG {h : Hp} {a k q : Nat} (hG : G h) (e : R0 a k = some q) : hr h a k = some q := by
  unfold R0 at e
  obtain ⟨z, hz, rfl⟩ := Option.map_eq_some_iff.mp e
  have h1 := List.find?_some hz
  have h2 := List.mem_of_find?_eq_some hz
  simp only [Bool.and_eq_true, beq_iff_eq] at h1
  rw [← h1.1, ← h1.2]
  exact hG.2 z h2
def ixB (i : Int32) (n j : Nat) : Bool := decide (0 ≤ i) && decide (i.toNatClampNeg < n) && (i.toNatClampNeg == j)
theorem ixK {i : Int32} {n : Nat} (j : Nat) (h : ixB i n j = true) : ix i n j := by
  simp only [ixB, Bool.and_eq_true, decide_eq_true_eq, beq_iff_eq] at h
  refine ⟨fun q => ?_, h.2⟩
  rcases q with q | q
  · have h1 := Int32.le_iff_toInt_le.mp h.1.1
    have h2 := Int32.lt_iff_toInt_lt.mp q
    omega
  · omega
def nlB (la : List (Option Value)) : Nat → Bool
  | 0 => true
  | j + 1 => match la[j]? with
    | some (some (.long _)) => false
    | some (some (.double _)) => false
    | _ => true
theorem nlT {la : List (Option Value)} {i : Nat} (h : nlB la i = true) : nlA la i := by
  intro j w hj hw
  subst hj
  simp only [nlB, hw] at h
  cases w <;> first | rfl | (simp at h; done)
/-- an answer that leaves the cells as they are -/
abbrev Kp (M : MT) (d : Nat) (as : List Value) (h : Hp) (v : Value) : Prop := Kc M d as h (fun r h' => r = some v ∧ h' = h)
/-- a cell is a scene's object, its rows behind it -/
def Sc (a : Nat) : Prop := shp a = .inl 8 ∧ shp (a + 1) = .inr (.byte, 25) ∧ shp (a + 2) = .inr (.int, 5) ∧ shp (a + 3) = .inr (.int, 5) ∧ a + 3 < 275 ∧ R0 a 4 = some (a + 1) ∧ R0 a 5 = some (a + 2) ∧ R0 a 6 = some (a + 3)
def b2i (p : Bool) : Int32 := if p then 1 else 0
def IsFd (a : Nat) : Prop := shp a = .inl 3 ∧ a < 275
def IsLw (a : Nat) : Prop := shp a = .inl 4 ∧ shp (a + 1) = .inr (.int, 404) ∧ shp (a + 2) = .inr (.int, 4) ∧ shp (a + 3) = .inr (.int, 16) ∧ a + 3 < 275 ∧ R0 a 0 = some (a + 1) ∧ R0 a 1 = some (a + 2) ∧ R0 a 2 = some (a + 3)
def IsBd (a : Nat) : Prop := shp a = .inl 0 ∧ IsFd (a + 1) ∧ IsLw (a + 2) ∧ shp (a + 6) = .inr (.int, 9) ∧ a + 6 < 275 ∧ R0 a 0 = some (a + 1) ∧ R0 a 1 = some (a + 2) ∧ R0 a 5 = some (a + 6)
theorem vp1 {x : Int32} {n : Nat} (hn : n < 2 ^ 31) (h0 : ¬ x < 0) (h1 : ¬ Int32.ofNat n ≤ x) : vp_in x n := by
  obtain ⟨j, hj, rfl⟩ := nI_of h0
  refine vp_in_nI ?_ hn
  rcases Nat.lt_or_ge j n with q | q
  · exact q
  · exact absurd (nI_le q hj) h1
theorem vp2 {x : Int32} {n : Nat} (hn : n < 2 ^ 31) (h0 : 0 ≤ x) (h1 : ¬ Int32.ofNat n ≤ x) : vp_in x n := vp1 hn (Int32.not_lt.mpr h0) h1
theorem vp3 {x : Int32} {n : Nat} (hn : n < 2 ^ 31) (h0 : ¬ x < 0) (h1 : x < Int32.ofNat n) : vp_in x n := vp1 hn h0 (Int32.not_le.mpr h1)
theorem vp4 {x : Int32} {n : Nat} (hn : n < 2 ^ 31) (h0 : 0 ≤ x) (h1 : x < Int32.ofNat n) : vp_in x n := vp1 hn (Int32.not_lt.mpr h0) (Int32.not_le.mpr h1)
theorem G_wrI {h : Hp} {a k : Nat} {v : Int32} (hG : G h) : G (wrI h a k v) := hG
theorem G_wrL {h : Hp} {a k : Nat} {v : Int64} (hG : G h) : G (wrL h a k v) := hG
theorem G_wrA {h : Hp} {a : Nat} {f : Nat → Int32} (hG : G h) : G (wrA h a f) := hG
theorem sc_10 : Sc 10 := by unfold Sc; decide +kernel
theorem sc_30 : Sc 30 := by unfold Sc; decide +kernel
theorem sc_34 : Sc 34 := by unfold Sc; decide +kernel
theorem fd_4 : IsFd 4 := by unfold IsFd; decide +kernel
theorem fd_24 : IsFd 24 := by unfold IsFd; decide +kernel
theorem lw_5 : IsLw 5 := by unfold IsLw; decide +kernel
theorem lw_25 : IsLw 25 := by unfold IsLw; decide +kernel
theorem bd_3 : IsBd 3 := ⟨by decide +kernel, fd_4, lw_5, by decide +kernel, by decide +kernel, by decide +kernel, by decide +kernel, by decide +kernel⟩
theorem bd_23 : IsBd 23 := ⟨by decide +kernel, fd_24, lw_25, by decide +kernel, by decide +kernel, by decide +kernel, by decide +kernel, by decide +kernel⟩
end
section
/-! helps for methods as functions with fuel and checks -/
theorem ck_some {α : Type} {c : Prop} [Decidable c] {A : Option α} {x : α} (h : (if c then A else none) = some x) : c ∧ A = some x := by
  by_cases k : c
  · rw [if_pos k] at h; exact ⟨k, h⟩
  · rw [if_neg k] at h; cases h
theorem ck_none {α : Type} {c : Prop} [Decidable c] {A : Option α} {x : α} (h : (if c then none else A) = some x) : ¬ c ∧ A = some x := by
  by_cases k : c
  · rw [if_pos k] at h; cases h
  · rw [if_neg k] at h; exact ⟨k, h⟩
def ixOK (i : Int32) (n : Nat) : Bool := decide (0 ≤ i) && decide (i.toNatClampNeg < n)
theorem ixO {i : Int32} {n : Nat} (h : ixOK i n = true) : ix i n i.toNatClampNeg := ixK _ (by
  simp only [ixOK, Bool.and_eq_true, decide_eq_true_eq] at h
  simp [ixB, h.1, h.2])
theorem ixO_lt {i : Int32} {n : Nat} (h : ixOK i n = true) : i.toNatClampNeg < n := by
  simp only [ixOK, Bool.and_eq_true, decide_eq_true_eq] at h
  exact h.2
/-- la2 knows no more than la -/
def wk : List (Option Value) → List (Option Value) → Prop
  | [], _ => True
  | none :: l2, l => wk l2 l.tail
  | some v :: l2, l => l.head? = some (some v) ∧ wk l2 l.tail
theorem wk_at : ∀ (l2 l : List (Option Value)), wk l2 l → ∀ (i : Nat) (v : Value), l2[i]? = some (some v) → l[i]? = some (some v)
  | [], _, _, i, v, h => by simp at h
  | none :: l2, l, hw, i, v, h => by
    cases i with
    | zero => simp at h
    | succ i =>
      have := wk_at l2 l.tail hw i v (by simpa using h)
      cases l with
      | nil => simp at this
      | cons x l => simpa using this
  | some w :: l2, l, hw, i, v, h => by
    obtain ⟨h1, h2⟩ := hw
    cases l with
    | nil => simp at h1
    | cons x l =>
      cases i with
      | zero => simp at h h1 ⊢; rw [h1, h]
      | succ i =>
        have := wk_at l2 l h2 i v (by simpa using h)
        simpa using this
theorem V.weak {M : MT} {d pc : Nat} {la la2 : List (Option Value)} {st : List Value} {h : Hp} {Q : Option Value → Hp → Prop} (hw : wk la2 la) (k : V M d pc la2 st h Q) : V M d pc la st h Q := by
  obtain ⟨r, h', hQ, hle, hX⟩ := k
  exact ⟨r, h', hQ, hle, fun l b n0 D g p e s m args below meth c H locs ls C hn0 hz hP hS hl => hX l b n0 D g p e s m args below meth c H locs ls C hn0 hz hP hS ⟨hl.1, hl.2.1, fun i v hi => hl.2.2 i v (wk_at _ _ hw i v hi)⟩⟩
theorem shS {a : Nat} (h : Sc a) : shp a = .inl 8 := h.1
theorem past_ok : ∀ j, j < 40 → R0 39 j = some (40 + 4 * j) := by decide +kernel
theorem rPast {h : Hp} {j : Nat} (hG : G h) (hj : j < 40) : hr h 39 j = some (40 + 4 * j) := rG hG (past_ok j hj)
theorem slot_ok : ∀ j, j < 3 → R0 200 j = some (214 + 4 * j) := by decide +kernel
theorem rSlot {h : Hp} {j : Nat} (hG : G h) (hj : j < 3) : hr h 200 j = some (214 + 4 * j) := rG hG (slot_ok j hj)
theorem scPast0 : ∀ j, j < 40 → shp (40 + 4 * j) = .inl 8 ∧ shp (40 + 4 * j + 1) = .inr (.byte, 25) ∧ shp (40 + 4 * j + 2) = .inr (.int, 5) ∧ shp (40 + 4 * j + 3) = .inr (.int, 5) ∧ 40 + 4 * j + 3 < 275 ∧ R0 (40 + 4 * j) 4 = some (40 + 4 * j + 1) ∧ R0 (40 + 4 * j) 5 = some (40 + 4 * j + 2) ∧ R0 (40 + 4 * j) 6 = some (40 + 4 * j + 3) := by decide +kernel
theorem scPast {j : Nat} (hj : j < 40) : Sc (40 + 4 * j) := scPast0 j hj
theorem scSlot0 : ∀ j, j < 3 → shp (214 + 4 * j) = .inl 8 ∧ shp (214 + 4 * j + 1) = .inr (.byte, 25) ∧ shp (214 + 4 * j + 2) = .inr (.int, 5) ∧ shp (214 + 4 * j + 3) = .inr (.int, 5) ∧ 214 + 4 * j + 3 < 275 ∧ R0 (214 + 4 * j) 4 = some (214 + 4 * j + 1) ∧ R0 (214 + 4 * j) 5 = some (214 + 4 * j + 2) ∧ R0 (214 + 4 * j) 6 = some (214 + 4 * j + 3) := by decide +kernel
theorem scSlot {j : Nat} (hj : j < 3) : Sc (214 + 4 * j) := scSlot0 j hj
/-- a row of n ints -/
def ArI (n a : Nat) : Prop := shp a = .inr (.int, n) ∧ a < 275
end
section
set_option maxRecDepth 100000 in
theorem ml_X4_32 : Cond.methodLink RX4 32 arraycopyName ∈ gw := gw_T3 191 rfl rfl
set_option maxRecDepth 100000 in
theorem ml_X8_41 : Cond.methodLink RX8 41 arraycopyName ∈ gw := gw_T3 198 rfl rfl
set_option maxRecDepth 100000 in
theorem ml_X5_52 : Cond.methodLink RX5 52 arraycopyName ∈ gw := gw_T5 134 rfl rfl
set_option maxRecDepth 100000 in
theorem ac_nat : Cond.native arraycopyName ∈ gw := gw_T3 193 rfl rfl
set_option maxRecDepth 100000 in
theorem ac_st : Cond.static arraycopyName ∈ gw := gw_T3 192 rfl rfl
set_option maxRecDepth 100000 in
theorem in_Sys : Cond.initialized "java/lang/System" ∈ gw := gw_T1 20 rfl rfl
end
section
theorem sh_0 : shp 0 = .inl 11 := by decide +kernel
theorem sh_1 : shp 1 = .inr (.byte, 2000) := by decide +kernel
theorem sh_2 : shp 2 = .inl 7 := by decide +kernel
theorem sh_3 : shp 3 = .inl 0 := by decide +kernel
theorem sh_4 : shp 4 = .inl 3 := by decide +kernel
theorem sh_5 : shp 5 = .inl 4 := by decide +kernel
theorem sh_6 : shp 6 = .inr (.int, 404) := by decide +kernel
theorem sh_7 : shp 7 = .inr (.int, 4) := by decide +kernel
theorem sh_8 : shp 8 = .inr (.int, 16) := by decide +kernel
theorem sh_9 : shp 9 = .inr (.int, 9) := by decide +kernel
theorem sh_10 : shp 10 = .inl 8 := by decide +kernel
theorem sh_11 : shp 11 = .inr (.byte, 25) := by decide +kernel
theorem sh_12 : shp 12 = .inr (.int, 5) := by decide +kernel
theorem sh_13 : shp 13 = .inr (.int, 5) := by decide +kernel
theorem sh_14 : shp 14 = .inr (.long, 5) := by decide +kernel
theorem sh_15 : shp 15 = .inr (.int, 5) := by decide +kernel
theorem sh_16 : shp 16 = .inr (.int, 25) := by decide +kernel
theorem sh_17 : shp 17 = .inr (.int, 25) := by decide +kernel
theorem sh_18 : shp 18 = .inl 9 := by decide +kernel
theorem sh_19 : shp 19 = .inr (.long, 22) := by decide +kernel
theorem sh_20 : shp 20 = .inr (.byte, 401) := by decide +kernel
theorem sh_21 : shp 21 = .inr (.short, 401) := by decide +kernel
theorem sh_22 : shp 22 = .inr (.long, 401) := by decide +kernel
theorem sh_23 : shp 23 = .inl 0 := by decide +kernel
theorem sh_24 : shp 24 = .inl 3 := by decide +kernel
theorem sh_25 : shp 25 = .inl 4 := by decide +kernel
theorem sh_26 : shp 26 = .inr (.int, 404) := by decide +kernel
theorem sh_27 : shp 27 = .inr (.int, 4) := by decide +kernel
theorem sh_28 : shp 28 = .inr (.int, 16) := by decide +kernel
theorem sh_29 : shp 29 = .inr (.int, 9) := by decide +kernel
theorem sh_30 : shp 30 = .inl 8 := by decide +kernel
theorem sh_31 : shp 31 = .inr (.byte, 25) := by decide +kernel
theorem sh_32 : shp 32 = .inr (.int, 5) := by decide +kernel
theorem sh_33 : shp 33 = .inr (.int, 5) := by decide +kernel
theorem sh_34 : shp 34 = .inl 8 := by decide +kernel
theorem sh_35 : shp 35 = .inr (.byte, 25) := by decide +kernel
theorem sh_36 : shp 36 = .inr (.int, 5) := by decide +kernel
theorem sh_37 : shp 37 = .inr (.int, 5) := by decide +kernel
theorem sh_38 : shp 38 = .inl 6 := by decide +kernel
theorem sh_39 : shp 39 = .inr (.object RX8, 40) := by decide +kernel
theorem sh_40 : shp 40 = .inl 8 := by decide +kernel
theorem sh_41 : shp 41 = .inr (.byte, 25) := by decide +kernel
theorem sh_42 : shp 42 = .inr (.int, 5) := by decide +kernel
theorem sh_43 : shp 43 = .inr (.int, 5) := by decide +kernel
theorem sh_44 : shp 44 = .inl 8 := by decide +kernel
theorem sh_45 : shp 45 = .inr (.byte, 25) := by decide +kernel
theorem sh_46 : shp 46 = .inr (.int, 5) := by decide +kernel
theorem sh_47 : shp 47 = .inr (.int, 5) := by decide +kernel
theorem sh_48 : shp 48 = .inl 8 := by decide +kernel
theorem sh_49 : shp 49 = .inr (.byte, 25) := by decide +kernel
theorem sh_50 : shp 50 = .inr (.int, 5) := by decide +kernel
theorem sh_51 : shp 51 = .inr (.int, 5) := by decide +kernel
theorem sh_52 : shp 52 = .inl 8 := by decide +kernel
theorem sh_53 : shp 53 = .inr (.byte, 25) := by decide +kernel
theorem sh_54 : shp 54 = .inr (.int, 5) := by decide +kernel
theorem sh_55 : shp 55 = .inr (.int, 5) := by decide +kernel
theorem sh_56 : shp 56 = .inl 8 := by decide +kernel
theorem sh_57 : shp 57 = .inr (.byte, 25) := by decide +kernel
theorem sh_58 : shp 58 = .inr (.int, 5) := by decide +kernel
theorem sh_59 : shp 59 = .inr (.int, 5) := by decide +kernel
theorem sh_60 : shp 60 = .inl 8 := by decide +kernel
theorem sh_61 : shp 61 = .inr (.byte, 25) := by decide +kernel
theorem sh_62 : shp 62 = .inr (.int, 5) := by decide +kernel
theorem sh_63 : shp 63 = .inr (.int, 5) := by decide +kernel
theorem sh_64 : shp 64 = .inl 8 := by decide +kernel
theorem sh_65 : shp 65 = .inr (.byte, 25) := by decide +kernel
theorem sh_66 : shp 66 = .inr (.int, 5) := by decide +kernel
theorem sh_67 : shp 67 = .inr (.int, 5) := by decide +kernel
theorem sh_68 : shp 68 = .inl 8 := by decide +kernel
theorem sh_69 : shp 69 = .inr (.byte, 25) := by decide +kernel
theorem sh_70 : shp 70 = .inr (.int, 5) := by decide +kernel
theorem sh_71 : shp 71 = .inr (.int, 5) := by decide +kernel
theorem sh_72 : shp 72 = .inl 8 := by decide +kernel
theorem sh_73 : shp 73 = .inr (.byte, 25) := by decide +kernel
theorem sh_74 : shp 74 = .inr (.int, 5) := by decide +kernel
theorem sh_75 : shp 75 = .inr (.int, 5) := by decide +kernel
theorem sh_76 : shp 76 = .inl 8 := by decide +kernel
theorem sh_77 : shp 77 = .inr (.byte, 25) := by decide +kernel
theorem sh_78 : shp 78 = .inr (.int, 5) := by decide +kernel
theorem sh_79 : shp 79 = .inr (.int, 5) := by decide +kernel
theorem sh_80 : shp 80 = .inl 8 := by decide +kernel
theorem sh_81 : shp 81 = .inr (.byte, 25) := by decide +kernel
theorem sh_82 : shp 82 = .inr (.int, 5) := by decide +kernel
theorem sh_83 : shp 83 = .inr (.int, 5) := by decide +kernel
theorem sh_84 : shp 84 = .inl 8 := by decide +kernel
theorem sh_85 : shp 85 = .inr (.byte, 25) := by decide +kernel
theorem sh_86 : shp 86 = .inr (.int, 5) := by decide +kernel
theorem sh_87 : shp 87 = .inr (.int, 5) := by decide +kernel
theorem sh_88 : shp 88 = .inl 8 := by decide +kernel
theorem sh_89 : shp 89 = .inr (.byte, 25) := by decide +kernel
theorem sh_90 : shp 90 = .inr (.int, 5) := by decide +kernel
theorem sh_91 : shp 91 = .inr (.int, 5) := by decide +kernel
theorem sh_92 : shp 92 = .inl 8 := by decide +kernel
theorem sh_93 : shp 93 = .inr (.byte, 25) := by decide +kernel
theorem sh_94 : shp 94 = .inr (.int, 5) := by decide +kernel
theorem sh_95 : shp 95 = .inr (.int, 5) := by decide +kernel
theorem sh_96 : shp 96 = .inl 8 := by decide +kernel
theorem sh_97 : shp 97 = .inr (.byte, 25) := by decide +kernel
theorem sh_98 : shp 98 = .inr (.int, 5) := by decide +kernel
theorem sh_99 : shp 99 = .inr (.int, 5) := by decide +kernel
theorem sh_100 : shp 100 = .inl 8 := by decide +kernel
theorem sh_101 : shp 101 = .inr (.byte, 25) := by decide +kernel
theorem sh_102 : shp 102 = .inr (.int, 5) := by decide +kernel
theorem sh_103 : shp 103 = .inr (.int, 5) := by decide +kernel
theorem sh_104 : shp 104 = .inl 8 := by decide +kernel
theorem sh_105 : shp 105 = .inr (.byte, 25) := by decide +kernel
theorem sh_106 : shp 106 = .inr (.int, 5) := by decide +kernel
theorem sh_107 : shp 107 = .inr (.int, 5) := by decide +kernel
theorem sh_108 : shp 108 = .inl 8 := by decide +kernel
theorem sh_109 : shp 109 = .inr (.byte, 25) := by decide +kernel
theorem sh_110 : shp 110 = .inr (.int, 5) := by decide +kernel
theorem sh_111 : shp 111 = .inr (.int, 5) := by decide +kernel
theorem sh_112 : shp 112 = .inl 8 := by decide +kernel
theorem sh_113 : shp 113 = .inr (.byte, 25) := by decide +kernel
theorem sh_114 : shp 114 = .inr (.int, 5) := by decide +kernel
theorem sh_115 : shp 115 = .inr (.int, 5) := by decide +kernel
theorem sh_116 : shp 116 = .inl 8 := by decide +kernel
theorem sh_117 : shp 117 = .inr (.byte, 25) := by decide +kernel
theorem sh_118 : shp 118 = .inr (.int, 5) := by decide +kernel
theorem sh_119 : shp 119 = .inr (.int, 5) := by decide +kernel
theorem sh_120 : shp 120 = .inl 8 := by decide +kernel
theorem sh_121 : shp 121 = .inr (.byte, 25) := by decide +kernel
theorem sh_122 : shp 122 = .inr (.int, 5) := by decide +kernel
theorem sh_123 : shp 123 = .inr (.int, 5) := by decide +kernel
theorem sh_124 : shp 124 = .inl 8 := by decide +kernel
theorem sh_125 : shp 125 = .inr (.byte, 25) := by decide +kernel
theorem sh_126 : shp 126 = .inr (.int, 5) := by decide +kernel
theorem sh_127 : shp 127 = .inr (.int, 5) := by decide +kernel
theorem sh_128 : shp 128 = .inl 8 := by decide +kernel
theorem sh_129 : shp 129 = .inr (.byte, 25) := by decide +kernel
theorem sh_130 : shp 130 = .inr (.int, 5) := by decide +kernel
theorem sh_131 : shp 131 = .inr (.int, 5) := by decide +kernel
theorem sh_132 : shp 132 = .inl 8 := by decide +kernel
theorem sh_133 : shp 133 = .inr (.byte, 25) := by decide +kernel
theorem sh_134 : shp 134 = .inr (.int, 5) := by decide +kernel
theorem sh_135 : shp 135 = .inr (.int, 5) := by decide +kernel
theorem sh_136 : shp 136 = .inl 8 := by decide +kernel
theorem sh_137 : shp 137 = .inr (.byte, 25) := by decide +kernel
theorem sh_138 : shp 138 = .inr (.int, 5) := by decide +kernel
theorem sh_139 : shp 139 = .inr (.int, 5) := by decide +kernel
theorem sh_140 : shp 140 = .inl 8 := by decide +kernel
theorem sh_141 : shp 141 = .inr (.byte, 25) := by decide +kernel
theorem sh_142 : shp 142 = .inr (.int, 5) := by decide +kernel
theorem sh_143 : shp 143 = .inr (.int, 5) := by decide +kernel
theorem sh_144 : shp 144 = .inl 8 := by decide +kernel
theorem sh_145 : shp 145 = .inr (.byte, 25) := by decide +kernel
theorem sh_146 : shp 146 = .inr (.int, 5) := by decide +kernel
theorem sh_147 : shp 147 = .inr (.int, 5) := by decide +kernel
theorem sh_148 : shp 148 = .inl 8 := by decide +kernel
theorem sh_149 : shp 149 = .inr (.byte, 25) := by decide +kernel
theorem sh_150 : shp 150 = .inr (.int, 5) := by decide +kernel
theorem sh_151 : shp 151 = .inr (.int, 5) := by decide +kernel
theorem sh_152 : shp 152 = .inl 8 := by decide +kernel
theorem sh_153 : shp 153 = .inr (.byte, 25) := by decide +kernel
theorem sh_154 : shp 154 = .inr (.int, 5) := by decide +kernel
theorem sh_155 : shp 155 = .inr (.int, 5) := by decide +kernel
theorem sh_156 : shp 156 = .inl 8 := by decide +kernel
theorem sh_157 : shp 157 = .inr (.byte, 25) := by decide +kernel
theorem sh_158 : shp 158 = .inr (.int, 5) := by decide +kernel
theorem sh_159 : shp 159 = .inr (.int, 5) := by decide +kernel
theorem sh_160 : shp 160 = .inl 8 := by decide +kernel
theorem sh_161 : shp 161 = .inr (.byte, 25) := by decide +kernel
theorem sh_162 : shp 162 = .inr (.int, 5) := by decide +kernel
theorem sh_163 : shp 163 = .inr (.int, 5) := by decide +kernel
theorem sh_164 : shp 164 = .inl 8 := by decide +kernel
theorem sh_165 : shp 165 = .inr (.byte, 25) := by decide +kernel
theorem sh_166 : shp 166 = .inr (.int, 5) := by decide +kernel
theorem sh_167 : shp 167 = .inr (.int, 5) := by decide +kernel
theorem sh_168 : shp 168 = .inl 8 := by decide +kernel
theorem sh_169 : shp 169 = .inr (.byte, 25) := by decide +kernel
theorem sh_170 : shp 170 = .inr (.int, 5) := by decide +kernel
theorem sh_171 : shp 171 = .inr (.int, 5) := by decide +kernel
theorem sh_172 : shp 172 = .inl 8 := by decide +kernel
theorem sh_173 : shp 173 = .inr (.byte, 25) := by decide +kernel
theorem sh_174 : shp 174 = .inr (.int, 5) := by decide +kernel
theorem sh_175 : shp 175 = .inr (.int, 5) := by decide +kernel
theorem sh_176 : shp 176 = .inl 8 := by decide +kernel
theorem sh_177 : shp 177 = .inr (.byte, 25) := by decide +kernel
theorem sh_178 : shp 178 = .inr (.int, 5) := by decide +kernel
theorem sh_179 : shp 179 = .inr (.int, 5) := by decide +kernel
theorem sh_180 : shp 180 = .inl 8 := by decide +kernel
theorem sh_181 : shp 181 = .inr (.byte, 25) := by decide +kernel
theorem sh_182 : shp 182 = .inr (.int, 5) := by decide +kernel
theorem sh_183 : shp 183 = .inr (.int, 5) := by decide +kernel
theorem sh_184 : shp 184 = .inl 8 := by decide +kernel
theorem sh_185 : shp 185 = .inr (.byte, 25) := by decide +kernel
theorem sh_186 : shp 186 = .inr (.int, 5) := by decide +kernel
theorem sh_187 : shp 187 = .inr (.int, 5) := by decide +kernel
theorem sh_188 : shp 188 = .inl 8 := by decide +kernel
theorem sh_189 : shp 189 = .inr (.byte, 25) := by decide +kernel
theorem sh_190 : shp 190 = .inr (.int, 5) := by decide +kernel
theorem sh_191 : shp 191 = .inr (.int, 5) := by decide +kernel
theorem sh_192 : shp 192 = .inl 8 := by decide +kernel
theorem sh_193 : shp 193 = .inr (.byte, 25) := by decide +kernel
theorem sh_194 : shp 194 = .inr (.int, 5) := by decide +kernel
theorem sh_195 : shp 195 = .inr (.int, 5) := by decide +kernel
theorem sh_196 : shp 196 = .inl 8 := by decide +kernel
theorem sh_197 : shp 197 = .inr (.byte, 25) := by decide +kernel
theorem sh_198 : shp 198 = .inr (.int, 5) := by decide +kernel
theorem sh_199 : shp 199 = .inr (.int, 5) := by decide +kernel
theorem sh_200 : shp 200 = .inr (.object RX8, 3) := by decide +kernel
theorem sh_201 : shp 201 = .inl 2 := by decide +kernel
theorem sh_202 : shp 202 = .inr (.byte, 20) := by decide +kernel
theorem sh_203 : shp 203 = .inr (.boolean, 20) := by decide +kernel
theorem sh_204 : shp 204 = .inl 10 := by decide +kernel
theorem sh_205 : shp 205 = .inr (.int, 60) := by decide +kernel
theorem sh_206 : shp 206 = .inr (.int, 101) := by decide +kernel
theorem sh_207 : shp 207 = .inl 1 := by decide +kernel
theorem sh_208 : shp 208 = .inr (.int, 25) := by decide +kernel
theorem sh_209 : shp 209 = .inr (.int, 50) := by decide +kernel
theorem sh_210 : shp 210 = .inr (.int, 50) := by decide +kernel
theorem sh_211 : shp 211 = .inl 5 := by decide +kernel
theorem sh_212 : shp 212 = .inr (.int, 5) := by decide +kernel
theorem sh_213 : shp 213 = .inr (.int, 5) := by decide +kernel
theorem sh_214 : shp 214 = .inl 8 := by decide +kernel
theorem sh_215 : shp 215 = .inr (.byte, 25) := by decide +kernel
theorem sh_216 : shp 216 = .inr (.int, 5) := by decide +kernel
theorem sh_217 : shp 217 = .inr (.int, 5) := by decide +kernel
theorem sh_218 : shp 218 = .inl 8 := by decide +kernel
theorem sh_219 : shp 219 = .inr (.byte, 25) := by decide +kernel
theorem sh_220 : shp 220 = .inr (.int, 5) := by decide +kernel
theorem sh_221 : shp 221 = .inr (.int, 5) := by decide +kernel
theorem sh_222 : shp 222 = .inl 8 := by decide +kernel
theorem sh_223 : shp 223 = .inr (.byte, 25) := by decide +kernel
theorem sh_224 : shp 224 = .inr (.int, 5) := by decide +kernel
theorem sh_225 : shp 225 = .inr (.int, 5) := by decide +kernel
theorem sh_226 : shp 226 = .inl 12 := by decide +kernel
theorem sh_227 : shp 227 = .inr (.byte, 2000) := by decide +kernel
theorem sh_228 : shp 228 = .inr (.byte, 2000) := by decide +kernel
theorem sh_229 : shp 229 = .inr (.int, 403) := by decide +kernel
theorem sh_230 : shp 230 = .inr (.int, 403) := by decide +kernel
theorem sh_231 : shp 231 = .inr (.int, 403) := by decide +kernel
theorem sh_232 : shp 232 = .inr (.long, 403) := by decide +kernel
theorem sh_233 : shp 233 = .inr (.long, 22) := by decide +kernel
theorem sh_234 : shp 234 = .inr (.long, 5) := by decide +kernel
theorem sh_235 : shp 235 = .inr (.int, 2) := by decide +kernel
theorem sh_236 : shp 236 = .inr (.int, 2) := by decide +kernel
theorem sh_237 : shp 237 = .inr (.int, 2) := by decide +kernel
theorem sh_238 : shp 238 = .inr (.int, 16) := by decide +kernel
theorem sh_239 : shp 239 = .inr (.int, 16) := by decide +kernel
theorem sh_240 : shp 240 = .inr (.int, 16) := by decide +kernel
theorem sh_241 : shp 241 = .inr (.int, 16) := by decide +kernel
theorem sh_242 : shp 242 = .inr (.int, 2) := by decide +kernel
theorem sh_243 : shp 243 = .inr (.int, 10) := by decide +kernel
theorem sh_244 : shp 244 = .inr (.int, 10) := by decide +kernel
theorem sh_245 : shp 245 = .inr (.int, 2) := by decide +kernel
theorem sh_246 : shp 246 = .inr (.int, 16) := by decide +kernel
theorem sh_247 : shp 247 = .inr (.int, 16) := by decide +kernel
theorem sh_248 : shp 248 = .inr (.int, 2) := by decide +kernel
theorem sh_249 : shp 249 = .inr (.int, 2) := by decide +kernel
theorem sh_250 : shp 250 = .inr (.int, 8) := by decide +kernel
theorem sh_251 : shp 251 = .inr (.int, 8) := by decide +kernel
theorem sh_252 : shp 252 = .inr (.boolean, 260) := by decide +kernel
theorem sh_253 : shp 253 = .inr (.int, 260) := by decide +kernel
theorem sh_254 : shp 254 = .inr (.int, 260) := by decide +kernel
theorem sh_255 : shp 255 = .inr (.int, 260) := by decide +kernel
theorem sh_256 : shp 256 = .inr (.int, 260) := by decide +kernel
theorem sh_257 : shp 257 = .inr (.int, 840) := by decide +kernel
theorem sh_258 : shp 258 = .inr (.int, 840) := by decide +kernel
theorem sh_259 : shp 259 = .inr (.int, 64) := by decide +kernel
theorem sh_260 : shp 260 = .inr (.int, 9) := by decide +kernel
theorem sh_261 : shp 261 = .inr (.int, 400) := by decide +kernel
theorem sh_262 : shp 262 = .inr (.int, 63) := by decide +kernel
theorem sh_263 : shp 263 = .inr (.int, 63) := by decide +kernel
theorem sh_264 : shp 264 = .inr (.int, 125) := by decide +kernel
theorem sh_265 : shp 265 = .inr (.int, 5) := by decide +kernel
theorem sh_266 : shp 266 = .inr (.int, 2520) := by decide +kernel
theorem sh_267 : shp 267 = .inr (.int, 101) := by decide +kernel
theorem sh_268 : shp 268 = .inr (.int, 101) := by decide +kernel
theorem sh_269 : shp 269 = .inr (.int, 101) := by decide +kernel
theorem sh_270 : shp 270 = .inr (.int, 32) := by decide +kernel
theorem sh_271 : shp 271 = .inr (.int, 20) := by decide +kernel
theorem sh_272 : shp 272 = .inr (.boolean, 20) := by decide +kernel
theorem sh_273 : shp 273 = .inr (.boolean, 3) := by decide +kernel
theorem sh_274 : shp 274 = .inr (.int, 189) := by decide +kernel
theorem r0_0_0 : R0 0 0 = some 1 := by decide +kernel
theorem r0_0_3 : R0 0 3 = some 2 := by decide +kernel
theorem r0_0_4 : R0 0 4 = some 23 := by decide +kernel
theorem r0_0_5 : R0 0 5 = some 24 := by decide +kernel
theorem r0_0_6 : R0 0 6 = some 30 := by decide +kernel
theorem r0_0_7 : R0 0 7 = some 34 := by decide +kernel
theorem r0_0_8 : R0 0 8 = some 38 := by decide +kernel
theorem r0_0_9 : R0 0 9 = some 200 := by decide +kernel
theorem r0_0_11 : R0 0 11 = some 201 := by decide +kernel
theorem r0_0_12 : R0 0 12 = some 204 := by decide +kernel
theorem r0_0_13 : R0 0 13 = some 207 := by decide +kernel
theorem r0_0_14 : R0 0 14 = some 211 := by decide +kernel
theorem r0_2_0 : R0 2 0 = some 3 := by decide +kernel
theorem r0_2_1 : R0 2 1 = some 10 := by decide +kernel
theorem r0_2_3 : R0 2 3 = some 18 := by decide +kernel
theorem r0_2_8 : R0 2 8 = some 14 := by decide +kernel
theorem r0_2_9 : R0 2 9 = some 15 := by decide +kernel
theorem r0_2_10 : R0 2 10 = some 16 := by decide +kernel
theorem r0_2_11 : R0 2 11 = some 17 := by decide +kernel
theorem r0_3_0 : R0 3 0 = some 4 := by decide +kernel
theorem r0_3_1 : R0 3 1 = some 5 := by decide +kernel
theorem r0_3_5 : R0 3 5 = some 9 := by decide +kernel
theorem r0_5_0 : R0 5 0 = some 6 := by decide +kernel
theorem r0_5_1 : R0 5 1 = some 7 := by decide +kernel
theorem r0_5_2 : R0 5 2 = some 8 := by decide +kernel
theorem r0_10_4 : R0 10 4 = some 11 := by decide +kernel
theorem r0_10_5 : R0 10 5 = some 12 := by decide +kernel
theorem r0_10_6 : R0 10 6 = some 13 := by decide +kernel
theorem r0_18_0 : R0 18 0 = some 1 := by decide +kernel
theorem r0_18_1 : R0 18 1 = some 19 := by decide +kernel
theorem r0_18_2 : R0 18 2 = some 20 := by decide +kernel
theorem r0_18_3 : R0 18 3 = some 21 := by decide +kernel
theorem r0_18_4 : R0 18 4 = some 22 := by decide +kernel
theorem r0_23_0 : R0 23 0 = some 24 := by decide +kernel
theorem r0_23_1 : R0 23 1 = some 25 := by decide +kernel
theorem r0_23_5 : R0 23 5 = some 29 := by decide +kernel
theorem r0_25_0 : R0 25 0 = some 26 := by decide +kernel
theorem r0_25_1 : R0 25 1 = some 27 := by decide +kernel
theorem r0_25_2 : R0 25 2 = some 28 := by decide +kernel
theorem r0_30_4 : R0 30 4 = some 31 := by decide +kernel
theorem r0_30_5 : R0 30 5 = some 32 := by decide +kernel
theorem r0_30_6 : R0 30 6 = some 33 := by decide +kernel
theorem r0_34_4 : R0 34 4 = some 35 := by decide +kernel
theorem r0_34_5 : R0 34 5 = some 36 := by decide +kernel
theorem r0_34_6 : R0 34 6 = some 37 := by decide +kernel
theorem r0_38_0 : R0 38 0 = some 39 := by decide +kernel
theorem r0_39_0 : R0 39 0 = some 40 := by decide +kernel
theorem r0_39_1 : R0 39 1 = some 44 := by decide +kernel
theorem r0_39_2 : R0 39 2 = some 48 := by decide +kernel
theorem r0_39_3 : R0 39 3 = some 52 := by decide +kernel
theorem r0_39_4 : R0 39 4 = some 56 := by decide +kernel
theorem r0_39_5 : R0 39 5 = some 60 := by decide +kernel
theorem r0_39_6 : R0 39 6 = some 64 := by decide +kernel
theorem r0_39_7 : R0 39 7 = some 68 := by decide +kernel
theorem r0_39_8 : R0 39 8 = some 72 := by decide +kernel
theorem r0_39_9 : R0 39 9 = some 76 := by decide +kernel
theorem r0_39_10 : R0 39 10 = some 80 := by decide +kernel
theorem r0_39_11 : R0 39 11 = some 84 := by decide +kernel
theorem r0_39_12 : R0 39 12 = some 88 := by decide +kernel
theorem r0_39_13 : R0 39 13 = some 92 := by decide +kernel
theorem r0_39_14 : R0 39 14 = some 96 := by decide +kernel
theorem r0_39_15 : R0 39 15 = some 100 := by decide +kernel
theorem r0_39_16 : R0 39 16 = some 104 := by decide +kernel
theorem r0_39_17 : R0 39 17 = some 108 := by decide +kernel
theorem r0_39_18 : R0 39 18 = some 112 := by decide +kernel
theorem r0_39_19 : R0 39 19 = some 116 := by decide +kernel
theorem r0_39_20 : R0 39 20 = some 120 := by decide +kernel
theorem r0_39_21 : R0 39 21 = some 124 := by decide +kernel
theorem r0_39_22 : R0 39 22 = some 128 := by decide +kernel
theorem r0_39_23 : R0 39 23 = some 132 := by decide +kernel
theorem r0_39_24 : R0 39 24 = some 136 := by decide +kernel
theorem r0_39_25 : R0 39 25 = some 140 := by decide +kernel
theorem r0_39_26 : R0 39 26 = some 144 := by decide +kernel
theorem r0_39_27 : R0 39 27 = some 148 := by decide +kernel
theorem r0_39_28 : R0 39 28 = some 152 := by decide +kernel
theorem r0_39_29 : R0 39 29 = some 156 := by decide +kernel
theorem r0_39_30 : R0 39 30 = some 160 := by decide +kernel
theorem r0_39_31 : R0 39 31 = some 164 := by decide +kernel
theorem r0_39_32 : R0 39 32 = some 168 := by decide +kernel
theorem r0_39_33 : R0 39 33 = some 172 := by decide +kernel
theorem r0_39_34 : R0 39 34 = some 176 := by decide +kernel
theorem r0_39_35 : R0 39 35 = some 180 := by decide +kernel
theorem r0_39_36 : R0 39 36 = some 184 := by decide +kernel
theorem r0_39_37 : R0 39 37 = some 188 := by decide +kernel
theorem r0_39_38 : R0 39 38 = some 192 := by decide +kernel
theorem r0_39_39 : R0 39 39 = some 196 := by decide +kernel
theorem r0_40_4 : R0 40 4 = some 41 := by decide +kernel
theorem r0_40_5 : R0 40 5 = some 42 := by decide +kernel
theorem r0_40_6 : R0 40 6 = some 43 := by decide +kernel
theorem r0_44_4 : R0 44 4 = some 45 := by decide +kernel
theorem r0_44_5 : R0 44 5 = some 46 := by decide +kernel
theorem r0_44_6 : R0 44 6 = some 47 := by decide +kernel
theorem r0_48_4 : R0 48 4 = some 49 := by decide +kernel
theorem r0_48_5 : R0 48 5 = some 50 := by decide +kernel
theorem r0_48_6 : R0 48 6 = some 51 := by decide +kernel
theorem r0_52_4 : R0 52 4 = some 53 := by decide +kernel
theorem r0_52_5 : R0 52 5 = some 54 := by decide +kernel
theorem r0_52_6 : R0 52 6 = some 55 := by decide +kernel
theorem r0_56_4 : R0 56 4 = some 57 := by decide +kernel
theorem r0_56_5 : R0 56 5 = some 58 := by decide +kernel
theorem r0_56_6 : R0 56 6 = some 59 := by decide +kernel
theorem r0_60_4 : R0 60 4 = some 61 := by decide +kernel
theorem r0_60_5 : R0 60 5 = some 62 := by decide +kernel
theorem r0_60_6 : R0 60 6 = some 63 := by decide +kernel
theorem r0_64_4 : R0 64 4 = some 65 := by decide +kernel
theorem r0_64_5 : R0 64 5 = some 66 := by decide +kernel
theorem r0_64_6 : R0 64 6 = some 67 := by decide +kernel
theorem r0_68_4 : R0 68 4 = some 69 := by decide +kernel
theorem r0_68_5 : R0 68 5 = some 70 := by decide +kernel
theorem r0_68_6 : R0 68 6 = some 71 := by decide +kernel
theorem r0_72_4 : R0 72 4 = some 73 := by decide +kernel
theorem r0_72_5 : R0 72 5 = some 74 := by decide +kernel
theorem r0_72_6 : R0 72 6 = some 75 := by decide +kernel
theorem r0_76_4 : R0 76 4 = some 77 := by decide +kernel
theorem r0_76_5 : R0 76 5 = some 78 := by decide +kernel
theorem r0_76_6 : R0 76 6 = some 79 := by decide +kernel
theorem r0_80_4 : R0 80 4 = some 81 := by decide +kernel
theorem r0_80_5 : R0 80 5 = some 82 := by decide +kernel
theorem r0_80_6 : R0 80 6 = some 83 := by decide +kernel
theorem r0_84_4 : R0 84 4 = some 85 := by decide +kernel
theorem r0_84_5 : R0 84 5 = some 86 := by decide +kernel
theorem r0_84_6 : R0 84 6 = some 87 := by decide +kernel
theorem r0_88_4 : R0 88 4 = some 89 := by decide +kernel
theorem r0_88_5 : R0 88 5 = some 90 := by decide +kernel
theorem r0_88_6 : R0 88 6 = some 91 := by decide +kernel
theorem r0_92_4 : R0 92 4 = some 93 := by decide +kernel
theorem r0_92_5 : R0 92 5 = some 94 := by decide +kernel
theorem r0_92_6 : R0 92 6 = some 95 := by decide +kernel
theorem r0_96_4 : R0 96 4 = some 97 := by decide +kernel
theorem r0_96_5 : R0 96 5 = some 98 := by decide +kernel
theorem r0_96_6 : R0 96 6 = some 99 := by decide +kernel
theorem r0_100_4 : R0 100 4 = some 101 := by decide +kernel
theorem r0_100_5 : R0 100 5 = some 102 := by decide +kernel
theorem r0_100_6 : R0 100 6 = some 103 := by decide +kernel
theorem r0_104_4 : R0 104 4 = some 105 := by decide +kernel
theorem r0_104_5 : R0 104 5 = some 106 := by decide +kernel
theorem r0_104_6 : R0 104 6 = some 107 := by decide +kernel
theorem r0_108_4 : R0 108 4 = some 109 := by decide +kernel
theorem r0_108_5 : R0 108 5 = some 110 := by decide +kernel
theorem r0_108_6 : R0 108 6 = some 111 := by decide +kernel
theorem r0_112_4 : R0 112 4 = some 113 := by decide +kernel
theorem r0_112_5 : R0 112 5 = some 114 := by decide +kernel
theorem r0_112_6 : R0 112 6 = some 115 := by decide +kernel
theorem r0_116_4 : R0 116 4 = some 117 := by decide +kernel
theorem r0_116_5 : R0 116 5 = some 118 := by decide +kernel
theorem r0_116_6 : R0 116 6 = some 119 := by decide +kernel
theorem r0_120_4 : R0 120 4 = some 121 := by decide +kernel
theorem r0_120_5 : R0 120 5 = some 122 := by decide +kernel
theorem r0_120_6 : R0 120 6 = some 123 := by decide +kernel
theorem r0_124_4 : R0 124 4 = some 125 := by decide +kernel
theorem r0_124_5 : R0 124 5 = some 126 := by decide +kernel
theorem r0_124_6 : R0 124 6 = some 127 := by decide +kernel
theorem r0_128_4 : R0 128 4 = some 129 := by decide +kernel
theorem r0_128_5 : R0 128 5 = some 130 := by decide +kernel
theorem r0_128_6 : R0 128 6 = some 131 := by decide +kernel
theorem r0_132_4 : R0 132 4 = some 133 := by decide +kernel
theorem r0_132_5 : R0 132 5 = some 134 := by decide +kernel
theorem r0_132_6 : R0 132 6 = some 135 := by decide +kernel
theorem r0_136_4 : R0 136 4 = some 137 := by decide +kernel
theorem r0_136_5 : R0 136 5 = some 138 := by decide +kernel
theorem r0_136_6 : R0 136 6 = some 139 := by decide +kernel
theorem r0_140_4 : R0 140 4 = some 141 := by decide +kernel
theorem r0_140_5 : R0 140 5 = some 142 := by decide +kernel
theorem r0_140_6 : R0 140 6 = some 143 := by decide +kernel
theorem r0_144_4 : R0 144 4 = some 145 := by decide +kernel
theorem r0_144_5 : R0 144 5 = some 146 := by decide +kernel
theorem r0_144_6 : R0 144 6 = some 147 := by decide +kernel
theorem r0_148_4 : R0 148 4 = some 149 := by decide +kernel
theorem r0_148_5 : R0 148 5 = some 150 := by decide +kernel
theorem r0_148_6 : R0 148 6 = some 151 := by decide +kernel
theorem r0_152_4 : R0 152 4 = some 153 := by decide +kernel
theorem r0_152_5 : R0 152 5 = some 154 := by decide +kernel
theorem r0_152_6 : R0 152 6 = some 155 := by decide +kernel
theorem r0_156_4 : R0 156 4 = some 157 := by decide +kernel
theorem r0_156_5 : R0 156 5 = some 158 := by decide +kernel
theorem r0_156_6 : R0 156 6 = some 159 := by decide +kernel
theorem r0_160_4 : R0 160 4 = some 161 := by decide +kernel
theorem r0_160_5 : R0 160 5 = some 162 := by decide +kernel
theorem r0_160_6 : R0 160 6 = some 163 := by decide +kernel
theorem r0_164_4 : R0 164 4 = some 165 := by decide +kernel
theorem r0_164_5 : R0 164 5 = some 166 := by decide +kernel
theorem r0_164_6 : R0 164 6 = some 167 := by decide +kernel
theorem r0_168_4 : R0 168 4 = some 169 := by decide +kernel
theorem r0_168_5 : R0 168 5 = some 170 := by decide +kernel
theorem r0_168_6 : R0 168 6 = some 171 := by decide +kernel
theorem r0_172_4 : R0 172 4 = some 173 := by decide +kernel
theorem r0_172_5 : R0 172 5 = some 174 := by decide +kernel
theorem r0_172_6 : R0 172 6 = some 175 := by decide +kernel
theorem r0_176_4 : R0 176 4 = some 177 := by decide +kernel
theorem r0_176_5 : R0 176 5 = some 178 := by decide +kernel
theorem r0_176_6 : R0 176 6 = some 179 := by decide +kernel
theorem r0_180_4 : R0 180 4 = some 181 := by decide +kernel
theorem r0_180_5 : R0 180 5 = some 182 := by decide +kernel
theorem r0_180_6 : R0 180 6 = some 183 := by decide +kernel
theorem r0_184_4 : R0 184 4 = some 185 := by decide +kernel
theorem r0_184_5 : R0 184 5 = some 186 := by decide +kernel
theorem r0_184_6 : R0 184 6 = some 187 := by decide +kernel
theorem r0_188_4 : R0 188 4 = some 189 := by decide +kernel
theorem r0_188_5 : R0 188 5 = some 190 := by decide +kernel
theorem r0_188_6 : R0 188 6 = some 191 := by decide +kernel
theorem r0_192_4 : R0 192 4 = some 193 := by decide +kernel
theorem r0_192_5 : R0 192 5 = some 194 := by decide +kernel
theorem r0_192_6 : R0 192 6 = some 195 := by decide +kernel
theorem r0_196_4 : R0 196 4 = some 197 := by decide +kernel
theorem r0_196_5 : R0 196 5 = some 198 := by decide +kernel
theorem r0_196_6 : R0 196 6 = some 199 := by decide +kernel
theorem r0_200_0 : R0 200 0 = some 214 := by decide +kernel
theorem r0_200_1 : R0 200 1 = some 218 := by decide +kernel
theorem r0_200_2 : R0 200 2 = some 222 := by decide +kernel
theorem r0_201_0 : R0 201 0 = some 202 := by decide +kernel
theorem r0_201_1 : R0 201 1 = some 203 := by decide +kernel
theorem r0_204_0 : R0 204 0 = some 24 := by decide +kernel
theorem r0_204_1 : R0 204 1 = some 205 := by decide +kernel
theorem r0_204_2 : R0 204 2 = some 206 := by decide +kernel
theorem r0_207_0 : R0 207 0 = some 24 := by decide +kernel
theorem r0_207_1 : R0 207 1 = some 208 := by decide +kernel
theorem r0_207_2 : R0 207 2 = some 209 := by decide +kernel
theorem r0_207_3 : R0 207 3 = some 210 := by decide +kernel
theorem r0_211_0 : R0 211 0 = some 24 := by decide +kernel
theorem r0_211_1 : R0 211 1 = some 212 := by decide +kernel
theorem r0_211_2 : R0 211 2 = some 213 := by decide +kernel
theorem r0_214_4 : R0 214 4 = some 215 := by decide +kernel
theorem r0_214_5 : R0 214 5 = some 216 := by decide +kernel
theorem r0_214_6 : R0 214 6 = some 217 := by decide +kernel
theorem r0_218_4 : R0 218 4 = some 219 := by decide +kernel
theorem r0_218_5 : R0 218 5 = some 220 := by decide +kernel
theorem r0_218_6 : R0 218 6 = some 221 := by decide +kernel
theorem r0_222_4 : R0 222 4 = some 223 := by decide +kernel
theorem r0_222_5 : R0 222 5 = some 224 := by decide +kernel
theorem r0_222_6 : R0 222 6 = some 225 := by decide +kernel
theorem r0_226_1 : R0 226 1 = some 227 := by decide +kernel
theorem r0_226_3 : R0 226 3 = some 228 := by decide +kernel
theorem r0_226_5 : R0 226 5 = some 229 := by decide +kernel
theorem r0_226_6 : R0 226 6 = some 230 := by decide +kernel
theorem r0_226_7 : R0 226 7 = some 231 := by decide +kernel
theorem r0_226_8 : R0 226 8 = some 232 := by decide +kernel
theorem r0_226_9 : R0 226 9 = some 233 := by decide +kernel
theorem r0_226_21 : R0 226 21 = some 234 := by decide +kernel
theorem r0_226_22 : R0 226 22 = some 235 := by decide +kernel
theorem r0_226_23 : R0 226 23 = some 236 := by decide +kernel
theorem r0_226_24 : R0 226 24 = some 237 := by decide +kernel
theorem r0_226_25 : R0 226 25 = some 238 := by decide +kernel
theorem r0_226_26 : R0 226 26 = some 239 := by decide +kernel
theorem r0_226_27 : R0 226 27 = some 240 := by decide +kernel
theorem r0_226_28 : R0 226 28 = some 241 := by decide +kernel
theorem r0_226_29 : R0 226 29 = some 242 := by decide +kernel
theorem r0_226_30 : R0 226 30 = some 243 := by decide +kernel
theorem r0_226_31 : R0 226 31 = some 244 := by decide +kernel
theorem r0_226_32 : R0 226 32 = some 245 := by decide +kernel
theorem r0_226_33 : R0 226 33 = some 246 := by decide +kernel
theorem r0_226_34 : R0 226 34 = some 247 := by decide +kernel
theorem r0_226_35 : R0 226 35 = some 248 := by decide +kernel
theorem r0_226_36 : R0 226 36 = some 249 := by decide +kernel
theorem r0_226_37 : R0 226 37 = some 250 := by decide +kernel
theorem r0_226_38 : R0 226 38 = some 251 := by decide +kernel
theorem r0_226_40 : R0 226 40 = some 252 := by decide +kernel
theorem r0_226_41 : R0 226 41 = some 253 := by decide +kernel
theorem r0_226_42 : R0 226 42 = some 254 := by decide +kernel
theorem r0_226_43 : R0 226 43 = some 255 := by decide +kernel
theorem r0_226_44 : R0 226 44 = some 256 := by decide +kernel
theorem r0_226_46 : R0 226 46 = some 257 := by decide +kernel
theorem r0_226_47 : R0 226 47 = some 258 := by decide +kernel
theorem r0_226_48 : R0 226 48 = some 259 := by decide +kernel
theorem r0_226_50 : R0 226 50 = some 260 := by decide +kernel
theorem r0_226_51 : R0 226 51 = some 261 := by decide +kernel
theorem r0_226_53 : R0 226 53 = some 262 := by decide +kernel
theorem r0_226_54 : R0 226 54 = some 263 := by decide +kernel
theorem r0_226_57 : R0 226 57 = some 264 := by decide +kernel
theorem r0_226_58 : R0 226 58 = some 265 := by decide +kernel
theorem r0_226_60 : R0 226 60 = some 266 := by decide +kernel
theorem r0_226_61 : R0 226 61 = some 267 := by decide +kernel
theorem r0_226_62 : R0 226 62 = some 268 := by decide +kernel
theorem r0_226_63 : R0 226 63 = some 269 := by decide +kernel
theorem r0_226_64 : R0 226 64 = some 270 := by decide +kernel
theorem r0_226_66 : R0 226 66 = some 271 := by decide +kernel
theorem r0_226_67 : R0 226 67 = some 272 := by decide +kernel
theorem r0_226_68 : R0 226 68 = some 273 := by decide +kernel
theorem r0_226_69 : R0 226 69 = some 274 := by decide +kernel
end
