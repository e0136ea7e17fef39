theorem dX6_init_0 : decode cX6_init 0 = .ok (.aload_n 0, 1) := by decide +kernel
theorem dX6_init_1 : decode cX6_init 1 = .ok (.invokespecial 3, 3) := by decide +kernel
theorem dX6_init_4 : decode cX6_init 4 = .ok (.aload_n 0, 1) := by decide +kernel
theorem dX6_init_5 : decode cX6_init 5 = .ok (.bipush 40, 2) := by decide +kernel
theorem dX6_init_7 : decode cX6_init 7 = .ok (.anewarray 9, 3) := by decide +kernel
theorem dX6_init_10 : decode cX6_init 10 = .ok (.putfield 11, 3) := by decide +kernel
theorem dX6_init_13 : decode cX6_init 13 = .ok (.aload_n 0, 1) := by decide +kernel
theorem dX6_init_14 : decode cX6_init 14 = .ok (.iconst 0, 1) := by decide +kernel
theorem dX6_init_15 : decode cX6_init 15 = .ok (.putfield 17, 3) := by decide +kernel
theorem dX6_init_18 : decode cX6_init 18 = .ok (.aload_n 0, 1) := by decide +kernel
theorem dX6_init_19 : decode cX6_init 19 = .ok (.iconst 0, 1) := by decide +kernel
theorem dX6_init_20 : decode cX6_init 20 = .ok (.putfield 21, 3) := by decide +kernel
theorem dX6_init_23 : decode cX6_init 23 = .ok (.iconst 0, 1) := by decide +kernel
theorem dX6_init_24 : decode cX6_init 24 = .ok (.istore_n 1, 1) := by decide +kernel
theorem dX6_init_25 : decode cX6_init 25 = .ok (.iload_n 1, 1) := by decide +kernel
theorem dX6_init_26 : decode cX6_init 26 = .ok (.bipush 40, 2) := by decide +kernel
theorem dX6_init_28 : decode cX6_init 28 = .ok (.if_icmp .ge 22, 3) := by decide +kernel
theorem dX6_init_31 : decode cX6_init 31 = .ok (.aload_n 0, 1) := by decide +kernel
theorem dX6_init_32 : decode cX6_init 32 = .ok (.getfield 11, 3) := by decide +kernel
theorem dX6_init_35 : decode cX6_init 35 = .ok (.iload_n 1, 1) := by decide +kernel
theorem dX6_init_36 : decode cX6_init 36 = .ok (.new 9, 3) := by decide +kernel
theorem dX6_init_39 : decode cX6_init 39 = .ok (.dup, 1) := by decide +kernel
theorem dX6_init_40 : decode cX6_init 40 = .ok (.invokespecial 24, 3) := by decide +kernel
theorem dX6_init_43 : decode cX6_init 43 = .ok (.aastore, 1) := by decide +kernel
theorem dX6_init_44 : decode cX6_init 44 = .ok (.iinc 1 1, 3) := by decide +kernel
theorem dX6_init_47 : decode cX6_init 47 = .ok (.goto (-22), 3) := by decide +kernel
theorem dX6_init_50 : decode cX6_init 50 = .ok (.return_, 1) := by decide +kernel
theorem dX6_clear_0 : decode cX6_clear 0 = .ok (.aload_n 0, 1) := by decide +kernel
theorem dX6_clear_1 : decode cX6_clear 1 = .ok (.iconst 0, 1) := by decide +kernel
theorem dX6_clear_2 : decode cX6_clear 2 = .ok (.putfield 21, 3) := by decide +kernel
theorem dX6_clear_5 : decode cX6_clear 5 = .ok (.return_, 1) := by decide +kernel
theorem dX6_keep_0 : decode cX6_keep 0 = .ok (.aload_n 0, 1) := by decide +kernel
theorem dX6_keep_1 : decode cX6_keep 1 = .ok (.aload_n 0, 1) := by decide +kernel
theorem dX6_keep_2 : decode cX6_keep 2 = .ok (.getfield 17, 3) := by decide +kernel
theorem dX6_keep_5 : decode cX6_keep 5 = .ok (.iconst 1, 1) := by decide +kernel
theorem dX6_keep_6 : decode cX6_keep 6 = .ok (.iadd, 1) := by decide +kernel
theorem dX6_keep_7 : decode cX6_keep 7 = .ok (.bipush 40, 2) := by decide +kernel
theorem dX6_keep_9 : decode cX6_keep 9 = .ok (.irem, 1) := by decide +kernel
theorem dX6_keep_10 : decode cX6_keep 10 = .ok (.putfield 17, 3) := by decide +kernel
theorem dX6_keep_13 : decode cX6_keep 13 = .ok (.aload_n 0, 1) := by decide +kernel
theorem dX6_keep_14 : decode cX6_keep 14 = .ok (.getfield 11, 3) := by decide +kernel
theorem dX6_keep_17 : decode cX6_keep 17 = .ok (.aload_n 0, 1) := by decide +kernel
theorem dX6_keep_18 : decode cX6_keep 18 = .ok (.getfield 17, 3) := by decide +kernel
theorem dX6_keep_21 : decode cX6_keep 21 = .ok (.aaload, 1) := by decide +kernel
theorem dX6_keep_22 : decode cX6_keep 22 = .ok (.aload_n 1, 1) := by decide +kernel
theorem dX6_keep_23 : decode cX6_keep 23 = .ok (.invokevirtual 25, 3) := by decide +kernel
theorem dX6_keep_26 : decode cX6_keep 26 = .ok (.aload_n 0, 1) := by decide +kernel
theorem dX6_keep_27 : decode cX6_keep 27 = .ok (.aload_n 0, 1) := by decide +kernel
theorem dX6_keep_28 : decode cX6_keep 28 = .ok (.getfield 21, 3) := by decide +kernel
theorem dX6_keep_31 : decode cX6_keep 31 = .ok (.iconst 1, 1) := by decide +kernel
theorem dX6_keep_32 : decode cX6_keep 32 = .ok (.iadd, 1) := by decide +kernel
theorem dX6_keep_33 : decode cX6_keep 33 = .ok (.bipush 40, 2) := by decide +kernel
theorem dX6_keep_35 : decode cX6_keep 35 = .ok (.invokestatic 29, 3) := by decide +kernel
theorem dX6_keep_38 : decode cX6_keep 38 = .ok (.putfield 21, 3) := by decide +kernel
theorem dX6_keep_41 : decode cX6_keep 41 = .ok (.return_, 1) := by decide +kernel
theorem dX6_takeBack_0 : decode cX6_takeBack 0 = .ok (.aload_n 0, 1) := by decide +kernel
theorem dX6_takeBack_1 : decode cX6_takeBack 1 = .ok (.getfield 21, 3) := by decide +kernel
theorem dX6_takeBack_4 : decode cX6_takeBack 4 = .ok (.ifCond .ne 5, 3) := by decide +kernel
theorem dX6_takeBack_7 : decode cX6_takeBack 7 = .ok (.iconst 0, 1) := by decide +kernel
theorem dX6_takeBack_8 : decode cX6_takeBack 8 = .ok (.ireturn, 1) := by decide +kernel
theorem dX6_takeBack_9 : decode cX6_takeBack 9 = .ok (.aload_n 1, 1) := by decide +kernel
theorem dX6_takeBack_10 : decode cX6_takeBack 10 = .ok (.aload_n 0, 1) := by decide +kernel
theorem dX6_takeBack_11 : decode cX6_takeBack 11 = .ok (.getfield 11, 3) := by decide +kernel
theorem dX6_takeBack_14 : decode cX6_takeBack 14 = .ok (.aload_n 0, 1) := by decide +kernel
theorem dX6_takeBack_15 : decode cX6_takeBack 15 = .ok (.getfield 17, 3) := by decide +kernel
theorem dX6_takeBack_18 : decode cX6_takeBack 18 = .ok (.aaload, 1) := by decide +kernel
theorem dX6_takeBack_19 : decode cX6_takeBack 19 = .ok (.invokevirtual 25, 3) := by decide +kernel
theorem dX6_takeBack_22 : decode cX6_takeBack 22 = .ok (.aload_n 0, 1) := by decide +kernel
theorem dX6_takeBack_23 : decode cX6_takeBack 23 = .ok (.aload_n 0, 1) := by decide +kernel
theorem dX6_takeBack_24 : decode cX6_takeBack 24 = .ok (.getfield 17, 3) := by decide +kernel
theorem dX6_takeBack_27 : decode cX6_takeBack 27 = .ok (.bipush 40, 2) := by decide +kernel
theorem dX6_takeBack_29 : decode cX6_takeBack 29 = .ok (.iadd, 1) := by decide +kernel
theorem dX6_takeBack_30 : decode cX6_takeBack 30 = .ok (.iconst 1, 1) := by decide +kernel
theorem dX6_takeBack_31 : decode cX6_takeBack 31 = .ok (.isub, 1) := by decide +kernel
theorem dX6_takeBack_32 : decode cX6_takeBack 32 = .ok (.bipush 40, 2) := by decide +kernel
theorem dX6_takeBack_34 : decode cX6_takeBack 34 = .ok (.irem, 1) := by decide +kernel
theorem dX6_takeBack_35 : decode cX6_takeBack 35 = .ok (.putfield 17, 3) := by decide +kernel
theorem dX6_takeBack_38 : decode cX6_takeBack 38 = .ok (.aload_n 0, 1) := by decide +kernel
theorem dX6_takeBack_39 : decode cX6_takeBack 39 = .ok (.dup, 1) := by decide +kernel
theorem dX6_takeBack_40 : decode cX6_takeBack 40 = .ok (.getfield 21, 3) := by decide +kernel
theorem dX6_takeBack_43 : decode cX6_takeBack 43 = .ok (.iconst 1, 1) := by decide +kernel
theorem dX6_takeBack_44 : decode cX6_takeBack 44 = .ok (.isub, 1) := by decide +kernel
theorem dX6_takeBack_45 : decode cX6_takeBack 45 = .ok (.putfield 21, 3) := by decide +kernel
theorem dX6_takeBack_48 : decode cX6_takeBack 48 = .ok (.iconst 1, 1) := by decide +kernel
theorem dX6_takeBack_49 : decode cX6_takeBack 49 = .ok (.ireturn, 1) := by decide +kernel
