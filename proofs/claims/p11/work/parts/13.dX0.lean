theorem dX0_init_0 : decode cX0_init 0 = .ok (.aload_n 0, 1) := by decide +kernel
theorem dX0_init_1 : decode cX0_init 1 = .ok (.invokespecial 3, 3) := by decide +kernel
theorem dX0_init_4 : decode cX0_init 4 = .ok (.aload_n 0, 1) := by decide +kernel
theorem dX0_init_5 : decode cX0_init 5 = .ok (.new 9, 3) := by decide +kernel
theorem dX0_init_8 : decode cX0_init 8 = .ok (.dup, 1) := by decide +kernel
theorem dX0_init_9 : decode cX0_init 9 = .ok (.invokespecial 11, 3) := by decide +kernel
theorem dX0_init_12 : decode cX0_init 12 = .ok (.putfield 12, 3) := by decide +kernel
theorem dX0_init_15 : decode cX0_init 15 = .ok (.aload_n 0, 1) := by decide +kernel
theorem dX0_init_16 : decode cX0_init 16 = .ok (.new 18, 3) := by decide +kernel
theorem dX0_init_19 : decode cX0_init 19 = .ok (.dup, 1) := by decide +kernel
theorem dX0_init_20 : decode cX0_init 20 = .ok (.invokespecial 20, 3) := by decide +kernel
theorem dX0_init_23 : decode cX0_init 23 = .ok (.putfield 21, 3) := by decide +kernel
theorem dX0_init_26 : decode cX0_init 26 = .ok (.aload_n 0, 1) := by decide +kernel
theorem dX0_init_27 : decode cX0_init 27 = .ok (.iconst 0, 1) := by decide +kernel
theorem dX0_init_28 : decode cX0_init 28 = .ok (.putfield 25, 3) := by decide +kernel
theorem dX0_init_31 : decode cX0_init 31 = .ok (.aload_n 0, 1) := by decide +kernel
theorem dX0_init_32 : decode cX0_init 32 = .ok (.iconst 0, 1) := by decide +kernel
theorem dX0_init_33 : decode cX0_init 33 = .ok (.putfield 29, 3) := by decide +kernel
theorem dX0_init_36 : decode cX0_init 36 = .ok (.aload_n 0, 1) := by decide +kernel
theorem dX0_init_37 : decode cX0_init 37 = .ok (.iconst 0, 1) := by decide +kernel
theorem dX0_init_38 : decode cX0_init 38 = .ok (.putfield 32, 3) := by decide +kernel
theorem dX0_init_41 : decode cX0_init 41 = .ok (.aload_n 0, 1) := by decide +kernel
theorem dX0_init_42 : decode cX0_init 42 = .ok (.bipush 9, 2) := by decide +kernel
theorem dX0_init_44 : decode cX0_init 44 = .ok (.newarray .int, 2) := by decide +kernel
theorem dX0_init_46 : decode cX0_init 46 = .ok (.putfield 35, 3) := by decide +kernel
theorem dX0_init_49 : decode cX0_init 49 = .ok (.return_, 1) := by decide +kernel
theorem dX0_clear_0 : decode cX0_clear 0 = .ok (.aload_n 0, 1) := by decide +kernel
theorem dX0_clear_1 : decode cX0_clear 1 = .ok (.getfield 12, 3) := by decide +kernel
theorem dX0_clear_4 : decode cX0_clear 4 = .ok (.iconst 4, 1) := by decide +kernel
theorem dX0_clear_5 : decode cX0_clear 5 = .ok (.iconst 4, 1) := by decide +kernel
theorem dX0_clear_6 : decode cX0_clear 6 = .ok (.invokevirtual 39, 3) := by decide +kernel
theorem dX0_clear_9 : decode cX0_clear 9 = .ok (.aload_n 0, 1) := by decide +kernel
theorem dX0_clear_10 : decode cX0_clear 10 = .ok (.getfield 21, 3) := by decide +kernel
theorem dX0_clear_13 : decode cX0_clear 13 = .ok (.invokevirtual 43, 3) := by decide +kernel
theorem dX0_clear_16 : decode cX0_clear 16 = .ok (.aload_n 0, 1) := by decide +kernel
theorem dX0_clear_17 : decode cX0_clear 17 = .ok (.iconst 0, 1) := by decide +kernel
theorem dX0_clear_18 : decode cX0_clear 18 = .ok (.putfield 25, 3) := by decide +kernel
theorem dX0_clear_21 : decode cX0_clear 21 = .ok (.aload_n 0, 1) := by decide +kernel
theorem dX0_clear_22 : decode cX0_clear 22 = .ok (.iconst 0, 1) := by decide +kernel
theorem dX0_clear_23 : decode cX0_clear 23 = .ok (.putfield 29, 3) := by decide +kernel
theorem dX0_clear_26 : decode cX0_clear 26 = .ok (.aload_n 0, 1) := by decide +kernel
theorem dX0_clear_27 : decode cX0_clear 27 = .ok (.iconst 0, 1) := by decide +kernel
theorem dX0_clear_28 : decode cX0_clear 28 = .ok (.putfield 32, 3) := by decide +kernel
theorem dX0_clear_31 : decode cX0_clear 31 = .ok (.return_, 1) := by decide +kernel
theorem dX0_become_0 : decode cX0_become 0 = .ok (.aload_n 0, 1) := by decide +kernel
theorem dX0_become_1 : decode cX0_become 1 = .ok (.getfield 12, 3) := by decide +kernel
theorem dX0_become_4 : decode cX0_become 4 = .ok (.aload_n 1, 1) := by decide +kernel
theorem dX0_become_5 : decode cX0_become 5 = .ok (.getfield 12, 3) := by decide +kernel
theorem dX0_become_8 : decode cX0_become 8 = .ok (.invokevirtual 46, 3) := by decide +kernel
theorem dX0_become_11 : decode cX0_become 11 = .ok (.aload_n 0, 1) := by decide +kernel
theorem dX0_become_12 : decode cX0_become 12 = .ok (.getfield 21, 3) := by decide +kernel
theorem dX0_become_15 : decode cX0_become 15 = .ok (.aload_n 1, 1) := by decide +kernel
theorem dX0_become_16 : decode cX0_become 16 = .ok (.getfield 21, 3) := by decide +kernel
theorem dX0_become_19 : decode cX0_become 19 = .ok (.invokevirtual 50, 3) := by decide +kernel
theorem dX0_become_22 : decode cX0_become 22 = .ok (.aload_n 0, 1) := by decide +kernel
theorem dX0_become_23 : decode cX0_become 23 = .ok (.aload_n 1, 1) := by decide +kernel
theorem dX0_become_24 : decode cX0_become 24 = .ok (.getfield 25, 3) := by decide +kernel
theorem dX0_become_27 : decode cX0_become 27 = .ok (.putfield 25, 3) := by decide +kernel
theorem dX0_become_30 : decode cX0_become 30 = .ok (.aload_n 0, 1) := by decide +kernel
theorem dX0_become_31 : decode cX0_become 31 = .ok (.aload_n 1, 1) := by decide +kernel
theorem dX0_become_32 : decode cX0_become 32 = .ok (.getfield 29, 3) := by decide +kernel
theorem dX0_become_35 : decode cX0_become 35 = .ok (.putfield 29, 3) := by decide +kernel
theorem dX0_become_38 : decode cX0_become 38 = .ok (.aload_n 0, 1) := by decide +kernel
theorem dX0_become_39 : decode cX0_become 39 = .ok (.aload_n 1, 1) := by decide +kernel
theorem dX0_become_40 : decode cX0_become 40 = .ok (.getfield 32, 3) := by decide +kernel
theorem dX0_become_43 : decode cX0_become 43 = .ok (.putfield 32, 3) := by decide +kernel
theorem dX0_become_46 : decode cX0_become 46 = .ok (.return_, 1) := by decide +kernel
theorem dX0_hasGoer_0 : decode cX0_hasGoer 0 = .ok (.iload_n 1, 1) := by decide +kernel
theorem dX0_hasGoer_1 : decode cX0_hasGoer 1 = .ok (.ifCond .lt 20, 3) := by decide +kernel
theorem dX0_hasGoer_4 : decode cX0_hasGoer 4 = .ok (.iload_n 1, 1) := by decide +kernel
theorem dX0_hasGoer_5 : decode cX0_hasGoer 5 = .ok (.aload_n 0, 1) := by decide +kernel
theorem dX0_hasGoer_6 : decode cX0_hasGoer 6 = .ok (.getfield 25, 3) := by decide +kernel
theorem dX0_hasGoer_9 : decode cX0_hasGoer 9 = .ok (.if_icmp .ge 12, 3) := by decide +kernel
theorem dX0_hasGoer_12 : decode cX0_hasGoer 12 = .ok (.iload_n 1, 1) := by decide +kernel
theorem dX0_hasGoer_13 : decode cX0_hasGoer 13 = .ok (.iconst 5, 1) := by decide +kernel
theorem dX0_hasGoer_14 : decode cX0_hasGoer 14 = .ok (.if_icmp .ge 7, 3) := by decide +kernel
theorem dX0_hasGoer_17 : decode cX0_hasGoer 17 = .ok (.iconst 1, 1) := by decide +kernel
theorem dX0_hasGoer_18 : decode cX0_hasGoer 18 = .ok (.goto 4, 3) := by decide +kernel
theorem dX0_hasGoer_21 : decode cX0_hasGoer 21 = .ok (.iconst 0, 1) := by decide +kernel
theorem dX0_hasGoer_22 : decode cX0_hasGoer 22 = .ok (.ireturn, 1) := by decide +kernel
theorem dX0_ask_0 : decode cX0_ask 0 = .ok (.aload_n 0, 1) := by decide +kernel
theorem dX0_ask_1 : decode cX0_ask 1 = .ok (.getfield 35, 3) := by decide +kernel
theorem dX0_ask_4 : decode cX0_ask 4 = .ok (.iconst 0, 1) := by decide +kernel
theorem dX0_ask_5 : decode cX0_ask 5 = .ok (.aload_n 0, 1) := by decide +kernel
theorem dX0_ask_6 : decode cX0_ask 6 = .ok (.getfield 12, 3) := by decide +kernel
theorem dX0_ask_9 : decode cX0_ask 9 = .ok (.iload_n 3, 1) := by decide +kernel
theorem dX0_ask_10 : decode cX0_ask 10 = .ok (.invokevirtual 53, 3) := by decide +kernel
theorem dX0_ask_13 : decode cX0_ask 13 = .ok (.iastore, 1) := by decide +kernel
theorem dX0_ask_14 : decode cX0_ask 14 = .ok (.aload_n 0, 1) := by decide +kernel
theorem dX0_ask_15 : decode cX0_ask 15 = .ok (.getfield 35, 3) := by decide +kernel
theorem dX0_ask_18 : decode cX0_ask 18 = .ok (.iconst 1, 1) := by decide +kernel
theorem dX0_ask_19 : decode cX0_ask 19 = .ok (.aload_n 0, 1) := by decide +kernel
theorem dX0_ask_20 : decode cX0_ask 20 = .ok (.getfield 12, 3) := by decide +kernel
theorem dX0_ask_23 : decode cX0_ask 23 = .ok (.iload_n 3, 1) := by decide +kernel
theorem dX0_ask_24 : decode cX0_ask 24 = .ok (.invokevirtual 57, 3) := by decide +kernel
theorem dX0_ask_27 : decode cX0_ask 27 = .ok (.iastore, 1) := by decide +kernel
theorem dX0_ask_28 : decode cX0_ask 28 = .ok (.aload_n 0, 1) := by decide +kernel
theorem dX0_ask_29 : decode cX0_ask 29 = .ok (.getfield 35, 3) := by decide +kernel
theorem dX0_ask_32 : decode cX0_ask 32 = .ok (.iconst 2, 1) := by decide +kernel
theorem dX0_ask_33 : decode cX0_ask 33 = .ok (.aload_n 1, 1) := by decide +kernel
theorem dX0_ask_34 : decode cX0_ask 34 = .ok (.getfield 60, 3) := by decide +kernel
theorem dX0_ask_37 : decode cX0_ask 37 = .ok (.iastore, 1) := by decide +kernel
theorem dX0_ask_38 : decode cX0_ask 38 = .ok (.aload_n 0, 1) := by decide +kernel
theorem dX0_ask_39 : decode cX0_ask 39 = .ok (.getfield 35, 3) := by decide +kernel
theorem dX0_ask_42 : decode cX0_ask 42 = .ok (.iconst 3, 1) := by decide +kernel
theorem dX0_ask_43 : decode cX0_ask 43 = .ok (.aload_n 1, 1) := by decide +kernel
theorem dX0_ask_44 : decode cX0_ask 44 = .ok (.iload_n 3, 1) := by decide +kernel
theorem dX0_ask_45 : decode cX0_ask 45 = .ok (.invokevirtual 65, 3) := by decide +kernel
theorem dX0_ask_48 : decode cX0_ask 48 = .ok (.iastore, 1) := by decide +kernel
theorem dX0_ask_49 : decode cX0_ask 49 = .ok (.aload_n 0, 1) := by decide +kernel
theorem dX0_ask_50 : decode cX0_ask 50 = .ok (.getfield 35, 3) := by decide +kernel
theorem dX0_ask_53 : decode cX0_ask 53 = .ok (.iconst 4, 1) := by decide +kernel
theorem dX0_ask_54 : decode cX0_ask 54 = .ok (.iload 4, 2) := by decide +kernel
theorem dX0_ask_56 : decode cX0_ask 56 = .ok (.iastore, 1) := by decide +kernel
theorem dX0_ask_57 : decode cX0_ask 57 = .ok (.aload_n 0, 1) := by decide +kernel
theorem dX0_ask_58 : decode cX0_ask 58 = .ok (.getfield 35, 3) := by decide +kernel
theorem dX0_ask_61 : decode cX0_ask 61 = .ok (.iconst 5, 1) := by decide +kernel
theorem dX0_ask_62 : decode cX0_ask 62 = .ok (.iload 5, 2) := by decide +kernel
theorem dX0_ask_64 : decode cX0_ask 64 = .ok (.iastore, 1) := by decide +kernel
theorem dX0_ask_65 : decode cX0_ask 65 = .ok (.aload_n 0, 1) := by decide +kernel
theorem dX0_ask_66 : decode cX0_ask 66 = .ok (.getfield 35, 3) := by decide +kernel
theorem dX0_ask_69 : decode cX0_ask 69 = .ok (.bipush 6, 2) := by decide +kernel
theorem dX0_ask_71 : decode cX0_ask 71 = .ok (.aload_n 0, 1) := by decide +kernel
theorem dX0_ask_72 : decode cX0_ask 72 = .ok (.getfield 12, 3) := by decide +kernel
theorem dX0_ask_75 : decode cX0_ask 75 = .ok (.getfield 68, 3) := by decide +kernel
theorem dX0_ask_78 : decode cX0_ask 78 = .ok (.iastore, 1) := by decide +kernel
theorem dX0_ask_79 : decode cX0_ask 79 = .ok (.aload_n 0, 1) := by decide +kernel
theorem dX0_ask_80 : decode cX0_ask 80 = .ok (.getfield 35, 3) := by decide +kernel
theorem dX0_ask_83 : decode cX0_ask 83 = .ok (.bipush 7, 2) := by decide +kernel
theorem dX0_ask_85 : decode cX0_ask 85 = .ok (.aload_n 0, 1) := by decide +kernel
theorem dX0_ask_86 : decode cX0_ask 86 = .ok (.getfield 12, 3) := by decide +kernel
theorem dX0_ask_89 : decode cX0_ask 89 = .ok (.getfield 71, 3) := by decide +kernel
theorem dX0_ask_92 : decode cX0_ask 92 = .ok (.iastore, 1) := by decide +kernel
theorem dX0_ask_93 : decode cX0_ask 93 = .ok (.aload_n 0, 1) := by decide +kernel
theorem dX0_ask_94 : decode cX0_ask 94 = .ok (.getfield 35, 3) := by decide +kernel
theorem dX0_ask_97 : decode cX0_ask 97 = .ok (.bipush 8, 2) := by decide +kernel
theorem dX0_ask_99 : decode cX0_ask 99 = .ok (.aload_n 1, 1) := by decide +kernel
theorem dX0_ask_100 : decode cX0_ask 100 = .ok (.getfield 74, 3) := by decide +kernel
theorem dX0_ask_103 : decode cX0_ask 103 = .ok (.invokestatic 77, 3) := by decide +kernel
theorem dX0_ask_106 : decode cX0_ask 106 = .ok (.iastore, 1) := by decide +kernel
theorem dX0_ask_107 : decode cX0_ask 107 = .ok (.aload_n 0, 1) := by decide +kernel
theorem dX0_ask_108 : decode cX0_ask 108 = .ok (.getfield 21, 3) := by decide +kernel
theorem dX0_ask_111 : decode cX0_ask 111 = .ok (.iload_n 2, 1) := by decide +kernel
theorem dX0_ask_112 : decode cX0_ask 112 = .ok (.aload_n 0, 1) := by decide +kernel
theorem dX0_ask_113 : decode cX0_ask 113 = .ok (.getfield 35, 3) := by decide +kernel
theorem dX0_ask_116 : decode cX0_ask 116 = .ok (.invokevirtual 82, 3) := by decide +kernel
theorem dX0_ask_119 : decode cX0_ask 119 = .ok (.ireturn, 1) := by decide +kernel
theorem dX0_costOf_0 : decode cX0_costOf 0 = .ok (.iconst 0, 1) := by decide +kernel
theorem dX0_costOf_1 : decode cX0_costOf 1 = .ok (.bipush 99, 2) := by decide +kernel
theorem dX0_costOf_3 : decode cX0_costOf 3 = .ok (.aload_n 0, 1) := by decide +kernel
theorem dX0_costOf_4 : decode cX0_costOf 4 = .ok (.aload_n 1, 1) := by decide +kernel
theorem dX0_costOf_5 : decode cX0_costOf 5 = .ok (.iconst 3, 1) := by decide +kernel
theorem dX0_costOf_6 : decode cX0_costOf 6 = .ok (.iload_n 2, 1) := by decide +kernel
theorem dX0_costOf_7 : decode cX0_costOf 7 = .ok (.iconst 0, 1) := by decide +kernel
theorem dX0_costOf_8 : decode cX0_costOf 8 = .ok (.iconst 0, 1) := by decide +kernel
theorem dX0_costOf_9 : decode cX0_costOf 9 = .ok (.invokevirtual 86, 3) := by decide +kernel
theorem dX0_costOf_12 : decode cX0_costOf 12 = .ok (.invokestatic 90, 3) := by decide +kernel
theorem dX0_costOf_15 : decode cX0_costOf 15 = .ok (.invokestatic 96, 3) := by decide +kernel
theorem dX0_costOf_18 : decode cX0_costOf 18 = .ok (.ireturn, 1) := by decide +kernel
theorem dX0_whereTo_0 : decode cX0_whereTo 0 = .ok (.aload_n 0, 1) := by decide +kernel
theorem dX0_whereTo_1 : decode cX0_whereTo 1 = .ok (.iload_n 3, 1) := by decide +kernel
theorem dX0_whereTo_2 : decode cX0_whereTo 2 = .ok (.invokevirtual 99, 3) := by decide +kernel
theorem dX0_whereTo_5 : decode cX0_whereTo 5 = .ok (.ifCond .ne 5, 3) := by decide +kernel
theorem dX0_whereTo_8 : decode cX0_whereTo 8 = .ok (.iconst (-1), 1) := by decide +kernel
theorem dX0_whereTo_9 : decode cX0_whereTo 9 = .ok (.ireturn, 1) := by decide +kernel
theorem dX0_whereTo_10 : decode cX0_whereTo 10 = .ok (.aload_n 1, 1) := by decide +kernel
theorem dX0_whereTo_11 : decode cX0_whereTo 11 = .ok (.getfield 103, 3) := by decide +kernel
theorem dX0_whereTo_14 : decode cX0_whereTo 14 = .ok (.iload_n 3, 1) := by decide +kernel
theorem dX0_whereTo_15 : decode cX0_whereTo 15 = .ok (.iaload, 1) := by decide +kernel
theorem dX0_whereTo_16 : decode cX0_whereTo 16 = .ok (.istore 4, 2) := by decide +kernel
theorem dX0_whereTo_18 : decode cX0_whereTo 18 = .ok (.iconst 0, 1) := by decide +kernel
theorem dX0_whereTo_19 : decode cX0_whereTo 19 = .ok (.aload_n 0, 1) := by decide +kernel
theorem dX0_whereTo_20 : decode cX0_whereTo 20 = .ok (.aload_n 1, 1) := by decide +kernel
theorem dX0_whereTo_21 : decode cX0_whereTo 21 = .ok (.iload_n 2, 1) := by decide +kernel
theorem dX0_whereTo_22 : decode cX0_whereTo 22 = .ok (.iload 4, 2) := by decide +kernel
theorem dX0_whereTo_24 : decode cX0_whereTo 24 = .ok (.aload_n 1, 1) := by decide +kernel
theorem dX0_whereTo_25 : decode cX0_whereTo 25 = .ok (.getfield 106, 3) := by decide +kernel
theorem dX0_whereTo_28 : decode cX0_whereTo 28 = .ok (.iload_n 3, 1) := by decide +kernel
theorem dX0_whereTo_29 : decode cX0_whereTo 29 = .ok (.iaload, 1) := by decide +kernel
theorem dX0_whereTo_30 : decode cX0_whereTo 30 = .ok (.iload_n 3, 1) := by decide +kernel
theorem dX0_whereTo_31 : decode cX0_whereTo 31 = .ok (.invokevirtual 86, 3) := by decide +kernel
theorem dX0_whereTo_34 : decode cX0_whereTo 34 = .ok (.invokestatic 96, 3) := by decide +kernel
theorem dX0_whereTo_37 : decode cX0_whereTo 37 = .ok (.istore 5, 2) := by decide +kernel
theorem dX0_whereTo_39 : decode cX0_whereTo 39 = .ok (.aload_n 0, 1) := by decide +kernel
theorem dX0_whereTo_40 : decode cX0_whereTo 40 = .ok (.getfield 12, 3) := by decide +kernel
theorem dX0_whereTo_43 : decode cX0_whereTo 43 = .ok (.iload 4, 2) := by decide +kernel
theorem dX0_whereTo_45 : decode cX0_whereTo 45 = .ok (.iload 5, 2) := by decide +kernel
theorem dX0_whereTo_47 : decode cX0_whereTo 47 = .ok (.iconst 5, 1) := by decide +kernel
theorem dX0_whereTo_48 : decode cX0_whereTo 48 = .ok (.irem, 1) := by decide +kernel
theorem dX0_whereTo_49 : decode cX0_whereTo 49 = .ok (.invokevirtual 109, 3) := by decide +kernel
theorem dX0_whereTo_52 : decode cX0_whereTo 52 = .ok (.istore 6, 2) := by decide +kernel
theorem dX0_whereTo_54 : decode cX0_whereTo 54 = .ok (.aload_n 1, 1) := by decide +kernel
theorem dX0_whereTo_55 : decode cX0_whereTo 55 = .ok (.iload 6, 2) := by decide +kernel
theorem dX0_whereTo_57 : decode cX0_whereTo 57 = .ok (.invokevirtual 112, 3) := by decide +kernel
theorem dX0_whereTo_60 : decode cX0_whereTo 60 = .ok (.ifCond .eq 8, 3) := by decide +kernel
theorem dX0_whereTo_63 : decode cX0_whereTo 63 = .ok (.iload 4, 2) := by decide +kernel
theorem dX0_whereTo_65 : decode cX0_whereTo 65 = .ok (.goto 5, 3) := by decide +kernel
theorem dX0_whereTo_68 : decode cX0_whereTo 68 = .ok (.iload 6, 2) := by decide +kernel
theorem dX0_whereTo_70 : decode cX0_whereTo 70 = .ok (.ireturn, 1) := by decide +kernel
theorem dX0_walk_0 : decode cX0_walk 0 = .ok (.iconst 0, 1) := by decide +kernel
theorem dX0_walk_1 : decode cX0_walk 1 = .ok (.istore_n 2, 1) := by decide +kernel
theorem dX0_walk_2 : decode cX0_walk 2 = .ok (.iload_n 2, 1) := by decide +kernel
theorem dX0_walk_3 : decode cX0_walk 3 = .ok (.aload_n 0, 1) := by decide +kernel
theorem dX0_walk_4 : decode cX0_walk 4 = .ok (.getfield 25, 3) := by decide +kernel
theorem dX0_walk_7 : decode cX0_walk 7 = .ok (.if_icmp .ge 27, 3) := by decide +kernel
theorem dX0_walk_10 : decode cX0_walk 10 = .ok (.iload_n 2, 1) := by decide +kernel
theorem dX0_walk_11 : decode cX0_walk 11 = .ok (.iconst 5, 1) := by decide +kernel
theorem dX0_walk_12 : decode cX0_walk 12 = .ok (.if_icmp .ge 22, 3) := by decide +kernel
theorem dX0_walk_15 : decode cX0_walk 15 = .ok (.aload_n 1, 1) := by decide +kernel
theorem dX0_walk_16 : decode cX0_walk 16 = .ok (.getfield 103, 3) := by decide +kernel
theorem dX0_walk_19 : decode cX0_walk 19 = .ok (.iload_n 2, 1) := by decide +kernel
theorem dX0_walk_20 : decode cX0_walk 20 = .ok (.aload_n 0, 1) := by decide +kernel
theorem dX0_walk_21 : decode cX0_walk 21 = .ok (.aload_n 1, 1) := by decide +kernel
theorem dX0_walk_22 : decode cX0_walk 22 = .ok (.iconst 0, 1) := by decide +kernel
theorem dX0_walk_23 : decode cX0_walk 23 = .ok (.iload_n 2, 1) := by decide +kernel
theorem dX0_walk_24 : decode cX0_walk 24 = .ok (.invokevirtual 115, 3) := by decide +kernel
theorem dX0_walk_27 : decode cX0_walk 27 = .ok (.iastore, 1) := by decide +kernel
theorem dX0_walk_28 : decode cX0_walk 28 = .ok (.iinc 2 1, 3) := by decide +kernel
theorem dX0_walk_31 : decode cX0_walk 31 = .ok (.goto (-29), 3) := by decide +kernel
theorem dX0_walk_34 : decode cX0_walk 34 = .ok (.aload_n 1, 1) := by decide +kernel
theorem dX0_walk_35 : decode cX0_walk 35 = .ok (.dup, 1) := by decide +kernel
theorem dX0_walk_36 : decode cX0_walk 36 = .ok (.getfield 60, 3) := by decide +kernel
theorem dX0_walk_39 : decode cX0_walk 39 = .ok (.iconst 1, 1) := by decide +kernel
theorem dX0_walk_40 : decode cX0_walk 40 = .ok (.iadd, 1) := by decide +kernel
theorem dX0_walk_41 : decode cX0_walk 41 = .ok (.putfield 60, 3) := by decide +kernel
theorem dX0_walk_44 : decode cX0_walk 44 = .ok (.iconst 0, 1) := by decide +kernel
theorem dX0_walk_45 : decode cX0_walk 45 = .ok (.istore_n 2, 1) := by decide +kernel
theorem dX0_walk_46 : decode cX0_walk 46 = .ok (.iload_n 2, 1) := by decide +kernel
theorem dX0_walk_47 : decode cX0_walk 47 = .ok (.aload_n 0, 1) := by decide +kernel
theorem dX0_walk_48 : decode cX0_walk 48 = .ok (.getfield 25, 3) := by decide +kernel
theorem dX0_walk_51 : decode cX0_walk 51 = .ok (.if_icmp .ge 54, 3) := by decide +kernel
theorem dX0_walk_54 : decode cX0_walk 54 = .ok (.iload_n 2, 1) := by decide +kernel
theorem dX0_walk_55 : decode cX0_walk 55 = .ok (.iconst 5, 1) := by decide +kernel
theorem dX0_walk_56 : decode cX0_walk 56 = .ok (.if_icmp .ge 49, 3) := by decide +kernel
theorem dX0_walk_59 : decode cX0_walk 59 = .ok (.aload_n 1, 1) := by decide +kernel
theorem dX0_walk_60 : decode cX0_walk 60 = .ok (.aload_n 1, 1) := by decide +kernel
theorem dX0_walk_61 : decode cX0_walk 61 = .ok (.getfield 103, 3) := by decide +kernel
theorem dX0_walk_64 : decode cX0_walk 64 = .ok (.iload_n 2, 1) := by decide +kernel
theorem dX0_walk_65 : decode cX0_walk 65 = .ok (.iaload, 1) := by decide +kernel
theorem dX0_walk_66 : decode cX0_walk 66 = .ok (.aload_n 1, 1) := by decide +kernel
theorem dX0_walk_67 : decode cX0_walk 67 = .ok (.getfield 60, 3) := by decide +kernel
theorem dX0_walk_70 : decode cX0_walk 70 = .ok (.invokevirtual 119, 3) := by decide +kernel
theorem dX0_walk_73 : decode cX0_walk 73 = .ok (.ifCond .eq 26, 3) := by decide +kernel
theorem dX0_walk_76 : decode cX0_walk 76 = .ok (.aload_n 1, 1) := by decide +kernel
theorem dX0_walk_77 : decode cX0_walk 77 = .ok (.getfield 103, 3) := by decide +kernel
theorem dX0_walk_80 : decode cX0_walk 80 = .ok (.iload_n 2, 1) := by decide +kernel
theorem dX0_walk_81 : decode cX0_walk 81 = .ok (.aload_n 0, 1) := by decide +kernel
theorem dX0_walk_82 : decode cX0_walk 82 = .ok (.aload_n 1, 1) := by decide +kernel
theorem dX0_walk_83 : decode cX0_walk 83 = .ok (.iconst 1, 1) := by decide +kernel
theorem dX0_walk_84 : decode cX0_walk 84 = .ok (.iload_n 2, 1) := by decide +kernel
theorem dX0_walk_85 : decode cX0_walk 85 = .ok (.invokevirtual 115, 3) := by decide +kernel
theorem dX0_walk_88 : decode cX0_walk 88 = .ok (.iastore, 1) := by decide +kernel
theorem dX0_walk_89 : decode cX0_walk 89 = .ok (.aload_n 1, 1) := by decide +kernel
theorem dX0_walk_90 : decode cX0_walk 90 = .ok (.getfield 106, 3) := by decide +kernel
theorem dX0_walk_93 : decode cX0_walk 93 = .ok (.iload_n 2, 1) := by decide +kernel
theorem dX0_walk_94 : decode cX0_walk 94 = .ok (.dup2, 1) := by decide +kernel
theorem dX0_walk_95 : decode cX0_walk 95 = .ok (.iaload, 1) := by decide +kernel
theorem dX0_walk_96 : decode cX0_walk 96 = .ok (.iconst 1, 1) := by decide +kernel
theorem dX0_walk_97 : decode cX0_walk 97 = .ok (.iadd, 1) := by decide +kernel
theorem dX0_walk_98 : decode cX0_walk 98 = .ok (.iastore, 1) := by decide +kernel
theorem dX0_walk_99 : decode cX0_walk 99 = .ok (.iinc 2 1, 3) := by decide +kernel
theorem dX0_walk_102 : decode cX0_walk 102 = .ok (.goto (-56), 3) := by decide +kernel
theorem dX0_walk_105 : decode cX0_walk 105 = .ok (.return_, 1) := by decide +kernel
theorem dX0_goOn_0 : decode cX0_goOn 0 = .ok (.iconst 0, 1) := by decide +kernel
theorem dX0_goOn_1 : decode cX0_goOn 1 = .ok (.istore_n 3, 1) := by decide +kernel
theorem dX0_goOn_2 : decode cX0_goOn 2 = .ok (.iload_n 3, 1) := by decide +kernel
theorem dX0_goOn_3 : decode cX0_goOn 3 = .ok (.iload_n 2, 1) := by decide +kernel
theorem dX0_goOn_4 : decode cX0_goOn 4 = .ok (.if_icmp .ge 23, 3) := by decide +kernel
theorem dX0_goOn_7 : decode cX0_goOn 7 = .ok (.aload_n 0, 1) := by decide +kernel
theorem dX0_goOn_8 : decode cX0_goOn 8 = .ok (.aload_n 1, 1) := by decide +kernel
theorem dX0_goOn_9 : decode cX0_goOn 9 = .ok (.invokevirtual 123, 3) := by decide +kernel
theorem dX0_goOn_12 : decode cX0_goOn 12 = .ok (.aload_n 0, 1) := by decide +kernel
theorem dX0_goOn_13 : decode cX0_goOn 13 = .ok (.aload_n 1, 1) := by decide +kernel
theorem dX0_goOn_14 : decode cX0_goOn 14 = .ok (.aload_n 0, 1) := by decide +kernel
theorem dX0_goOn_15 : decode cX0_goOn 15 = .ok (.getfield 32, 3) := by decide +kernel
theorem dX0_goOn_18 : decode cX0_goOn 18 = .ok (.invokevirtual 127, 3) := by decide +kernel
theorem dX0_goOn_21 : decode cX0_goOn 21 = .ok (.iinc 3 1, 3) := by decide +kernel
theorem dX0_goOn_24 : decode cX0_goOn 24 = .ok (.goto (-22), 3) := by decide +kernel
theorem dX0_goOn_27 : decode cX0_goOn 27 = .ok (.return_, 1) := by decide +kernel
theorem dX0_soak_0 : decode cX0_soak 0 = .ok (.iconst 0, 1) := by decide +kernel
theorem dX0_soak_1 : decode cX0_soak 1 = .ok (.istore 4, 2) := by decide +kernel
theorem dX0_soak_3 : decode cX0_soak 3 = .ok (.iload 4, 2) := by decide +kernel
theorem dX0_soak_5 : decode cX0_soak 5 = .ok (.iload_n 2, 1) := by decide +kernel
theorem dX0_soak_6 : decode cX0_soak 6 = .ok (.if_icmp .ge 33, 3) := by decide +kernel
theorem dX0_soak_9 : decode cX0_soak 9 = .ok (.aload_n 0, 1) := by decide +kernel
theorem dX0_soak_10 : decode cX0_soak 10 = .ok (.aload_n 1, 1) := by decide +kernel
theorem dX0_soak_11 : decode cX0_soak 11 = .ok (.invokevirtual 131, 3) := by decide +kernel
theorem dX0_soak_14 : decode cX0_soak 14 = .ok (.ifCond .eq 25, 3) := by decide +kernel
theorem dX0_soak_17 : decode cX0_soak 17 = .ok (.aload_n 1, 1) := by decide +kernel
theorem dX0_soak_18 : decode cX0_soak 18 = .ok (.dup, 1) := by decide +kernel
theorem dX0_soak_19 : decode cX0_soak 19 = .ok (.getfield 60, 3) := by decide +kernel
theorem dX0_soak_22 : decode cX0_soak 22 = .ok (.iconst 1, 1) := by decide +kernel
theorem dX0_soak_23 : decode cX0_soak 23 = .ok (.iadd, 1) := by decide +kernel
theorem dX0_soak_24 : decode cX0_soak 24 = .ok (.putfield 60, 3) := by decide +kernel
theorem dX0_soak_27 : decode cX0_soak 27 = .ok (.aload_n 0, 1) := by decide +kernel
theorem dX0_soak_28 : decode cX0_soak 28 = .ok (.aload_n 1, 1) := by decide +kernel
theorem dX0_soak_29 : decode cX0_soak 29 = .ok (.iload_n 3, 1) := by decide +kernel
theorem dX0_soak_30 : decode cX0_soak 30 = .ok (.invokevirtual 127, 3) := by decide +kernel
theorem dX0_soak_33 : decode cX0_soak 33 = .ok (.iinc 4 1, 3) := by decide +kernel
theorem dX0_soak_36 : decode cX0_soak 36 = .ok (.goto (-33), 3) := by decide +kernel
theorem dX0_soak_39 : decode cX0_soak 39 = .ok (.return_, 1) := by decide +kernel
theorem dX0_canSpread_0 : decode cX0_canSpread 0 = .ok (.aload_n 0, 1) := by decide +kernel
theorem dX0_canSpread_1 : decode cX0_canSpread 1 = .ok (.getfield 29, 3) := by decide +kernel
theorem dX0_canSpread_4 : decode cX0_canSpread 4 = .ok (.ifCond .le 33, 3) := by decide +kernel
theorem dX0_canSpread_7 : decode cX0_canSpread 7 = .ok (.aload_n 0, 1) := by decide +kernel
theorem dX0_canSpread_8 : decode cX0_canSpread 8 = .ok (.getfield 12, 3) := by decide +kernel
theorem dX0_canSpread_11 : decode cX0_canSpread 11 = .ok (.aload_n 1, 1) := by decide +kernel
theorem dX0_canSpread_12 : decode cX0_canSpread 12 = .ok (.getfield 74, 3) := by decide +kernel
theorem dX0_canSpread_15 : decode cX0_canSpread 15 = .ok (.invokevirtual 135, 3) := by decide +kernel
theorem dX0_canSpread_18 : decode cX0_canSpread 18 = .ok (.ifCond .eq 19, 3) := by decide +kernel
theorem dX0_canSpread_21 : decode cX0_canSpread 21 = .ok (.aload_n 1, 1) := by decide +kernel
theorem dX0_canSpread_22 : decode cX0_canSpread 22 = .ok (.getfield 74, 3) := by decide +kernel
theorem dX0_canSpread_25 : decode cX0_canSpread 25 = .ok (.invokestatic 77, 3) := by decide +kernel
theorem dX0_canSpread_28 : decode cX0_canSpread 28 = .ok (.bipush 8, 2) := by decide +kernel
theorem dX0_canSpread_30 : decode cX0_canSpread 30 = .ok (.if_icmp .ge 7, 3) := by decide +kernel
theorem dX0_canSpread_33 : decode cX0_canSpread 33 = .ok (.iconst 1, 1) := by decide +kernel
theorem dX0_canSpread_34 : decode cX0_canSpread 34 = .ok (.goto 4, 3) := by decide +kernel
theorem dX0_canSpread_37 : decode cX0_canSpread 37 = .ok (.iconst 0, 1) := by decide +kernel
theorem dX0_canSpread_38 : decode cX0_canSpread 38 = .ok (.ireturn, 1) := by decide +kernel
theorem dX0_spread_0 : decode cX0_spread 0 = .ok (.bipush 8, 2) := by decide +kernel
theorem dX0_spread_2 : decode cX0_spread 2 = .ok (.aload_n 1, 1) := by decide +kernel
theorem dX0_spread_3 : decode cX0_spread 3 = .ok (.getfield 74, 3) := by decide +kernel
theorem dX0_spread_6 : decode cX0_spread 6 = .ok (.invokestatic 77, 3) := by decide +kernel
theorem dX0_spread_9 : decode cX0_spread 9 = .ok (.isub, 1) := by decide +kernel
theorem dX0_spread_10 : decode cX0_spread 10 = .ok (.istore_n 3, 1) := by decide +kernel
theorem dX0_spread_11 : decode cX0_spread 11 = .ok (.iconst 0, 1) := by decide +kernel
theorem dX0_spread_12 : decode cX0_spread 12 = .ok (.istore 4, 2) := by decide +kernel
theorem dX0_spread_14 : decode cX0_spread 14 = .ok (.aload_n 0, 1) := by decide +kernel
theorem dX0_spread_15 : decode cX0_spread 15 = .ok (.getfield 12, 3) := by decide +kernel
theorem dX0_spread_18 : decode cX0_spread 18 = .ok (.aload_n 1, 1) := by decide +kernel
theorem dX0_spread_19 : decode cX0_spread 19 = .ok (.getfield 74, 3) := by decide +kernel
theorem dX0_spread_22 : decode cX0_spread 22 = .ok (.invokevirtual 135, 3) := by decide +kernel
theorem dX0_spread_25 : decode cX0_spread 25 = .ok (.istore 5, 2) := by decide +kernel
theorem dX0_spread_27 : decode cX0_spread 27 = .ok (.iconst 0, 1) := by decide +kernel
theorem dX0_spread_28 : decode cX0_spread 28 = .ok (.istore 6, 2) := by decide +kernel
theorem dX0_spread_30 : decode cX0_spread 30 = .ok (.iload 6, 2) := by decide +kernel
theorem dX0_spread_32 : decode cX0_spread 32 = .ok (.bipush 25, 2) := by decide +kernel
theorem dX0_spread_34 : decode cX0_spread 34 = .ok (.if_icmp .ge 75, 3) := by decide +kernel
theorem dX0_spread_37 : decode cX0_spread 37 = .ok (.iload 5, 2) := by decide +kernel
theorem dX0_spread_39 : decode cX0_spread 39 = .ok (.ifCond .eq 70, 3) := by decide +kernel
theorem dX0_spread_42 : decode cX0_spread 42 = .ok (.iload_n 3, 1) := by decide +kernel
theorem dX0_spread_43 : decode cX0_spread 43 = .ok (.ifCond .le 66, 3) := by decide +kernel
theorem dX0_spread_46 : decode cX0_spread 46 = .ok (.iload 5, 2) := by decide +kernel
theorem dX0_spread_48 : decode cX0_spread 48 = .ok (.invokestatic 138, 3) := by decide +kernel
theorem dX0_spread_51 : decode cX0_spread 51 = .ok (.istore 7, 2) := by decide +kernel
theorem dX0_spread_53 : decode cX0_spread 53 = .ok (.aload_n 0, 1) := by decide +kernel
theorem dX0_spread_54 : decode cX0_spread 54 = .ok (.aload_n 1, 1) := by decide +kernel
theorem dX0_spread_55 : decode cX0_spread 55 = .ok (.getfield 60, 3) := by decide +kernel
theorem dX0_spread_58 : decode cX0_spread 58 = .ok (.iload 7, 2) := by decide +kernel
theorem dX0_spread_60 : decode cX0_spread 60 = .ok (.iload_n 2, 1) := by decide +kernel
theorem dX0_spread_61 : decode cX0_spread 61 = .ok (.invokevirtual 141, 3) := by decide +kernel
theorem dX0_spread_64 : decode cX0_spread 64 = .ok (.ifCond .eq 30, 3) := by decide +kernel
theorem dX0_spread_67 : decode cX0_spread 67 = .ok (.aload_n 0, 1) := by decide +kernel
theorem dX0_spread_68 : decode cX0_spread 68 = .ok (.aload_n 1, 1) := by decide +kernel
theorem dX0_spread_69 : decode cX0_spread 69 = .ok (.iconst 2, 1) := by decide +kernel
theorem dX0_spread_70 : decode cX0_spread 70 = .ok (.iload 7, 2) := by decide +kernel
theorem dX0_spread_72 : decode cX0_spread 72 = .ok (.iconst 0, 1) := by decide +kernel
theorem dX0_spread_73 : decode cX0_spread 73 = .ok (.iconst 0, 1) := by decide +kernel
theorem dX0_spread_74 : decode cX0_spread 74 = .ok (.invokevirtual 86, 3) := by decide +kernel
theorem dX0_spread_77 : decode cX0_spread 77 = .ok (.ifCond .le 17, 3) := by decide +kernel
theorem dX0_spread_80 : decode cX0_spread 80 = .ok (.iload 4, 2) := by decide +kernel
theorem dX0_spread_82 : decode cX0_spread 82 = .ok (.iconst 1, 1) := by decide +kernel
theorem dX0_spread_83 : decode cX0_spread 83 = .ok (.iload 7, 2) := by decide +kernel
theorem dX0_spread_85 : decode cX0_spread 85 = .ok (.iconst 1, 1) := by decide +kernel
theorem dX0_spread_86 : decode cX0_spread 86 = .ok (.iadd, 1) := by decide +kernel
theorem dX0_spread_87 : decode cX0_spread 87 = .ok (.ishl, 1) := by decide +kernel
theorem dX0_spread_88 : decode cX0_spread 88 = .ok (.ior, 1) := by decide +kernel
theorem dX0_spread_89 : decode cX0_spread 89 = .ok (.istore 4, 2) := by decide +kernel
theorem dX0_spread_91 : decode cX0_spread 91 = .ok (.iinc 3 (-1), 3) := by decide +kernel
theorem dX0_spread_94 : decode cX0_spread 94 = .ok (.iinc 6 1, 3) := by decide +kernel
theorem dX0_spread_97 : decode cX0_spread 97 = .ok (.iload 5, 2) := by decide +kernel
theorem dX0_spread_99 : decode cX0_spread 99 = .ok (.iload 5, 2) := by decide +kernel
theorem dX0_spread_101 : decode cX0_spread 101 = .ok (.iconst 1, 1) := by decide +kernel
theorem dX0_spread_102 : decode cX0_spread 102 = .ok (.isub, 1) := by decide +kernel
theorem dX0_spread_103 : decode cX0_spread 103 = .ok (.iand, 1) := by decide +kernel
theorem dX0_spread_104 : decode cX0_spread 104 = .ok (.istore 5, 2) := by decide +kernel
theorem dX0_spread_106 : decode cX0_spread 106 = .ok (.goto (-76), 3) := by decide +kernel
theorem dX0_spread_109 : decode cX0_spread 109 = .ok (.iconst 0, 1) := by decide +kernel
theorem dX0_spread_110 : decode cX0_spread 110 = .ok (.istore 6, 2) := by decide +kernel
theorem dX0_spread_112 : decode cX0_spread 112 = .ok (.iload 6, 2) := by decide +kernel
theorem dX0_spread_114 : decode cX0_spread 114 = .ok (.bipush 25, 2) := by decide +kernel
theorem dX0_spread_116 : decode cX0_spread 116 = .ok (.if_icmp .ge 32, 3) := by decide +kernel
theorem dX0_spread_119 : decode cX0_spread 119 = .ok (.iload 4, 2) := by decide +kernel
theorem dX0_spread_121 : decode cX0_spread 121 = .ok (.ifCond .eq 27, 3) := by decide +kernel
theorem dX0_spread_124 : decode cX0_spread 124 = .ok (.aload_n 1, 1) := by decide +kernel
theorem dX0_spread_125 : decode cX0_spread 125 = .ok (.iload 4, 2) := by decide +kernel
theorem dX0_spread_127 : decode cX0_spread 127 = .ok (.invokestatic 138, 3) := by decide +kernel
theorem dX0_spread_130 : decode cX0_spread 130 = .ok (.invokevirtual 145, 3) := by decide +kernel
theorem dX0_spread_133 : decode cX0_spread 133 = .ok (.iinc 6 1, 3) := by decide +kernel
theorem dX0_spread_136 : decode cX0_spread 136 = .ok (.iload 4, 2) := by decide +kernel
theorem dX0_spread_138 : decode cX0_spread 138 = .ok (.iload 4, 2) := by decide +kernel
theorem dX0_spread_140 : decode cX0_spread 140 = .ok (.iconst 1, 1) := by decide +kernel
theorem dX0_spread_141 : decode cX0_spread 141 = .ok (.isub, 1) := by decide +kernel
theorem dX0_spread_142 : decode cX0_spread 142 = .ok (.iand, 1) := by decide +kernel
theorem dX0_spread_143 : decode cX0_spread 143 = .ok (.istore 4, 2) := by decide +kernel
theorem dX0_spread_145 : decode cX0_spread 145 = .ok (.goto (-33), 3) := by decide +kernel
theorem dX0_spread_148 : decode cX0_spread 148 = .ok (.return_, 1) := by decide +kernel
theorem dX0_isWet_0 : decode cX0_isWet 0 = .ok (.bipush 100, 2) := by decide +kernel
theorem dX0_isWet_2 : decode cX0_isWet 2 = .ok (.iload_n 3, 1) := by decide +kernel
theorem dX0_isWet_3 : decode cX0_isWet 3 = .ok (.bipush 32, 2) := by decide +kernel
theorem dX0_isWet_5 : decode cX0_isWet 5 = .ok (.iload_n 1, 1) := by decide +kernel
theorem dX0_isWet_6 : decode cX0_isWet 6 = .ok (.imul, 1) := by decide +kernel
theorem dX0_isWet_7 : decode cX0_isWet 7 = .ok (.iload_n 2, 1) := by decide +kernel
theorem dX0_isWet_8 : decode cX0_isWet 8 = .ok (.iadd, 1) := by decide +kernel
theorem dX0_isWet_9 : decode cX0_isWet 9 = .ok (.invokestatic 149, 3) := by decide +kernel
theorem dX0_isWet_12 : decode cX0_isWet 12 = .ok (.aload_n 0, 1) := by decide +kernel
theorem dX0_isWet_13 : decode cX0_isWet 13 = .ok (.getfield 29, 3) := by decide +kernel
theorem dX0_isWet_16 : decode cX0_isWet 16 = .ok (.if_icmp .ge 7, 3) := by decide +kernel
theorem dX0_isWet_19 : decode cX0_isWet 19 = .ok (.iconst 1, 1) := by decide +kernel
theorem dX0_isWet_20 : decode cX0_isWet 20 = .ok (.goto 4, 3) := by decide +kernel
theorem dX0_isWet_23 : decode cX0_isWet 23 = .ok (.iconst 0, 1) := by decide +kernel
theorem dX0_isWet_24 : decode cX0_isWet 24 = .ok (.ireturn, 1) := by decide +kernel
theorem dX0_lot_0 : decode cX0_lot 0 = .ok (.iload_n 1, 1) := by decide +kernel
theorem dX0_lot_1 : decode cX0_lot 1 = .ok (.sipush 197, 3) := by decide +kernel
theorem dX0_lot_4 : decode cX0_lot 4 = .ok (.invokestatic 153, 3) := by decide +kernel
theorem dX0_lot_7 : decode cX0_lot 7 = .ok (.iload_n 2, 1) := by decide +kernel
theorem dX0_lot_8 : decode cX0_lot 8 = .ok (.invokestatic 153, 3) := by decide +kernel
theorem dX0_lot_11 : decode cX0_lot 11 = .ok (.istore_n 3, 1) := by decide +kernel
theorem dX0_lot_12 : decode cX0_lot 12 = .ok (.iload_n 0, 1) := by decide +kernel
theorem dX0_lot_13 : decode cX0_lot 13 = .ok (.ifCond .le 11, 3) := by decide +kernel
theorem dX0_lot_16 : decode cX0_lot 16 = .ok (.iload_n 3, 1) := by decide +kernel
theorem dX0_lot_17 : decode cX0_lot 17 = .ok (.iconst 1, 1) := by decide +kernel
theorem dX0_lot_18 : decode cX0_lot 18 = .ok (.iushr, 1) := by decide +kernel
theorem dX0_lot_19 : decode cX0_lot 19 = .ok (.iload_n 0, 1) := by decide +kernel
theorem dX0_lot_20 : decode cX0_lot 20 = .ok (.irem, 1) := by decide +kernel
theorem dX0_lot_21 : decode cX0_lot 21 = .ok (.goto 4, 3) := by decide +kernel
theorem dX0_lot_24 : decode cX0_lot 24 = .ok (.iconst 0, 1) := by decide +kernel
theorem dX0_lot_25 : decode cX0_lot 25 = .ok (.ireturn, 1) := by decide +kernel
theorem dX0_stirred_0 : decode cX0_stirred 0 = .ok (.iload_n 0, 1) := by decide +kernel
theorem dX0_stirred_1 : decode cX0_stirred 1 = .ok (.iload_n 1, 1) := by decide +kernel
theorem dX0_stirred_2 : decode cX0_stirred 2 = .ok (.ixor, 1) := by decide +kernel
theorem dX0_stirred_3 : decode cX0_stirred 3 = .ok (.ldc 156, 2) := by decide +kernel
theorem dX0_stirred_5 : decode cX0_stirred 5 = .ok (.imul, 1) := by decide +kernel
theorem dX0_stirred_6 : decode cX0_stirred 6 = .ok (.sipush 12345, 3) := by decide +kernel
theorem dX0_stirred_9 : decode cX0_stirred 9 = .ok (.iadd, 1) := by decide +kernel
theorem dX0_stirred_10 : decode cX0_stirred 10 = .ok (.istore_n 2, 1) := by decide +kernel
theorem dX0_stirred_11 : decode cX0_stirred 11 = .ok (.iload_n 2, 1) := by decide +kernel
theorem dX0_stirred_12 : decode cX0_stirred 12 = .ok (.iload_n 2, 1) := by decide +kernel
theorem dX0_stirred_13 : decode cX0_stirred 13 = .ok (.bipush 15, 2) := by decide +kernel
theorem dX0_stirred_15 : decode cX0_stirred 15 = .ok (.iushr, 1) := by decide +kernel
theorem dX0_stirred_16 : decode cX0_stirred 16 = .ok (.ixor, 1) := by decide +kernel
theorem dX0_stirred_17 : decode cX0_stirred 17 = .ok (.ireturn, 1) := by decide +kernel
