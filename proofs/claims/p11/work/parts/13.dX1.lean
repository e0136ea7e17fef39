theorem dX1_init_0 : decode cX1_init 0 = .ok (.aload_n 0, 1) := by decide +kernel
theorem dX1_init_1 : decode cX1_init 1 = .ok (.invokespecial 3, 3) := by decide +kernel
theorem dX1_init_4 : decode cX1_init 4 = .ok (.aload_n 0, 1) := by decide +kernel
theorem dX1_init_5 : decode cX1_init 5 = .ok (.bipush 25, 2) := by decide +kernel
theorem dX1_init_7 : decode cX1_init 7 = .ok (.newarray .int, 2) := by decide +kernel
theorem dX1_init_9 : decode cX1_init 9 = .ok (.putfield 9, 3) := by decide +kernel
theorem dX1_init_12 : decode cX1_init 12 = .ok (.aload_n 0, 1) := by decide +kernel
theorem dX1_init_13 : decode cX1_init 13 = .ok (.bipush 50, 2) := by decide +kernel
theorem dX1_init_15 : decode cX1_init 15 = .ok (.newarray .int, 2) := by decide +kernel
theorem dX1_init_17 : decode cX1_init 17 = .ok (.putfield 15, 3) := by decide +kernel
theorem dX1_init_20 : decode cX1_init 20 = .ok (.aload_n 0, 1) := by decide +kernel
theorem dX1_init_21 : decode cX1_init 21 = .ok (.bipush 50, 2) := by decide +kernel
theorem dX1_init_23 : decode cX1_init 23 = .ok (.newarray .int, 2) := by decide +kernel
theorem dX1_init_25 : decode cX1_init 25 = .ok (.putfield 18, 3) := by decide +kernel
theorem dX1_init_28 : decode cX1_init 28 = .ok (.aload_n 0, 1) := by decide +kernel
theorem dX1_init_29 : decode cX1_init 29 = .ok (.iconst 0, 1) := by decide +kernel
theorem dX1_init_30 : decode cX1_init 30 = .ok (.putfield 21, 3) := by decide +kernel
theorem dX1_init_33 : decode cX1_init 33 = .ok (.aload_n 0, 1) := by decide +kernel
theorem dX1_init_34 : decode cX1_init 34 = .ok (.aload_n 1, 1) := by decide +kernel
theorem dX1_init_35 : decode cX1_init 35 = .ok (.putfield 25, 3) := by decide +kernel
theorem dX1_init_38 : decode cX1_init 38 = .ok (.return_, 1) := by decide +kernel
theorem dX1_fewestRopes_0 : decode cX1_fewestRopes 0 = .ok (.aload_n 0, 1) := by decide +kernel
theorem dX1_fewestRopes_1 : decode cX1_fewestRopes 1 = .ok (.getfield 9, 3) := by decide +kernel
theorem dX1_fewestRopes_4 : decode cX1_fewestRopes 4 = .ok (.iconst (-1), 1) := by decide +kernel
theorem dX1_fewestRopes_5 : decode cX1_fewestRopes 5 = .ok (.invokestatic 29, 3) := by decide +kernel
theorem dX1_fewestRopes_8 : decode cX1_fewestRopes 8 = .ok (.iconst 0, 1) := by decide +kernel
theorem dX1_fewestRopes_9 : decode cX1_fewestRopes 9 = .ok (.istore 4, 2) := by decide +kernel
theorem dX1_fewestRopes_11 : decode cX1_fewestRopes 11 = .ok (.iconst 0, 1) := by decide +kernel
theorem dX1_fewestRopes_12 : decode cX1_fewestRopes 12 = .ok (.istore 5, 2) := by decide +kernel
theorem dX1_fewestRopes_14 : decode cX1_fewestRopes 14 = .ok (.iload 5, 2) := by decide +kernel
theorem dX1_fewestRopes_16 : decode cX1_fewestRopes 16 = .ok (.iconst 4, 1) := by decide +kernel
theorem dX1_fewestRopes_17 : decode cX1_fewestRopes 17 = .ok (.if_icmp .ge 28, 3) := by decide +kernel
theorem dX1_fewestRopes_20 : decode cX1_fewestRopes 20 = .ok (.aload_n 0, 1) := by decide +kernel
theorem dX1_fewestRopes_21 : decode cX1_fewestRopes 21 = .ok (.iload_n 1, 1) := by decide +kernel
theorem dX1_fewestRopes_22 : decode cX1_fewestRopes 22 = .ok (.iload_n 2, 1) := by decide +kernel
theorem dX1_fewestRopes_23 : decode cX1_fewestRopes 23 = .ok (.iload_n 3, 1) := by decide +kernel
theorem dX1_fewestRopes_24 : decode cX1_fewestRopes 24 = .ok (.invokevirtual 35, 3) := by decide +kernel
theorem dX1_fewestRopes_27 : decode cX1_fewestRopes 27 = .ok (.ifCond .eq 18, 3) := by decide +kernel
theorem dX1_fewestRopes_30 : decode cX1_fewestRopes 30 = .ok (.aload_n 0, 1) := by decide +kernel
theorem dX1_fewestRopes_31 : decode cX1_fewestRopes 31 = .ok (.iload_n 2, 1) := by decide +kernel
theorem dX1_fewestRopes_32 : decode cX1_fewestRopes 32 = .ok (.iload_n 3, 1) := by decide +kernel
theorem dX1_fewestRopes_33 : decode cX1_fewestRopes 33 = .ok (.invokevirtual 39, 3) := by decide +kernel
theorem dX1_fewestRopes_36 : decode cX1_fewestRopes 36 = .ok (.iinc 4 1, 3) := by decide +kernel
theorem dX1_fewestRopes_39 : decode cX1_fewestRopes 39 = .ok (.iinc 5 1, 3) := by decide +kernel
theorem dX1_fewestRopes_42 : decode cX1_fewestRopes 42 = .ok (.goto (-28), 3) := by decide +kernel
theorem dX1_fewestRopes_45 : decode cX1_fewestRopes 45 = .ok (.iload 4, 2) := by decide +kernel
theorem dX1_fewestRopes_47 : decode cX1_fewestRopes 47 = .ok (.ireturn, 1) := by decide +kernel
theorem dX1_search_0 : decode cX1_search 0 = .ok (.aload_n 0, 1) := by decide +kernel
theorem dX1_search_1 : decode cX1_search 1 = .ok (.getfield 15, 3) := by decide +kernel
theorem dX1_search_4 : decode cX1_search 4 = .ok (.iconst (-1), 1) := by decide +kernel
theorem dX1_search_5 : decode cX1_search 5 = .ok (.invokestatic 29, 3) := by decide +kernel
theorem dX1_search_8 : decode cX1_search 8 = .ok (.aload_n 0, 1) := by decide +kernel
theorem dX1_search_9 : decode cX1_search 9 = .ok (.iconst 0, 1) := by decide +kernel
theorem dX1_search_10 : decode cX1_search 10 = .ok (.putfield 21, 3) := by decide +kernel
theorem dX1_search_13 : decode cX1_search 13 = .ok (.aload_n 0, 1) := by decide +kernel
theorem dX1_search_14 : decode cX1_search 14 = .ok (.iconst 2, 1) := by decide +kernel
theorem dX1_search_15 : decode cX1_search 15 = .ok (.iload_n 2, 1) := by decide +kernel
theorem dX1_search_16 : decode cX1_search 16 = .ok (.imul, 1) := by decide +kernel
theorem dX1_search_17 : decode cX1_search 17 = .ok (.iconst 1, 1) := by decide +kernel
theorem dX1_search_18 : decode cX1_search 18 = .ok (.iadd, 1) := by decide +kernel
theorem dX1_search_19 : decode cX1_search 19 = .ok (.iconst 2, 1) := by decide +kernel
theorem dX1_search_20 : decode cX1_search 20 = .ok (.iload_n 2, 1) := by decide +kernel
theorem dX1_search_21 : decode cX1_search 21 = .ok (.imul, 1) := by decide +kernel
theorem dX1_search_22 : decode cX1_search 22 = .ok (.iconst 1, 1) := by decide +kernel
theorem dX1_search_23 : decode cX1_search 23 = .ok (.iadd, 1) := by decide +kernel
theorem dX1_search_24 : decode cX1_search 24 = .ok (.invokevirtual 43, 3) := by decide +kernel
theorem dX1_search_27 : decode cX1_search 27 = .ok (.iconst 0, 1) := by decide +kernel
theorem dX1_search_28 : decode cX1_search 28 = .ok (.istore 4, 2) := by decide +kernel
theorem dX1_search_30 : decode cX1_search 30 = .ok (.iload 4, 2) := by decide +kernel
theorem dX1_search_32 : decode cX1_search 32 = .ok (.aload_n 0, 1) := by decide +kernel
theorem dX1_search_33 : decode cX1_search 33 = .ok (.getfield 21, 3) := by decide +kernel
theorem dX1_search_36 : decode cX1_search 36 = .ok (.if_icmp .ge 76, 3) := by decide +kernel
theorem dX1_search_39 : decode cX1_search 39 = .ok (.iload 4, 2) := by decide +kernel
theorem dX1_search_41 : decode cX1_search 41 = .ok (.bipush 50, 2) := by decide +kernel
theorem dX1_search_43 : decode cX1_search 43 = .ok (.if_icmp .ge 69, 3) := by decide +kernel
theorem dX1_search_46 : decode cX1_search 46 = .ok (.aload_n 0, 1) := by decide +kernel
theorem dX1_search_47 : decode cX1_search 47 = .ok (.getfield 18, 3) := by decide +kernel
theorem dX1_search_50 : decode cX1_search 50 = .ok (.iload 4, 2) := by decide +kernel
theorem dX1_search_52 : decode cX1_search 52 = .ok (.iaload, 1) := by decide +kernel
theorem dX1_search_53 : decode cX1_search 53 = .ok (.iconst 1, 1) := by decide +kernel
theorem dX1_search_54 : decode cX1_search 54 = .ok (.ishr, 1) := by decide +kernel
theorem dX1_search_55 : decode cX1_search 55 = .ok (.istore 5, 2) := by decide +kernel
theorem dX1_search_57 : decode cX1_search 57 = .ok (.aload_n 0, 1) := by decide +kernel
theorem dX1_search_58 : decode cX1_search 58 = .ok (.getfield 18, 3) := by decide +kernel
theorem dX1_search_61 : decode cX1_search 61 = .ok (.iload 4, 2) := by decide +kernel
theorem dX1_search_63 : decode cX1_search 63 = .ok (.iaload, 1) := by decide +kernel
theorem dX1_search_64 : decode cX1_search 64 = .ok (.iconst 2, 1) := by decide +kernel
theorem dX1_search_65 : decode cX1_search 65 = .ok (.iload_n 3, 1) := by decide +kernel
theorem dX1_search_66 : decode cX1_search 66 = .ok (.imul, 1) := by decide +kernel
theorem dX1_search_67 : decode cX1_search 67 = .ok (.if_icmp .ne 5, 3) := by decide +kernel
theorem dX1_search_70 : decode cX1_search 70 = .ok (.iconst 1, 1) := by decide +kernel
theorem dX1_search_71 : decode cX1_search 71 = .ok (.ireturn, 1) := by decide +kernel
theorem dX1_search_72 : decode cX1_search 72 = .ok (.aload_n 0, 1) := by decide +kernel
theorem dX1_search_73 : decode cX1_search 73 = .ok (.getfield 18, 3) := by decide +kernel
theorem dX1_search_76 : decode cX1_search 76 = .ok (.iload 4, 2) := by decide +kernel
theorem dX1_search_78 : decode cX1_search 78 = .ok (.iaload, 1) := by decide +kernel
theorem dX1_search_79 : decode cX1_search 79 = .ok (.iconst 1, 1) := by decide +kernel
theorem dX1_search_80 : decode cX1_search 80 = .ok (.iand, 1) := by decide +kernel
theorem dX1_search_81 : decode cX1_search 81 = .ok (.ifCond .ne 12, 3) := by decide +kernel
theorem dX1_search_84 : decode cX1_search 84 = .ok (.aload_n 0, 1) := by decide +kernel
theorem dX1_search_85 : decode cX1_search 85 = .ok (.iload 5, 2) := by decide +kernel
theorem dX1_search_87 : decode cX1_search 87 = .ok (.invokevirtual 46, 3) := by decide +kernel
theorem dX1_search_90 : decode cX1_search 90 = .ok (.goto 16, 3) := by decide +kernel
theorem dX1_search_93 : decode cX1_search 93 = .ok (.aload_n 0, 1) := by decide +kernel
theorem dX1_search_94 : decode cX1_search 94 = .ok (.iload 5, 2) := by decide +kernel
theorem dX1_search_96 : decode cX1_search 96 = .ok (.iload_n 1, 1) := by decide +kernel
theorem dX1_search_97 : decode cX1_search 97 = .ok (.iconst 1, 1) := by decide +kernel
theorem dX1_search_98 : decode cX1_search 98 = .ok (.iload_n 2, 1) := by decide +kernel
theorem dX1_search_99 : decode cX1_search 99 = .ok (.ishl, 1) := by decide +kernel
theorem dX1_search_100 : decode cX1_search 100 = .ok (.iconst (-1), 1) := by decide +kernel
theorem dX1_search_101 : decode cX1_search 101 = .ok (.ixor, 1) := by decide +kernel
theorem dX1_search_102 : decode cX1_search 102 = .ok (.iand, 1) := by decide +kernel
theorem dX1_search_103 : decode cX1_search 103 = .ok (.invokevirtual 50, 3) := by decide +kernel
theorem dX1_search_106 : decode cX1_search 106 = .ok (.iinc 4 1, 3) := by decide +kernel
theorem dX1_search_109 : decode cX1_search 109 = .ok (.goto (-79), 3) := by decide +kernel
theorem dX1_search_112 : decode cX1_search 112 = .ok (.iconst 0, 1) := by decide +kernel
theorem dX1_search_113 : decode cX1_search 113 = .ok (.ireturn, 1) := by decide +kernel
theorem dX1_find_0 : decode cX1_find 0 = .ok (.iload_n 1, 1) := by decide +kernel
theorem dX1_find_1 : decode cX1_find 1 = .ok (.ifCond .lt 55, 3) := by decide +kernel
theorem dX1_find_4 : decode cX1_find 4 = .ok (.iload_n 1, 1) := by decide +kernel
theorem dX1_find_5 : decode cX1_find 5 = .ok (.bipush 50, 2) := by decide +kernel
theorem dX1_find_7 : decode cX1_find 7 = .ok (.if_icmp .ge 49, 3) := by decide +kernel
theorem dX1_find_10 : decode cX1_find 10 = .ok (.aload_n 0, 1) := by decide +kernel
theorem dX1_find_11 : decode cX1_find 11 = .ok (.getfield 15, 3) := by decide +kernel
theorem dX1_find_14 : decode cX1_find 14 = .ok (.iload_n 1, 1) := by decide +kernel
theorem dX1_find_15 : decode cX1_find 15 = .ok (.iaload, 1) := by decide +kernel
theorem dX1_find_16 : decode cX1_find 16 = .ok (.iconst (-1), 1) := by decide +kernel
theorem dX1_find_17 : decode cX1_find 17 = .ok (.if_icmp .ne 39, 3) := by decide +kernel
theorem dX1_find_20 : decode cX1_find 20 = .ok (.aload_n 0, 1) := by decide +kernel
theorem dX1_find_21 : decode cX1_find 21 = .ok (.getfield 21, 3) := by decide +kernel
theorem dX1_find_24 : decode cX1_find 24 = .ok (.bipush 50, 2) := by decide +kernel
theorem dX1_find_26 : decode cX1_find 26 = .ok (.if_icmp .ge 30, 3) := by decide +kernel
theorem dX1_find_29 : decode cX1_find 29 = .ok (.aload_n 0, 1) := by decide +kernel
theorem dX1_find_30 : decode cX1_find 30 = .ok (.getfield 15, 3) := by decide +kernel
theorem dX1_find_33 : decode cX1_find 33 = .ok (.iload_n 1, 1) := by decide +kernel
theorem dX1_find_34 : decode cX1_find 34 = .ok (.iload_n 2, 1) := by decide +kernel
theorem dX1_find_35 : decode cX1_find 35 = .ok (.iastore, 1) := by decide +kernel
theorem dX1_find_36 : decode cX1_find 36 = .ok (.aload_n 0, 1) := by decide +kernel
theorem dX1_find_37 : decode cX1_find 37 = .ok (.getfield 18, 3) := by decide +kernel
theorem dX1_find_40 : decode cX1_find 40 = .ok (.aload_n 0, 1) := by decide +kernel
theorem dX1_find_41 : decode cX1_find 41 = .ok (.getfield 21, 3) := by decide +kernel
theorem dX1_find_44 : decode cX1_find 44 = .ok (.iload_n 1, 1) := by decide +kernel
theorem dX1_find_45 : decode cX1_find 45 = .ok (.iastore, 1) := by decide +kernel
theorem dX1_find_46 : decode cX1_find 46 = .ok (.aload_n 0, 1) := by decide +kernel
theorem dX1_find_47 : decode cX1_find 47 = .ok (.dup, 1) := by decide +kernel
theorem dX1_find_48 : decode cX1_find 48 = .ok (.getfield 21, 3) := by decide +kernel
theorem dX1_find_51 : decode cX1_find 51 = .ok (.iconst 1, 1) := by decide +kernel
theorem dX1_find_52 : decode cX1_find 52 = .ok (.iadd, 1) := by decide +kernel
theorem dX1_find_53 : decode cX1_find 53 = .ok (.putfield 21, 3) := by decide +kernel
theorem dX1_find_56 : decode cX1_find 56 = .ok (.return_, 1) := by decide +kernel
theorem dX1_leadOnFromEntry_0 : decode cX1_leadOnFromEntry 0 = .ok (.aload_n 0, 1) := by decide +kernel
theorem dX1_leadOnFromEntry_1 : decode cX1_leadOnFromEntry 1 = .ok (.getfield 9, 3) := by decide +kernel
theorem dX1_leadOnFromEntry_4 : decode cX1_leadOnFromEntry 4 = .ok (.iload_n 1, 1) := by decide +kernel
theorem dX1_leadOnFromEntry_5 : decode cX1_leadOnFromEntry 5 = .ok (.iaload, 1) := by decide +kernel
theorem dX1_leadOnFromEntry_6 : decode cX1_leadOnFromEntry 6 = .ok (.istore_n 2, 1) := by decide +kernel
theorem dX1_leadOnFromEntry_7 : decode cX1_leadOnFromEntry 7 = .ok (.aload_n 0, 1) := by decide +kernel
theorem dX1_leadOnFromEntry_8 : decode cX1_leadOnFromEntry 8 = .ok (.iload_n 2, 1) := by decide +kernel
theorem dX1_leadOnFromEntry_9 : decode cX1_leadOnFromEntry 9 = .ok (.iconst (-1), 1) := by decide +kernel
theorem dX1_leadOnFromEntry_10 : decode cX1_leadOnFromEntry 10 = .ok (.if_icmp .ne 11, 3) := by decide +kernel
theorem dX1_leadOnFromEntry_13 : decode cX1_leadOnFromEntry 13 = .ok (.iconst 2, 1) := by decide +kernel
theorem dX1_leadOnFromEntry_14 : decode cX1_leadOnFromEntry 14 = .ok (.iload_n 1, 1) := by decide +kernel
theorem dX1_leadOnFromEntry_15 : decode cX1_leadOnFromEntry 15 = .ok (.imul, 1) := by decide +kernel
theorem dX1_leadOnFromEntry_16 : decode cX1_leadOnFromEntry 16 = .ok (.iconst 1, 1) := by decide +kernel
theorem dX1_leadOnFromEntry_17 : decode cX1_leadOnFromEntry 17 = .ok (.iadd, 1) := by decide +kernel
theorem dX1_leadOnFromEntry_18 : decode cX1_leadOnFromEntry 18 = .ok (.goto 8, 3) := by decide +kernel
theorem dX1_leadOnFromEntry_21 : decode cX1_leadOnFromEntry 21 = .ok (.iconst 2, 1) := by decide +kernel
theorem dX1_leadOnFromEntry_22 : decode cX1_leadOnFromEntry 22 = .ok (.iload_n 2, 1) := by decide +kernel
theorem dX1_leadOnFromEntry_23 : decode cX1_leadOnFromEntry 23 = .ok (.imul, 1) := by decide +kernel
theorem dX1_leadOnFromEntry_24 : decode cX1_leadOnFromEntry 24 = .ok (.iconst 1, 1) := by decide +kernel
theorem dX1_leadOnFromEntry_25 : decode cX1_leadOnFromEntry 25 = .ok (.iadd, 1) := by decide +kernel
theorem dX1_leadOnFromEntry_26 : decode cX1_leadOnFromEntry 26 = .ok (.iconst 2, 1) := by decide +kernel
theorem dX1_leadOnFromEntry_27 : decode cX1_leadOnFromEntry 27 = .ok (.iload_n 1, 1) := by decide +kernel
theorem dX1_leadOnFromEntry_28 : decode cX1_leadOnFromEntry 28 = .ok (.imul, 1) := by decide +kernel
theorem dX1_leadOnFromEntry_29 : decode cX1_leadOnFromEntry 29 = .ok (.invokevirtual 43, 3) := by decide +kernel
theorem dX1_leadOnFromEntry_32 : decode cX1_leadOnFromEntry 32 = .ok (.return_, 1) := by decide +kernel
theorem dX1_leadOnFromExit_0 : decode cX1_leadOnFromExit 0 = .ok (.aload_n 0, 1) := by decide +kernel
theorem dX1_leadOnFromExit_1 : decode cX1_leadOnFromExit 1 = .ok (.getfield 25, 3) := by decide +kernel
theorem dX1_leadOnFromExit_4 : decode cX1_leadOnFromExit 4 = .ok (.iconst 1, 1) := by decide +kernel
theorem dX1_leadOnFromExit_5 : decode cX1_leadOnFromExit 5 = .ok (.iload_n 1, 1) := by decide +kernel
theorem dX1_leadOnFromExit_6 : decode cX1_leadOnFromExit 6 = .ok (.ishl, 1) := by decide +kernel
theorem dX1_leadOnFromExit_7 : decode cX1_leadOnFromExit 7 = .ok (.invokevirtual 53, 3) := by decide +kernel
theorem dX1_leadOnFromExit_10 : decode cX1_leadOnFromExit 10 = .ok (.iload_n 2, 1) := by decide +kernel
theorem dX1_leadOnFromExit_11 : decode cX1_leadOnFromExit 11 = .ok (.iand, 1) := by decide +kernel
theorem dX1_leadOnFromExit_12 : decode cX1_leadOnFromExit 12 = .ok (.iconst 1, 1) := by decide +kernel
theorem dX1_leadOnFromExit_13 : decode cX1_leadOnFromExit 13 = .ok (.iload_n 1, 1) := by decide +kernel
theorem dX1_leadOnFromExit_14 : decode cX1_leadOnFromExit 14 = .ok (.ishl, 1) := by decide +kernel
theorem dX1_leadOnFromExit_15 : decode cX1_leadOnFromExit 15 = .ok (.iconst (-1), 1) := by decide +kernel
theorem dX1_leadOnFromExit_16 : decode cX1_leadOnFromExit 16 = .ok (.ixor, 1) := by decide +kernel
theorem dX1_leadOnFromExit_17 : decode cX1_leadOnFromExit 17 = .ok (.iand, 1) := by decide +kernel
theorem dX1_leadOnFromExit_18 : decode cX1_leadOnFromExit 18 = .ok (.istore_n 3, 1) := by decide +kernel
theorem dX1_leadOnFromExit_19 : decode cX1_leadOnFromExit 19 = .ok (.iconst 0, 1) := by decide +kernel
theorem dX1_leadOnFromExit_20 : decode cX1_leadOnFromExit 20 = .ok (.istore 4, 2) := by decide +kernel
theorem dX1_leadOnFromExit_22 : decode cX1_leadOnFromExit 22 = .ok (.iload 4, 2) := by decide +kernel
theorem dX1_leadOnFromExit_24 : decode cX1_leadOnFromExit 24 = .ok (.bipush 25, 2) := by decide +kernel
theorem dX1_leadOnFromExit_26 : decode cX1_leadOnFromExit 26 = .ok (.if_icmp .ge 42, 3) := by decide +kernel
theorem dX1_leadOnFromExit_29 : decode cX1_leadOnFromExit 29 = .ok (.iload_n 3, 1) := by decide +kernel
theorem dX1_leadOnFromExit_30 : decode cX1_leadOnFromExit 30 = .ok (.iload 4, 2) := by decide +kernel
theorem dX1_leadOnFromExit_32 : decode cX1_leadOnFromExit 32 = .ok (.iushr, 1) := by decide +kernel
theorem dX1_leadOnFromExit_33 : decode cX1_leadOnFromExit 33 = .ok (.iconst 1, 1) := by decide +kernel
theorem dX1_leadOnFromExit_34 : decode cX1_leadOnFromExit 34 = .ok (.iand, 1) := by decide +kernel
theorem dX1_leadOnFromExit_35 : decode cX1_leadOnFromExit 35 = .ok (.ifCond .eq 27, 3) := by decide +kernel
theorem dX1_leadOnFromExit_38 : decode cX1_leadOnFromExit 38 = .ok (.aload_n 0, 1) := by decide +kernel
theorem dX1_leadOnFromExit_39 : decode cX1_leadOnFromExit 39 = .ok (.getfield 9, 3) := by decide +kernel
theorem dX1_leadOnFromExit_42 : decode cX1_leadOnFromExit 42 = .ok (.iload 4, 2) := by decide +kernel
theorem dX1_leadOnFromExit_44 : decode cX1_leadOnFromExit 44 = .ok (.iaload, 1) := by decide +kernel
theorem dX1_leadOnFromExit_45 : decode cX1_leadOnFromExit 45 = .ok (.iload_n 1, 1) := by decide +kernel
theorem dX1_leadOnFromExit_46 : decode cX1_leadOnFromExit 46 = .ok (.if_icmp .eq 16, 3) := by decide +kernel
theorem dX1_leadOnFromExit_49 : decode cX1_leadOnFromExit 49 = .ok (.aload_n 0, 1) := by decide +kernel
theorem dX1_leadOnFromExit_50 : decode cX1_leadOnFromExit 50 = .ok (.iconst 2, 1) := by decide +kernel
theorem dX1_leadOnFromExit_51 : decode cX1_leadOnFromExit 51 = .ok (.iload 4, 2) := by decide +kernel
theorem dX1_leadOnFromExit_53 : decode cX1_leadOnFromExit 53 = .ok (.imul, 1) := by decide +kernel
theorem dX1_leadOnFromExit_54 : decode cX1_leadOnFromExit 54 = .ok (.iconst 2, 1) := by decide +kernel
theorem dX1_leadOnFromExit_55 : decode cX1_leadOnFromExit 55 = .ok (.iload_n 1, 1) := by decide +kernel
theorem dX1_leadOnFromExit_56 : decode cX1_leadOnFromExit 56 = .ok (.imul, 1) := by decide +kernel
theorem dX1_leadOnFromExit_57 : decode cX1_leadOnFromExit 57 = .ok (.iconst 1, 1) := by decide +kernel
theorem dX1_leadOnFromExit_58 : decode cX1_leadOnFromExit 58 = .ok (.iadd, 1) := by decide +kernel
theorem dX1_leadOnFromExit_59 : decode cX1_leadOnFromExit 59 = .ok (.invokevirtual 43, 3) := by decide +kernel
theorem dX1_leadOnFromExit_62 : decode cX1_leadOnFromExit 62 = .ok (.iinc 4 1, 3) := by decide +kernel
theorem dX1_leadOnFromExit_65 : decode cX1_leadOnFromExit 65 = .ok (.goto (-43), 3) := by decide +kernel
theorem dX1_leadOnFromExit_68 : decode cX1_leadOnFromExit 68 = .ok (.aload_n 0, 1) := by decide +kernel
theorem dX1_leadOnFromExit_69 : decode cX1_leadOnFromExit 69 = .ok (.getfield 9, 3) := by decide +kernel
theorem dX1_leadOnFromExit_72 : decode cX1_leadOnFromExit 72 = .ok (.iload_n 1, 1) := by decide +kernel
theorem dX1_leadOnFromExit_73 : decode cX1_leadOnFromExit 73 = .ok (.iaload, 1) := by decide +kernel
theorem dX1_leadOnFromExit_74 : decode cX1_leadOnFromExit 74 = .ok (.iconst (-1), 1) := by decide +kernel
theorem dX1_leadOnFromExit_75 : decode cX1_leadOnFromExit 75 = .ok (.if_icmp .eq 15, 3) := by decide +kernel
theorem dX1_leadOnFromExit_78 : decode cX1_leadOnFromExit 78 = .ok (.aload_n 0, 1) := by decide +kernel
theorem dX1_leadOnFromExit_79 : decode cX1_leadOnFromExit 79 = .ok (.iconst 2, 1) := by decide +kernel
theorem dX1_leadOnFromExit_80 : decode cX1_leadOnFromExit 80 = .ok (.iload_n 1, 1) := by decide +kernel
theorem dX1_leadOnFromExit_81 : decode cX1_leadOnFromExit 81 = .ok (.imul, 1) := by decide +kernel
theorem dX1_leadOnFromExit_82 : decode cX1_leadOnFromExit 82 = .ok (.iconst 2, 1) := by decide +kernel
theorem dX1_leadOnFromExit_83 : decode cX1_leadOnFromExit 83 = .ok (.iload_n 1, 1) := by decide +kernel
theorem dX1_leadOnFromExit_84 : decode cX1_leadOnFromExit 84 = .ok (.imul, 1) := by decide +kernel
theorem dX1_leadOnFromExit_85 : decode cX1_leadOnFromExit 85 = .ok (.iconst 1, 1) := by decide +kernel
theorem dX1_leadOnFromExit_86 : decode cX1_leadOnFromExit 86 = .ok (.iadd, 1) := by decide +kernel
theorem dX1_leadOnFromExit_87 : decode cX1_leadOnFromExit 87 = .ok (.invokevirtual 43, 3) := by decide +kernel
theorem dX1_leadOnFromExit_90 : decode cX1_leadOnFromExit 90 = .ok (.return_, 1) := by decide +kernel
theorem dX1_layWay_0 : decode cX1_layWay 0 = .ok (.iconst 2, 1) := by decide +kernel
theorem dX1_layWay_1 : decode cX1_layWay 1 = .ok (.iload_n 2, 1) := by decide +kernel
theorem dX1_layWay_2 : decode cX1_layWay 2 = .ok (.imul, 1) := by decide +kernel
theorem dX1_layWay_3 : decode cX1_layWay 3 = .ok (.istore_n 3, 1) := by decide +kernel
theorem dX1_layWay_4 : decode cX1_layWay 4 = .ok (.iconst 0, 1) := by decide +kernel
theorem dX1_layWay_5 : decode cX1_layWay 5 = .ok (.istore 4, 2) := by decide +kernel
theorem dX1_layWay_7 : decode cX1_layWay 7 = .ok (.iload 4, 2) := by decide +kernel
theorem dX1_layWay_9 : decode cX1_layWay 9 = .ok (.bipush 50, 2) := by decide +kernel
theorem dX1_layWay_11 : decode cX1_layWay 11 = .ok (.if_icmp .ge 76, 3) := by decide +kernel
theorem dX1_layWay_14 : decode cX1_layWay 14 = .ok (.iload_n 3, 1) := by decide +kernel
theorem dX1_layWay_15 : decode cX1_layWay 15 = .ok (.iconst 2, 1) := by decide +kernel
theorem dX1_layWay_16 : decode cX1_layWay 16 = .ok (.iload_n 1, 1) := by decide +kernel
theorem dX1_layWay_17 : decode cX1_layWay 17 = .ok (.imul, 1) := by decide +kernel
theorem dX1_layWay_18 : decode cX1_layWay 18 = .ok (.iconst 1, 1) := by decide +kernel
theorem dX1_layWay_19 : decode cX1_layWay 19 = .ok (.iadd, 1) := by decide +kernel
theorem dX1_layWay_20 : decode cX1_layWay 20 = .ok (.if_icmp .eq 67, 3) := by decide +kernel
theorem dX1_layWay_23 : decode cX1_layWay 23 = .ok (.aload_n 0, 1) := by decide +kernel
theorem dX1_layWay_24 : decode cX1_layWay 24 = .ok (.getfield 15, 3) := by decide +kernel
theorem dX1_layWay_27 : decode cX1_layWay 27 = .ok (.iload_n 3, 1) := by decide +kernel
theorem dX1_layWay_28 : decode cX1_layWay 28 = .ok (.iaload, 1) := by decide +kernel
theorem dX1_layWay_29 : decode cX1_layWay 29 = .ok (.istore 5, 2) := by decide +kernel
theorem dX1_layWay_31 : decode cX1_layWay 31 = .ok (.iload 5, 2) := by decide +kernel
theorem dX1_layWay_33 : decode cX1_layWay 33 = .ok (.ifCond .ge 4, 3) := by decide +kernel
theorem dX1_layWay_36 : decode cX1_layWay 36 = .ok (.return_, 1) := by decide +kernel
theorem dX1_layWay_37 : decode cX1_layWay 37 = .ok (.iload_n 3, 1) := by decide +kernel
theorem dX1_layWay_38 : decode cX1_layWay 38 = .ok (.iconst 1, 1) := by decide +kernel
theorem dX1_layWay_39 : decode cX1_layWay 39 = .ok (.ishr, 1) := by decide +kernel
theorem dX1_layWay_40 : decode cX1_layWay 40 = .ok (.istore 6, 2) := by decide +kernel
theorem dX1_layWay_42 : decode cX1_layWay 42 = .ok (.iload_n 3, 1) := by decide +kernel
theorem dX1_layWay_43 : decode cX1_layWay 43 = .ok (.iconst 1, 1) := by decide +kernel
theorem dX1_layWay_44 : decode cX1_layWay 44 = .ok (.iand, 1) := by decide +kernel
theorem dX1_layWay_45 : decode cX1_layWay 45 = .ok (.ifCond .ne 33, 3) := by decide +kernel
theorem dX1_layWay_48 : decode cX1_layWay 48 = .ok (.iload 6, 2) := by decide +kernel
theorem dX1_layWay_50 : decode cX1_layWay 50 = .ok (.iload_n 2, 1) := by decide +kernel
theorem dX1_layWay_51 : decode cX1_layWay 51 = .ok (.if_icmp .eq 27, 3) := by decide +kernel
theorem dX1_layWay_54 : decode cX1_layWay 54 = .ok (.aload_n 0, 1) := by decide +kernel
theorem dX1_layWay_55 : decode cX1_layWay 55 = .ok (.getfield 9, 3) := by decide +kernel
theorem dX1_layWay_58 : decode cX1_layWay 58 = .ok (.iload 6, 2) := by decide +kernel
theorem dX1_layWay_60 : decode cX1_layWay 60 = .ok (.iload 5, 2) := by decide +kernel
theorem dX1_layWay_62 : decode cX1_layWay 62 = .ok (.iconst 1, 1) := by decide +kernel
theorem dX1_layWay_63 : decode cX1_layWay 63 = .ok (.ishr, 1) := by decide +kernel
theorem dX1_layWay_64 : decode cX1_layWay 64 = .ok (.iload 6, 2) := by decide +kernel
theorem dX1_layWay_66 : decode cX1_layWay 66 = .ok (.if_icmp .ne 7, 3) := by decide +kernel
theorem dX1_layWay_69 : decode cX1_layWay 69 = .ok (.iconst (-1), 1) := by decide +kernel
theorem dX1_layWay_70 : decode cX1_layWay 70 = .ok (.goto 7, 3) := by decide +kernel
theorem dX1_layWay_73 : decode cX1_layWay 73 = .ok (.iload 5, 2) := by decide +kernel
theorem dX1_layWay_75 : decode cX1_layWay 75 = .ok (.iconst 1, 1) := by decide +kernel
theorem dX1_layWay_76 : decode cX1_layWay 76 = .ok (.ishr, 1) := by decide +kernel
theorem dX1_layWay_77 : decode cX1_layWay 77 = .ok (.iastore, 1) := by decide +kernel
theorem dX1_layWay_78 : decode cX1_layWay 78 = .ok (.iload 5, 2) := by decide +kernel
theorem dX1_layWay_80 : decode cX1_layWay 80 = .ok (.istore_n 3, 1) := by decide +kernel
theorem dX1_layWay_81 : decode cX1_layWay 81 = .ok (.iinc 4 1, 3) := by decide +kernel
theorem dX1_layWay_84 : decode cX1_layWay 84 = .ok (.goto (-77), 3) := by decide +kernel
theorem dX1_layWay_87 : decode cX1_layWay 87 = .ok (.return_, 1) := by decide +kernel
