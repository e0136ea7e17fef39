theorem dX12_pairedWith_3 : decode cX12_pairedWith 3 = .ok (.invokevirtual 483, 3) := by decide +kernel
theorem dX12_pairedWith_6 : decode cX12_pairedWith 6 = .ok (.sipush 10000, 3) := by decide +kernel
theorem dX12_pairedWith_9 : decode cX12_pairedWith 9 = .ok (.isub, 1) := by decide +kernel
theorem dX12_pairedWith_10 : decode cX12_pairedWith 10 = .ok (.aload_n 0, 1) := by decide +kernel
theorem dX12_pairedWith_11 : decode cX12_pairedWith 11 = .ok (.getfield 149, 3) := by decide +kernel
theorem dX12_pairedWith_14 : decode cX12_pairedWith 14 = .ok (.iload_n 3, 1) := by decide +kernel
theorem dX12_pairedWith_15 : decode cX12_pairedWith 15 = .ok (.iconst 1, 1) := by decide +kernel
theorem dX12_pairedWith_16 : decode cX12_pairedWith 16 = .ok (.iload_n 2, 1) := by decide +kernel
theorem dX12_pairedWith_17 : decode cX12_pairedWith 17 = .ok (.ishl, 1) := by decide +kernel
theorem dX12_pairedWith_18 : decode cX12_pairedWith 18 = .ok (.iconst (-1), 1) := by decide +kernel
theorem dX12_pairedWith_19 : decode cX12_pairedWith 19 = .ok (.ixor, 1) := by decide +kernel
theorem dX12_pairedWith_20 : decode cX12_pairedWith 20 = .ok (.iand, 1) := by decide +kernel
theorem dX12_pairedWith_21 : decode cX12_pairedWith 21 = .ok (.iaload, 1) := by decide +kernel
theorem dX12_pairedWith_22 : decode cX12_pairedWith 22 = .ok (.iadd, 1) := by decide +kernel
theorem dX12_pairedWith_23 : decode cX12_pairedWith 23 = .ok (.ireturn, 1) := by decide +kernel
theorem dX12_fillsPaired_0 : decode cX12_fillsPaired 0 = .ok (.aload_n 0, 1) := by decide +kernel
theorem dX12_fillsPaired_1 : decode cX12_fillsPaired 1 = .ok (.getfield 149, 3) := by decide +kernel
theorem dX12_fillsPaired_4 : decode cX12_fillsPaired 4 = .ok (.iconst 0, 1) := by decide +kernel
theorem dX12_fillsPaired_5 : decode cX12_fillsPaired 5 = .ok (.iconst 0, 1) := by decide +kernel
theorem dX12_fillsPaired_6 : decode cX12_fillsPaired 6 = .ok (.iastore, 1) := by decide +kernel
theorem dX12_fillsPaired_7 : decode cX12_fillsPaired 7 = .ok (.iconst 1, 1) := by decide +kernel
theorem dX12_fillsPaired_8 : decode cX12_fillsPaired 8 = .ok (.istore_n 1, 1) := by decide +kernel
theorem dX12_fillsPaired_9 : decode cX12_fillsPaired 9 = .ok (.iload_n 1, 1) := by decide +kernel
theorem dX12_fillsPaired_10 : decode cX12_fillsPaired 10 = .ok (.iconst 1, 1) := by decide +kernel
theorem dX12_fillsPaired_11 : decode cX12_fillsPaired 11 = .ok (.aload_n 0, 1) := by decide +kernel
theorem dX12_fillsPaired_12 : decode cX12_fillsPaired 12 = .ok (.getfield 64, 3) := by decide +kernel
theorem dX12_fillsPaired_15 : decode cX12_fillsPaired 15 = .ok (.aload_n 0, 1) := by decide +kernel
theorem dX12_fillsPaired_16 : decode cX12_fillsPaired 16 = .ok (.getfield 245, 3) := by decide +kernel
theorem dX12_fillsPaired_19 : decode cX12_fillsPaired 19 = .ok (.iaload, 1) := by decide +kernel
theorem dX12_fillsPaired_20 : decode cX12_fillsPaired 20 = .ok (.ishl, 1) := by decide +kernel
theorem dX12_fillsPaired_21 : decode cX12_fillsPaired 21 = .ok (.if_icmp .ge 92, 3) := by decide +kernel
theorem dX12_fillsPaired_24 : decode cX12_fillsPaired 24 = .ok (.iload_n 1, 1) := by decide +kernel
theorem dX12_fillsPaired_25 : decode cX12_fillsPaired 25 = .ok (.invokestatic 436, 3) := by decide +kernel
theorem dX12_fillsPaired_28 : decode cX12_fillsPaired 28 = .ok (.istore_n 2, 1) := by decide +kernel
theorem dX12_fillsPaired_29 : decode cX12_fillsPaired 29 = .ok (.iload_n 1, 1) := by decide +kernel
theorem dX12_fillsPaired_30 : decode cX12_fillsPaired 30 = .ok (.iconst 1, 1) := by decide +kernel
theorem dX12_fillsPaired_31 : decode cX12_fillsPaired 31 = .ok (.iload_n 2, 1) := by decide +kernel
theorem dX12_fillsPaired_32 : decode cX12_fillsPaired 32 = .ok (.ishl, 1) := by decide +kernel
theorem dX12_fillsPaired_33 : decode cX12_fillsPaired 33 = .ok (.iconst (-1), 1) := by decide +kernel
theorem dX12_fillsPaired_34 : decode cX12_fillsPaired 34 = .ok (.ixor, 1) := by decide +kernel
theorem dX12_fillsPaired_35 : decode cX12_fillsPaired 35 = .ok (.iand, 1) := by decide +kernel
theorem dX12_fillsPaired_36 : decode cX12_fillsPaired 36 = .ok (.istore_n 3, 1) := by decide +kernel
theorem dX12_fillsPaired_37 : decode cX12_fillsPaired 37 = .ok (.aload_n 0, 1) := by decide +kernel
theorem dX12_fillsPaired_38 : decode cX12_fillsPaired 38 = .ok (.getfield 149, 3) := by decide +kernel
theorem dX12_fillsPaired_41 : decode cX12_fillsPaired 41 = .ok (.iload_n 1, 1) := by decide +kernel
theorem dX12_fillsPaired_42 : decode cX12_fillsPaired 42 = .ok (.aload_n 0, 1) := by decide +kernel
theorem dX12_fillsPaired_43 : decode cX12_fillsPaired 43 = .ok (.getfield 149, 3) := by decide +kernel
theorem dX12_fillsPaired_46 : decode cX12_fillsPaired 46 = .ok (.iload_n 3, 1) := by decide +kernel
theorem dX12_fillsPaired_47 : decode cX12_fillsPaired 47 = .ok (.iaload, 1) := by decide +kernel
theorem dX12_fillsPaired_48 : decode cX12_fillsPaired 48 = .ok (.iastore, 1) := by decide +kernel
theorem dX12_fillsPaired_49 : decode cX12_fillsPaired 49 = .ok (.iload_n 2, 1) := by decide +kernel
theorem dX12_fillsPaired_50 : decode cX12_fillsPaired 50 = .ok (.iconst 1, 1) := by decide +kernel
theorem dX12_fillsPaired_51 : decode cX12_fillsPaired 51 = .ok (.iadd, 1) := by decide +kernel
theorem dX12_fillsPaired_52 : decode cX12_fillsPaired 52 = .ok (.istore 4, 2) := by decide +kernel
theorem dX12_fillsPaired_54 : decode cX12_fillsPaired 54 = .ok (.iload 4, 2) := by decide +kernel
theorem dX12_fillsPaired_56 : decode cX12_fillsPaired 56 = .ok (.iconst 5, 1) := by decide +kernel
theorem dX12_fillsPaired_57 : decode cX12_fillsPaired 57 = .ok (.if_icmp .ge 50, 3) := by decide +kernel
theorem dX12_fillsPaired_60 : decode cX12_fillsPaired 60 = .ok (.iload_n 3, 1) := by decide +kernel
theorem dX12_fillsPaired_61 : decode cX12_fillsPaired 61 = .ok (.iload 4, 2) := by decide +kernel
theorem dX12_fillsPaired_63 : decode cX12_fillsPaired 63 = .ok (.ishr, 1) := by decide +kernel
theorem dX12_fillsPaired_64 : decode cX12_fillsPaired 64 = .ok (.iconst 1, 1) := by decide +kernel
theorem dX12_fillsPaired_65 : decode cX12_fillsPaired 65 = .ok (.iand, 1) := by decide +kernel
theorem dX12_fillsPaired_66 : decode cX12_fillsPaired 66 = .ok (.iconst 1, 1) := by decide +kernel
theorem dX12_fillsPaired_67 : decode cX12_fillsPaired 67 = .ok (.if_icmp .ne 34, 3) := by decide +kernel
theorem dX12_fillsPaired_70 : decode cX12_fillsPaired 70 = .ok (.aload_n 0, 1) := by decide +kernel
theorem dX12_fillsPaired_71 : decode cX12_fillsPaired 71 = .ok (.iload_n 2, 1) := by decide +kernel
theorem dX12_fillsPaired_72 : decode cX12_fillsPaired 72 = .ok (.iload 4, 2) := by decide +kernel
theorem dX12_fillsPaired_74 : decode cX12_fillsPaired 74 = .ok (.iload_n 3, 1) := by decide +kernel
theorem dX12_fillsPaired_75 : decode cX12_fillsPaired 75 = .ok (.invokevirtual 486, 3) := by decide +kernel
theorem dX12_fillsPaired_78 : decode cX12_fillsPaired 78 = .ok (.aload_n 0, 1) := by decide +kernel
theorem dX12_fillsPaired_79 : decode cX12_fillsPaired 79 = .ok (.getfield 149, 3) := by decide +kernel
theorem dX12_fillsPaired_82 : decode cX12_fillsPaired 82 = .ok (.iload_n 1, 1) := by decide +kernel
theorem dX12_fillsPaired_83 : decode cX12_fillsPaired 83 = .ok (.iaload, 1) := by decide +kernel
theorem dX12_fillsPaired_84 : decode cX12_fillsPaired 84 = .ok (.if_icmp .ge 17, 3) := by decide +kernel
theorem dX12_fillsPaired_87 : decode cX12_fillsPaired 87 = .ok (.aload_n 0, 1) := by decide +kernel
theorem dX12_fillsPaired_88 : decode cX12_fillsPaired 88 = .ok (.getfield 149, 3) := by decide +kernel
theorem dX12_fillsPaired_91 : decode cX12_fillsPaired 91 = .ok (.iload_n 1, 1) := by decide +kernel
theorem dX12_fillsPaired_92 : decode cX12_fillsPaired 92 = .ok (.aload_n 0, 1) := by decide +kernel
theorem dX12_fillsPaired_93 : decode cX12_fillsPaired 93 = .ok (.iload_n 2, 1) := by decide +kernel
theorem dX12_fillsPaired_94 : decode cX12_fillsPaired 94 = .ok (.iload 4, 2) := by decide +kernel
theorem dX12_fillsPaired_96 : decode cX12_fillsPaired 96 = .ok (.iload_n 3, 1) := by decide +kernel
theorem dX12_fillsPaired_97 : decode cX12_fillsPaired 97 = .ok (.invokevirtual 486, 3) := by decide +kernel
theorem dX12_fillsPaired_100 : decode cX12_fillsPaired 100 = .ok (.iastore, 1) := by decide +kernel
theorem dX12_fillsPaired_101 : decode cX12_fillsPaired 101 = .ok (.iinc 4 1, 3) := by decide +kernel
theorem dX12_fillsPaired_104 : decode cX12_fillsPaired 104 = .ok (.goto (-50), 3) := by decide +kernel
theorem dX12_fillsPaired_107 : decode cX12_fillsPaired 107 = .ok (.iinc 1 1, 3) := by decide +kernel
theorem dX12_fillsPaired_110 : decode cX12_fillsPaired 110 = .ok (.goto (-101), 3) := by decide +kernel
theorem dX12_fillsPaired_113 : decode cX12_fillsPaired 113 = .ok (.return_, 1) := by decide +kernel
theorem dX12_pairedOf_0 : decode cX12_pairedOf 0 = .ok (.iload_n 1, 1) := by decide +kernel
theorem dX12_pairedOf_1 : decode cX12_pairedOf 1 = .ok (.invokestatic 436, 3) := by decide +kernel
theorem dX12_pairedOf_4 : decode cX12_pairedOf 4 = .ok (.istore_n 2, 1) := by decide +kernel
theorem dX12_pairedOf_5 : decode cX12_pairedOf 5 = .ok (.iload_n 1, 1) := by decide +kernel
theorem dX12_pairedOf_6 : decode cX12_pairedOf 6 = .ok (.iconst 1, 1) := by decide +kernel
theorem dX12_pairedOf_7 : decode cX12_pairedOf 7 = .ok (.iload_n 2, 1) := by decide +kernel
theorem dX12_pairedOf_8 : decode cX12_pairedOf 8 = .ok (.ishl, 1) := by decide +kernel
theorem dX12_pairedOf_9 : decode cX12_pairedOf 9 = .ok (.iconst (-1), 1) := by decide +kernel
theorem dX12_pairedOf_10 : decode cX12_pairedOf 10 = .ok (.ixor, 1) := by decide +kernel
theorem dX12_pairedOf_11 : decode cX12_pairedOf 11 = .ok (.iand, 1) := by decide +kernel
theorem dX12_pairedOf_12 : decode cX12_pairedOf 12 = .ok (.istore_n 3, 1) := by decide +kernel
theorem dX12_pairedOf_13 : decode cX12_pairedOf 13 = .ok (.iload_n 2, 1) := by decide +kernel
theorem dX12_pairedOf_14 : decode cX12_pairedOf 14 = .ok (.iconst 1, 1) := by decide +kernel
theorem dX12_pairedOf_15 : decode cX12_pairedOf 15 = .ok (.iadd, 1) := by decide +kernel
theorem dX12_pairedOf_16 : decode cX12_pairedOf 16 = .ok (.istore 4, 2) := by decide +kernel
theorem dX12_pairedOf_18 : decode cX12_pairedOf 18 = .ok (.iload 4, 2) := by decide +kernel
theorem dX12_pairedOf_20 : decode cX12_pairedOf 20 = .ok (.iconst 5, 1) := by decide +kernel
theorem dX12_pairedOf_21 : decode cX12_pairedOf 21 = .ok (.if_icmp .ge 39, 3) := by decide +kernel
theorem dX12_pairedOf_24 : decode cX12_pairedOf 24 = .ok (.iload_n 3, 1) := by decide +kernel
theorem dX12_pairedOf_25 : decode cX12_pairedOf 25 = .ok (.iload 4, 2) := by decide +kernel
theorem dX12_pairedOf_27 : decode cX12_pairedOf 27 = .ok (.ishr, 1) := by decide +kernel
theorem dX12_pairedOf_28 : decode cX12_pairedOf 28 = .ok (.iconst 1, 1) := by decide +kernel
theorem dX12_pairedOf_29 : decode cX12_pairedOf 29 = .ok (.iand, 1) := by decide +kernel
theorem dX12_pairedOf_30 : decode cX12_pairedOf 30 = .ok (.iconst 1, 1) := by decide +kernel
theorem dX12_pairedOf_31 : decode cX12_pairedOf 31 = .ok (.if_icmp .ne 23, 3) := by decide +kernel
theorem dX12_pairedOf_34 : decode cX12_pairedOf 34 = .ok (.aload_n 0, 1) := by decide +kernel
theorem dX12_pairedOf_35 : decode cX12_pairedOf 35 = .ok (.iload_n 2, 1) := by decide +kernel
theorem dX12_pairedOf_36 : decode cX12_pairedOf 36 = .ok (.iload 4, 2) := by decide +kernel
theorem dX12_pairedOf_38 : decode cX12_pairedOf 38 = .ok (.iload_n 3, 1) := by decide +kernel
theorem dX12_pairedOf_39 : decode cX12_pairedOf 39 = .ok (.invokevirtual 486, 3) := by decide +kernel
theorem dX12_pairedOf_42 : decode cX12_pairedOf 42 = .ok (.aload_n 0, 1) := by decide +kernel
theorem dX12_pairedOf_43 : decode cX12_pairedOf 43 = .ok (.getfield 149, 3) := by decide +kernel
theorem dX12_pairedOf_46 : decode cX12_pairedOf 46 = .ok (.iload_n 1, 1) := by decide +kernel
theorem dX12_pairedOf_47 : decode cX12_pairedOf 47 = .ok (.iaload, 1) := by decide +kernel
theorem dX12_pairedOf_48 : decode cX12_pairedOf 48 = .ok (.if_icmp .ne 6, 3) := by decide +kernel
theorem dX12_pairedOf_51 : decode cX12_pairedOf 51 = .ok (.iload 4, 2) := by decide +kernel
theorem dX12_pairedOf_53 : decode cX12_pairedOf 53 = .ok (.ireturn, 1) := by decide +kernel
theorem dX12_pairedOf_54 : decode cX12_pairedOf 54 = .ok (.iinc 4 1, 3) := by decide +kernel
theorem dX12_pairedOf_57 : decode cX12_pairedOf 57 = .ok (.goto (-39), 3) := by decide +kernel
theorem dX12_pairedOf_60 : decode cX12_pairedOf 60 = .ok (.bipush (-2), 2) := by decide +kernel
theorem dX12_pairedOf_62 : decode cX12_pairedOf 62 = .ok (.ireturn, 1) := by decide +kernel
theorem dX12_pairs_0 : decode cX12_pairs 0 = .ok (.iload_n 1, 1) := by decide +kernel
theorem dX12_pairs_1 : decode cX12_pairs 1 = .ok (.iconst (-1), 1) := by decide +kernel
theorem dX12_pairs_2 : decode cX12_pairs 2 = .ok (.if_icmp .eq 13, 3) := by decide +kernel
theorem dX12_pairs_5 : decode cX12_pairs 5 = .ok (.aload_n 0, 1) := by decide +kernel
theorem dX12_pairs_6 : decode cX12_pairs 6 = .ok (.iload_n 1, 1) := by decide +kernel
theorem dX12_pairs_7 : decode cX12_pairs 7 = .ok (.invokevirtual 409, 3) := by decide +kernel
theorem dX12_pairs_10 : decode cX12_pairs 10 = .ok (.ifCond .ne 5, 3) := by decide +kernel
theorem dX12_pairs_13 : decode cX12_pairs 13 = .ok (.iconst (-1), 1) := by decide +kernel
theorem dX12_pairs_14 : decode cX12_pairs 14 = .ok (.ireturn, 1) := by decide +kernel
theorem dX12_pairs_15 : decode cX12_pairs 15 = .ok (.aload_n 0, 1) := by decide +kernel
theorem dX12_pairs_16 : decode cX12_pairs 16 = .ok (.invokevirtual 489, 3) := by decide +kernel
theorem dX12_pairs_19 : decode cX12_pairs 19 = .ok (.iconst 1, 1) := by decide +kernel
theorem dX12_pairs_20 : decode cX12_pairs 20 = .ok (.aload_n 0, 1) := by decide +kernel
theorem dX12_pairs_21 : decode cX12_pairs 21 = .ok (.getfield 64, 3) := by decide +kernel
theorem dX12_pairs_24 : decode cX12_pairs 24 = .ok (.aload_n 0, 1) := by decide +kernel
theorem dX12_pairs_25 : decode cX12_pairs 25 = .ok (.getfield 245, 3) := by decide +kernel
theorem dX12_pairs_28 : decode cX12_pairs 28 = .ok (.iaload, 1) := by decide +kernel
theorem dX12_pairs_29 : decode cX12_pairs 29 = .ok (.ishl, 1) := by decide +kernel
theorem dX12_pairs_30 : decode cX12_pairs 30 = .ok (.iconst 1, 1) := by decide +kernel
theorem dX12_pairs_31 : decode cX12_pairs 31 = .ok (.isub, 1) := by decide +kernel
theorem dX12_pairs_32 : decode cX12_pairs 32 = .ok (.istore_n 2, 1) := by decide +kernel
theorem dX12_pairs_33 : decode cX12_pairs 33 = .ok (.iload_n 1, 1) := by decide +kernel
theorem dX12_pairs_34 : decode cX12_pairs 34 = .ok (.iconst (-1), 1) := by decide +kernel
theorem dX12_pairs_35 : decode cX12_pairs 35 = .ok (.if_icmp .ne 26, 3) := by decide +kernel
theorem dX12_pairs_38 : decode cX12_pairs 38 = .ok (.aload_n 0, 1) := by decide +kernel
theorem dX12_pairs_39 : decode cX12_pairs 39 = .ok (.getfield 149, 3) := by decide +kernel
theorem dX12_pairs_42 : decode cX12_pairs 42 = .ok (.iload_n 2, 1) := by decide +kernel
theorem dX12_pairs_43 : decode cX12_pairs 43 = .ok (.iaload, 1) := by decide +kernel
theorem dX12_pairs_44 : decode cX12_pairs 44 = .ok (.sipush 10000, 3) := by decide +kernel
theorem dX12_pairs_47 : decode cX12_pairs 47 = .ok (.aload_n 0, 1) := by decide +kernel
theorem dX12_pairs_48 : decode cX12_pairs 48 = .ok (.getfield 64, 3) := by decide +kernel
theorem dX12_pairs_51 : decode cX12_pairs 51 = .ok (.aload_n 0, 1) := by decide +kernel
theorem dX12_pairs_52 : decode cX12_pairs 52 = .ok (.getfield 245, 3) := by decide +kernel
theorem dX12_pairs_55 : decode cX12_pairs 55 = .ok (.iaload, 1) := by decide +kernel
theorem dX12_pairs_56 : decode cX12_pairs 56 = .ok (.iconst 2, 1) := by decide +kernel
theorem dX12_pairs_57 : decode cX12_pairs 57 = .ok (.idiv, 1) := by decide +kernel
theorem dX12_pairs_58 : decode cX12_pairs 58 = .ok (.imul, 1) := by decide +kernel
theorem dX12_pairs_59 : decode cX12_pairs 59 = .ok (.iadd, 1) := by decide +kernel
theorem dX12_pairs_60 : decode cX12_pairs 60 = .ok (.ireturn, 1) := by decide +kernel
theorem dX12_pairs_61 : decode cX12_pairs 61 = .ok (.iload_n 2, 1) := by decide +kernel
theorem dX12_pairs_62 : decode cX12_pairs 62 = .ok (.invokestatic 436, 3) := by decide +kernel
theorem dX12_pairs_65 : decode cX12_pairs 65 = .ok (.istore_n 3, 1) := by decide +kernel
theorem dX12_pairs_66 : decode cX12_pairs 66 = .ok (.aload_n 0, 1) := by decide +kernel
theorem dX12_pairs_67 : decode cX12_pairs 67 = .ok (.iload_n 2, 1) := by decide +kernel
theorem dX12_pairs_68 : decode cX12_pairs 68 = .ok (.invokevirtual 492, 3) := by decide +kernel
theorem dX12_pairs_71 : decode cX12_pairs 71 = .ok (.istore 4, 2) := by decide +kernel
theorem dX12_pairs_73 : decode cX12_pairs 73 = .ok (.iload_n 3, 1) := by decide +kernel
theorem dX12_pairs_74 : decode cX12_pairs 74 = .ok (.iload_n 1, 1) := by decide +kernel
theorem dX12_pairs_75 : decode cX12_pairs 75 = .ok (.if_icmp .ne 6, 3) := by decide +kernel
theorem dX12_pairs_78 : decode cX12_pairs 78 = .ok (.iload 4, 2) := by decide +kernel
theorem dX12_pairs_80 : decode cX12_pairs 80 = .ok (.ireturn, 1) := by decide +kernel
theorem dX12_pairs_81 : decode cX12_pairs 81 = .ok (.iload 4, 2) := by decide +kernel
theorem dX12_pairs_83 : decode cX12_pairs 83 = .ok (.iload_n 1, 1) := by decide +kernel
theorem dX12_pairs_84 : decode cX12_pairs 84 = .ok (.if_icmp .ne 5, 3) := by decide +kernel
theorem dX12_pairs_87 : decode cX12_pairs 87 = .ok (.iload_n 3, 1) := by decide +kernel
theorem dX12_pairs_88 : decode cX12_pairs 88 = .ok (.ireturn, 1) := by decide +kernel
theorem dX12_pairs_89 : decode cX12_pairs 89 = .ok (.iload_n 2, 1) := by decide +kernel
theorem dX12_pairs_90 : decode cX12_pairs 90 = .ok (.iconst 1, 1) := by decide +kernel
theorem dX12_pairs_91 : decode cX12_pairs 91 = .ok (.iload_n 3, 1) := by decide +kernel
theorem dX12_pairs_92 : decode cX12_pairs 92 = .ok (.ishl, 1) := by decide +kernel
theorem dX12_pairs_93 : decode cX12_pairs 93 = .ok (.iconst (-1), 1) := by decide +kernel
theorem dX12_pairs_94 : decode cX12_pairs 94 = .ok (.ixor, 1) := by decide +kernel
theorem dX12_pairs_95 : decode cX12_pairs 95 = .ok (.iand, 1) := by decide +kernel
theorem dX12_pairs_96 : decode cX12_pairs 96 = .ok (.istore_n 2, 1) := by decide +kernel
theorem dX12_pairs_97 : decode cX12_pairs 97 = .ok (.iload 4, 2) := by decide +kernel
theorem dX12_pairs_99 : decode cX12_pairs 99 = .ok (.ifCond .lt 12, 3) := by decide +kernel
theorem dX12_pairs_102 : decode cX12_pairs 102 = .ok (.iload_n 2, 1) := by decide +kernel
theorem dX12_pairs_103 : decode cX12_pairs 103 = .ok (.iconst 1, 1) := by decide +kernel
theorem dX12_pairs_104 : decode cX12_pairs 104 = .ok (.iload 4, 2) := by decide +kernel
theorem dX12_pairs_106 : decode cX12_pairs 106 = .ok (.ishl, 1) := by decide +kernel
theorem dX12_pairs_107 : decode cX12_pairs 107 = .ok (.iconst (-1), 1) := by decide +kernel
theorem dX12_pairs_108 : decode cX12_pairs 108 = .ok (.ixor, 1) := by decide +kernel
theorem dX12_pairs_109 : decode cX12_pairs 109 = .ok (.iand, 1) := by decide +kernel
theorem dX12_pairs_110 : decode cX12_pairs 110 = .ok (.istore_n 2, 1) := by decide +kernel
theorem dX12_pairs_111 : decode cX12_pairs 111 = .ok (.goto (-50), 3) := by decide +kernel
theorem dX12_then_0 : decode cX12_then 0 = .ok (.aload_n 0, 1) := by decide +kernel
theorem dX12_then_1 : decode cX12_then 1 = .ok (.iload_n 1, 1) := by decide +kernel
theorem dX12_then_2 : decode cX12_then 2 = .ok (.invokevirtual 409, 3) := by decide +kernel
theorem dX12_then_5 : decode cX12_then 5 = .ok (.ifCond .eq 19, 3) := by decide +kernel
theorem dX12_then_8 : decode cX12_then 8 = .ok (.iload_n 2, 1) := by decide +kernel
theorem dX12_then_9 : decode cX12_then 9 = .ok (.invokestatic 415, 3) := by decide +kernel
theorem dX12_then_12 : decode cX12_then 12 = .ok (.ifCond .eq 12, 3) := by decide +kernel
theorem dX12_then_15 : decode cX12_then 15 = .ok (.iload_n 3, 1) := by decide +kernel
theorem dX12_then_16 : decode cX12_then 16 = .ok (.iconst 0, 1) := by decide +kernel
theorem dX12_then_17 : decode cX12_then 17 = .ok (.iconst 1, 1) := by decide +kernel
theorem dX12_then_18 : decode cX12_then 18 = .ok (.invokestatic 330, 3) := by decide +kernel
theorem dX12_then_21 : decode cX12_then 21 = .ok (.ifCond .ne 5, 3) := by decide +kernel
theorem dX12_then_24 : decode cX12_then 24 = .ok (.iconst (-1), 1) := by decide +kernel
theorem dX12_then_25 : decode cX12_then 25 = .ok (.ireturn, 1) := by decide +kernel
theorem dX12_then_26 : decode cX12_then 26 = .ok (.aload_n 0, 1) := by decide +kernel
theorem dX12_then_27 : decode cX12_then 27 = .ok (.invokevirtual 346, 3) := by decide +kernel
theorem dX12_then_30 : decode cX12_then 30 = .ok (.aload_n 0, 1) := by decide +kernel
theorem dX12_then_31 : decode cX12_then 31 = .ok (.iload_n 2, 1) := by decide +kernel
theorem dX12_then_32 : decode cX12_then 32 = .ok (.invokevirtual 418, 3) := by decide +kernel
theorem dX12_then_35 : decode cX12_then 35 = .ok (.iload_n 3, 1) := by decide +kernel
theorem dX12_then_36 : decode cX12_then 36 = .ok (.ifCond .ne 15, 3) := by decide +kernel
theorem dX12_then_39 : decode cX12_then 39 = .ok (.aload_n 0, 1) := by decide +kernel
theorem dX12_then_40 : decode cX12_then 40 = .ok (.getfield 128, 3) := by decide +kernel
theorem dX12_then_43 : decode cX12_then 43 = .ok (.bipush 51, 2) := by decide +kernel
theorem dX12_then_45 : decode cX12_then 45 = .ok (.iload_n 1, 1) := by decide +kernel
theorem dX12_then_46 : decode cX12_then 46 = .ok (.iadd, 1) := by decide +kernel
theorem dX12_then_47 : decode cX12_then 47 = .ok (.iaload, 1) := by decide +kernel
theorem dX12_then_48 : decode cX12_then 48 = .ok (.goto 12, 3) := by decide +kernel
theorem dX12_then_51 : decode cX12_then 51 = .ok (.aload_n 0, 1) := by decide +kernel
theorem dX12_then_52 : decode cX12_then 52 = .ok (.getfield 128, 3) := by decide +kernel
theorem dX12_then_55 : decode cX12_then 55 = .ok (.bipush 56, 2) := by decide +kernel
theorem dX12_then_57 : decode cX12_then 57 = .ok (.iload_n 1, 1) := by decide +kernel
theorem dX12_then_58 : decode cX12_then 58 = .ok (.iadd, 1) := by decide +kernel
theorem dX12_then_59 : decode cX12_then 59 = .ok (.iaload, 1) := by decide +kernel
theorem dX12_then_60 : decode cX12_then 60 = .ok (.ireturn, 1) := by decide +kernel
theorem dX12_tunesIn_0 : decode cX12_tunesIn 0 = .ok (.iload_n 1, 1) := by decide +kernel
theorem dX12_tunesIn_1 : decode cX12_tunesIn 1 = .ok (.invokestatic 415, 3) := by decide +kernel
theorem dX12_tunesIn_4 : decode cX12_tunesIn 4 = .ok (.ifCond .ne 5, 3) := by decide +kernel
theorem dX12_tunesIn_7 : decode cX12_tunesIn 7 = .ok (.iconst (-1), 1) := by decide +kernel
theorem dX12_tunesIn_8 : decode cX12_tunesIn 8 = .ok (.ireturn, 1) := by decide +kernel
theorem dX12_tunesIn_9 : decode cX12_tunesIn 9 = .ok (.aload_n 0, 1) := by decide +kernel
theorem dX12_tunesIn_10 : decode cX12_tunesIn 10 = .ok (.invokevirtual 346, 3) := by decide +kernel
theorem dX12_tunesIn_13 : decode cX12_tunesIn 13 = .ok (.aload_n 0, 1) := by decide +kernel
theorem dX12_tunesIn_14 : decode cX12_tunesIn 14 = .ok (.iload_n 1, 1) := by decide +kernel
theorem dX12_tunesIn_15 : decode cX12_tunesIn 15 = .ok (.invokevirtual 418, 3) := by decide +kernel
theorem dX12_tunesIn_18 : decode cX12_tunesIn 18 = .ok (.aload_n 0, 1) := by decide +kernel
theorem dX12_tunesIn_19 : decode cX12_tunesIn 19 = .ok (.invokevirtual 359, 3) := by decide +kernel
theorem dX12_tunesIn_22 : decode cX12_tunesIn 22 = .ok (.ireturn, 1) := by decide +kernel
theorem dX12_year_0 : decode cX12_year 0 = .ok (.aload_n 0, 1) := by decide +kernel
theorem dX12_year_1 : decode cX12_year 1 = .ok (.iload_n 1, 1) := by decide +kernel
theorem dX12_year_2 : decode cX12_year 2 = .ok (.invokevirtual 403, 3) := by decide +kernel
theorem dX12_year_5 : decode cX12_year 5 = .ok (.ifCond .eq 20, 3) := by decide +kernel
theorem dX12_year_8 : decode cX12_year 8 = .ok (.iload_n 2, 1) := by decide +kernel
theorem dX12_year_9 : decode cX12_year 9 = .ok (.invokestatic 415, 3) := by decide +kernel
theorem dX12_year_12 : decode cX12_year 12 = .ok (.ifCond .eq 13, 3) := by decide +kernel
theorem dX12_year_15 : decode cX12_year 15 = .ok (.iload_n 3, 1) := by decide +kernel
theorem dX12_year_16 : decode cX12_year 16 = .ok (.iconst 1, 1) := by decide +kernel
theorem dX12_year_17 : decode cX12_year 17 = .ok (.bipush 20, 2) := by decide +kernel
theorem dX12_year_19 : decode cX12_year 19 = .ok (.invokestatic 330, 3) := by decide +kernel
theorem dX12_year_22 : decode cX12_year 22 = .ok (.ifCond .ne 5, 3) := by decide +kernel
theorem dX12_year_25 : decode cX12_year 25 = .ok (.iconst (-1), 1) := by decide +kernel
theorem dX12_year_26 : decode cX12_year 26 = .ok (.ireturn, 1) := by decide +kernel
theorem dX12_year_27 : decode cX12_year 27 = .ok (.iconst 0, 1) := by decide +kernel
theorem dX12_year_28 : decode cX12_year 28 = .ok (.istore 4, 2) := by decide +kernel
theorem dX12_year_30 : decode cX12_year 30 = .ok (.iconst 0, 1) := by decide +kernel
theorem dX12_year_31 : decode cX12_year 31 = .ok (.istore 5, 2) := by decide +kernel
theorem dX12_year_33 : decode cX12_year 33 = .ok (.iload 5, 2) := by decide +kernel
theorem dX12_year_35 : decode cX12_year 35 = .ok (.iload_n 3, 1) := by decide +kernel
theorem dX12_year_36 : decode cX12_year 36 = .ok (.if_icmp .ge 41, 3) := by decide +kernel
theorem dX12_year_39 : decode cX12_year 39 = .ok (.aload_n 0, 1) := by decide +kernel
theorem dX12_year_40 : decode cX12_year 40 = .ok (.invokevirtual 346, 3) := by decide +kernel
theorem dX12_year_43 : decode cX12_year 43 = .ok (.aload_n 0, 1) := by decide +kernel
theorem dX12_year_44 : decode cX12_year 44 = .ok (.dup, 1) := by decide +kernel
theorem dX12_year_45 : decode cX12_year 45 = .ok (.getfield 337, 3) := by decide +kernel
theorem dX12_year_48 : decode cX12_year 48 = .ok (.iload 5, 2) := by decide +kernel
theorem dX12_year_50 : decode cX12_year 50 = .ok (.iadd, 1) := by decide +kernel
theorem dX12_year_51 : decode cX12_year 51 = .ok (.putfield 337, 3) := by decide +kernel
theorem dX12_year_54 : decode cX12_year 54 = .ok (.aload_n 0, 1) := by decide +kernel
theorem dX12_year_55 : decode cX12_year 55 = .ok (.iload_n 2, 1) := by decide +kernel
theorem dX12_year_56 : decode cX12_year 56 = .ok (.invokevirtual 418, 3) := by decide +kernel
theorem dX12_year_59 : decode cX12_year 59 = .ok (.aload_n 0, 1) := by decide +kernel
theorem dX12_year_60 : decode cX12_year 60 = .ok (.getfield 128, 3) := by decide +kernel
theorem dX12_year_63 : decode cX12_year 63 = .ok (.iload_n 1, 1) := by decide +kernel
theorem dX12_year_64 : decode cX12_year 64 = .ok (.iaload, 1) := by decide +kernel
theorem dX12_year_65 : decode cX12_year 65 = .ok (.ifCond .le 6, 3) := by decide +kernel
theorem dX12_year_68 : decode cX12_year 68 = .ok (.iinc 4 1, 3) := by decide +kernel
theorem dX12_year_71 : decode cX12_year 71 = .ok (.iinc 5 1, 3) := by decide +kernel
theorem dX12_year_74 : decode cX12_year 74 = .ok (.goto (-41), 3) := by decide +kernel
theorem dX12_year_77 : decode cX12_year 77 = .ok (.iload 4, 2) := by decide +kernel
theorem dX12_year_79 : decode cX12_year 79 = .ok (.ireturn, 1) := by decide +kernel
theorem dX12_isTime_0 : decode cX12_isTime 0 = .ok (.iload_n 0, 1) := by decide +kernel
theorem dX12_isTime_1 : decode cX12_isTime 1 = .ok (.iconst 0, 1) := by decide +kernel
theorem dX12_isTime_2 : decode cX12_isTime 2 = .ok (.bipush 59, 2) := by decide +kernel
theorem dX12_isTime_4 : decode cX12_isTime 4 = .ok (.invokestatic 330, 3) := by decide +kernel
theorem dX12_isTime_7 : decode cX12_isTime 7 = .ok (.ireturn, 1) := by decide +kernel
theorem dX12_tell_0 : decode cX12_tell 0 = .ok (.aload_n 0, 1) := by decide +kernel
theorem dX12_tell_1 : decode cX12_tell 1 = .ok (.getfield 274, 3) := by decide +kernel
theorem dX12_tell_4 : decode cX12_tell 4 = .ok (.bipush 20, 2) := by decide +kernel
theorem dX12_tell_6 : decode cX12_tell 6 = .ok (.if_icmp .eq 10, 3) := by decide +kernel
theorem dX12_tell_9 : decode cX12_tell 9 = .ok (.iload_n 1, 1) := by decide +kernel
theorem dX12_tell_10 : decode cX12_tell 10 = .ok (.invokestatic 495, 3) := by decide +kernel
theorem dX12_tell_13 : decode cX12_tell 13 = .ok (.ifCond .ne 5, 3) := by decide +kernel
theorem dX12_tell_16 : decode cX12_tell 16 = .ok (.iconst (-1), 1) := by decide +kernel
theorem dX12_tell_17 : decode cX12_tell 17 = .ok (.ireturn, 1) := by decide +kernel
theorem dX12_tell_18 : decode cX12_tell 18 = .ok (.aload_n 0, 1) := by decide +kernel
theorem dX12_tell_19 : decode cX12_tell 19 = .ok (.getfield 152, 3) := by decide +kernel
theorem dX12_tell_22 : decode cX12_tell 22 = .ok (.aload_n 0, 1) := by decide +kernel
theorem dX12_tell_23 : decode cX12_tell 23 = .ok (.getfield 274, 3) := by decide +kernel
theorem dX12_tell_26 : decode cX12_tell 26 = .ok (.iload_n 1, 1) := by decide +kernel
theorem dX12_tell_27 : decode cX12_tell 27 = .ok (.iastore, 1) := by decide +kernel
theorem dX12_tell_28 : decode cX12_tell 28 = .ok (.aload_n 0, 1) := by decide +kernel
theorem dX12_tell_29 : decode cX12_tell 29 = .ok (.getfield 155, 3) := by decide +kernel
theorem dX12_tell_32 : decode cX12_tell 32 = .ok (.aload_n 0, 1) := by decide +kernel
theorem dX12_tell_33 : decode cX12_tell 33 = .ok (.getfield 274, 3) := by decide +kernel
theorem dX12_tell_36 : decode cX12_tell 36 = .ok (.iload_n 2, 1) := by decide +kernel
theorem dX12_tell_37 : decode cX12_tell 37 = .ok (.bastore, 1) := by decide +kernel
theorem dX12_tell_38 : decode cX12_tell 38 = .ok (.aload_n 0, 1) := by decide +kernel
theorem dX12_tell_39 : decode cX12_tell 39 = .ok (.dup, 1) := by decide +kernel
theorem dX12_tell_40 : decode cX12_tell 40 = .ok (.getfield 274, 3) := by decide +kernel
theorem dX12_tell_43 : decode cX12_tell 43 = .ok (.iconst 1, 1) := by decide +kernel
theorem dX12_tell_44 : decode cX12_tell 44 = .ok (.iadd, 1) := by decide +kernel
theorem dX12_tell_45 : decode cX12_tell 45 = .ok (.putfield 274, 3) := by decide +kernel
theorem dX12_tell_48 : decode cX12_tell 48 = .ok (.aload_n 0, 1) := by decide +kernel
theorem dX12_tell_49 : decode cX12_tell 49 = .ok (.getfield 274, 3) := by decide +kernel
theorem dX12_tell_52 : decode cX12_tell 52 = .ok (.iconst 1, 1) := by decide +kernel
theorem dX12_tell_53 : decode cX12_tell 53 = .ok (.isub, 1) := by decide +kernel
theorem dX12_tell_54 : decode cX12_tell 54 = .ok (.ireturn, 1) := by decide +kernel
theorem dX12_forget_0 : decode cX12_forget 0 = .ok (.aload_n 0, 1) := by decide +kernel
theorem dX12_forget_1 : decode cX12_forget 1 = .ok (.getfield 274, 3) := by decide +kernel
theorem dX12_forget_4 : decode cX12_forget 4 = .ok (.istore_n 1, 1) := by decide +kernel
theorem dX12_forget_5 : decode cX12_forget 5 = .ok (.aload_n 0, 1) := by decide +kernel
theorem dX12_forget_6 : decode cX12_forget 6 = .ok (.iconst 0, 1) := by decide +kernel
theorem dX12_forget_7 : decode cX12_forget 7 = .ok (.putfield 274, 3) := by decide +kernel
theorem dX12_forget_10 : decode cX12_forget 10 = .ok (.iload_n 1, 1) := by decide +kernel
theorem dX12_forget_11 : decode cX12_forget 11 = .ok (.ireturn, 1) := by decide +kernel
theorem dX12_doesFit_0 : decode cX12_doesFit 0 = .ok (.iconst 0, 1) := by decide +kernel
theorem dX12_doesFit_1 : decode cX12_doesFit 1 = .ok (.istore 4, 2) := by decide +kernel
theorem dX12_doesFit_3 : decode cX12_doesFit 3 = .ok (.iload 4, 2) := by decide +kernel
theorem dX12_doesFit_5 : decode cX12_doesFit 5 = .ok (.iload_n 3, 1) := by decide +kernel
theorem dX12_doesFit_6 : decode cX12_doesFit 6 = .ok (.if_icmp .ge 39, 3) := by decide +kernel
theorem dX12_doesFit_9 : decode cX12_doesFit 9 = .ok (.aload_n 0, 1) := by decide +kernel
theorem dX12_doesFit_10 : decode cX12_doesFit 10 = .ok (.getfield 152, 3) := by decide +kernel
theorem dX12_doesFit_13 : decode cX12_doesFit 13 = .ok (.iload 4, 2) := by decide +kernel
theorem dX12_doesFit_15 : decode cX12_doesFit 15 = .ok (.iaload, 1) := by decide +kernel
theorem dX12_doesFit_16 : decode cX12_doesFit 16 = .ok (.iload_n 1, 1) := by decide +kernel
theorem dX12_doesFit_17 : decode cX12_doesFit 17 = .ok (.irem, 1) := by decide +kernel
theorem dX12_doesFit_18 : decode cX12_doesFit 18 = .ok (.iload_n 2, 1) := by decide +kernel
theorem dX12_doesFit_19 : decode cX12_doesFit 19 = .ok (.if_icmp .ne 7, 3) := by decide +kernel
theorem dX12_doesFit_22 : decode cX12_doesFit 22 = .ok (.iconst 1, 1) := by decide +kernel
theorem dX12_doesFit_23 : decode cX12_doesFit 23 = .ok (.goto 4, 3) := by decide +kernel
theorem dX12_doesFit_26 : decode cX12_doesFit 26 = .ok (.iconst 0, 1) := by decide +kernel
theorem dX12_doesFit_27 : decode cX12_doesFit 27 = .ok (.aload_n 0, 1) := by decide +kernel
theorem dX12_doesFit_28 : decode cX12_doesFit 28 = .ok (.getfield 155, 3) := by decide +kernel
theorem dX12_doesFit_31 : decode cX12_doesFit 31 = .ok (.iload 4, 2) := by decide +kernel
theorem dX12_doesFit_33 : decode cX12_doesFit 33 = .ok (.baload, 1) := by decide +kernel
theorem dX12_doesFit_34 : decode cX12_doesFit 34 = .ok (.if_icmp .eq 5, 3) := by decide +kernel
theorem dX12_doesFit_37 : decode cX12_doesFit 37 = .ok (.iconst 0, 1) := by decide +kernel
theorem dX12_doesFit_38 : decode cX12_doesFit 38 = .ok (.ireturn, 1) := by decide +kernel
theorem dX12_doesFit_39 : decode cX12_doesFit 39 = .ok (.iinc 4 1, 3) := by decide +kernel
theorem dX12_doesFit_42 : decode cX12_doesFit 42 = .ok (.goto (-39), 3) := by decide +kernel
theorem dX12_doesFit_45 : decode cX12_doesFit 45 = .ok (.iconst 1, 1) := by decide +kernel
theorem dX12_doesFit_46 : decode cX12_doesFit 46 = .ok (.ireturn, 1) := by decide +kernel
theorem dX12_fitting_0 : decode cX12_fitting 0 = .ok (.iconst 0, 1) := by decide +kernel
theorem dX12_fitting_1 : decode cX12_fitting 1 = .ok (.istore_n 3, 1) := by decide +kernel
theorem dX12_fitting_2 : decode cX12_fitting 2 = .ok (.iconst 2, 1) := by decide +kernel
theorem dX12_fitting_3 : decode cX12_fitting 3 = .ok (.istore 4, 2) := by decide +kernel
theorem dX12_fitting_5 : decode cX12_fitting 5 = .ok (.iload 4, 2) := by decide +kernel
theorem dX12_fitting_7 : decode cX12_fitting 7 = .ok (.bipush 6, 2) := by decide +kernel
theorem dX12_fitting_9 : decode cX12_fitting 9 = .ok (.if_icmp .gt 53, 3) := by decide +kernel
theorem dX12_fitting_12 : decode cX12_fitting 12 = .ok (.iconst 0, 1) := by decide +kernel
theorem dX12_fitting_13 : decode cX12_fitting 13 = .ok (.istore 5, 2) := by decide +kernel
theorem dX12_fitting_15 : decode cX12_fitting 15 = .ok (.iload 5, 2) := by decide +kernel
theorem dX12_fitting_17 : decode cX12_fitting 17 = .ok (.iload 4, 2) := by decide +kernel
theorem dX12_fitting_19 : decode cX12_fitting 19 = .ok (.if_icmp .ge 37, 3) := by decide +kernel
theorem dX12_fitting_22 : decode cX12_fitting 22 = .ok (.iload_n 2, 1) := by decide +kernel
theorem dX12_fitting_23 : decode cX12_fitting 23 = .ok (.ifCond .lt 12, 3) := by decide +kernel
theorem dX12_fitting_26 : decode cX12_fitting 26 = .ok (.iload_n 2, 1) := by decide +kernel
theorem dX12_fitting_27 : decode cX12_fitting 27 = .ok (.iload 4, 2) := by decide +kernel
theorem dX12_fitting_29 : decode cX12_fitting 29 = .ok (.irem, 1) := by decide +kernel
theorem dX12_fitting_30 : decode cX12_fitting 30 = .ok (.iload 5, 2) := by decide +kernel
theorem dX12_fitting_32 : decode cX12_fitting 32 = .ok (.if_icmp .ne 18, 3) := by decide +kernel
theorem dX12_fitting_35 : decode cX12_fitting 35 = .ok (.aload_n 0, 1) := by decide +kernel
theorem dX12_fitting_36 : decode cX12_fitting 36 = .ok (.iload 4, 2) := by decide +kernel
theorem dX12_fitting_38 : decode cX12_fitting 38 = .ok (.iload 5, 2) := by decide +kernel
theorem dX12_fitting_40 : decode cX12_fitting 40 = .ok (.iload_n 1, 1) := by decide +kernel
theorem dX12_fitting_41 : decode cX12_fitting 41 = .ok (.invokevirtual 498, 3) := by decide +kernel
theorem dX12_fitting_44 : decode cX12_fitting 44 = .ok (.ifCond .eq 6, 3) := by decide +kernel
theorem dX12_fitting_47 : decode cX12_fitting 47 = .ok (.iinc 3 1, 3) := by decide +kernel
theorem dX12_fitting_50 : decode cX12_fitting 50 = .ok (.iinc 5 1, 3) := by decide +kernel
theorem dX12_fitting_53 : decode cX12_fitting 53 = .ok (.goto (-38), 3) := by decide +kernel
theorem dX12_fitting_56 : decode cX12_fitting 56 = .ok (.iinc 4 1, 3) := by decide +kernel
theorem dX12_fitting_59 : decode cX12_fitting 59 = .ok (.goto (-54), 3) := by decide +kernel
theorem dX12_fitting_62 : decode cX12_fitting 62 = .ok (.iload_n 3, 1) := by decide +kernel
theorem dX12_fitting_63 : decode cX12_fitting 63 = .ok (.ireturn, 1) := by decide +kernel
theorem dX12_firstFit_0 : decode cX12_firstFit 0 = .ok (.iconst 2, 1) := by decide +kernel
theorem dX12_firstFit_1 : decode cX12_firstFit 1 = .ok (.istore_n 2, 1) := by decide +kernel
theorem dX12_firstFit_2 : decode cX12_firstFit 2 = .ok (.iload_n 2, 1) := by decide +kernel
theorem dX12_firstFit_3 : decode cX12_firstFit 3 = .ok (.bipush 6, 2) := by decide +kernel
theorem dX12_firstFit_5 : decode cX12_firstFit 5 = .ok (.if_icmp .gt 39, 3) := by decide +kernel
theorem dX12_firstFit_8 : decode cX12_firstFit 8 = .ok (.iconst 0, 1) := by decide +kernel
theorem dX12_firstFit_9 : decode cX12_firstFit 9 = .ok (.istore_n 3, 1) := by decide +kernel
theorem dX12_firstFit_10 : decode cX12_firstFit 10 = .ok (.iload_n 3, 1) := by decide +kernel
theorem dX12_firstFit_11 : decode cX12_firstFit 11 = .ok (.iload_n 2, 1) := by decide +kernel
theorem dX12_firstFit_12 : decode cX12_firstFit 12 = .ok (.if_icmp .ge 26, 3) := by decide +kernel
theorem dX12_firstFit_15 : decode cX12_firstFit 15 = .ok (.aload_n 0, 1) := by decide +kernel
theorem dX12_firstFit_16 : decode cX12_firstFit 16 = .ok (.iload_n 2, 1) := by decide +kernel
theorem dX12_firstFit_17 : decode cX12_firstFit 17 = .ok (.iload_n 3, 1) := by decide +kernel
theorem dX12_firstFit_18 : decode cX12_firstFit 18 = .ok (.iload_n 1, 1) := by decide +kernel
theorem dX12_firstFit_19 : decode cX12_firstFit 19 = .ok (.invokevirtual 498, 3) := by decide +kernel
theorem dX12_firstFit_22 : decode cX12_firstFit 22 = .ok (.ifCond .eq 10, 3) := by decide +kernel
theorem dX12_firstFit_25 : decode cX12_firstFit 25 = .ok (.bipush 10, 2) := by decide +kernel
theorem dX12_firstFit_27 : decode cX12_firstFit 27 = .ok (.iload_n 2, 1) := by decide +kernel
theorem dX12_firstFit_28 : decode cX12_firstFit 28 = .ok (.imul, 1) := by decide +kernel
theorem dX12_firstFit_29 : decode cX12_firstFit 29 = .ok (.iload_n 3, 1) := by decide +kernel
theorem dX12_firstFit_30 : decode cX12_firstFit 30 = .ok (.iadd, 1) := by decide +kernel
theorem dX12_firstFit_31 : decode cX12_firstFit 31 = .ok (.ireturn, 1) := by decide +kernel
theorem dX12_firstFit_32 : decode cX12_firstFit 32 = .ok (.iinc 3 1, 3) := by decide +kernel
theorem dX12_firstFit_35 : decode cX12_firstFit 35 = .ok (.goto (-25), 3) := by decide +kernel
theorem dX12_firstFit_38 : decode cX12_firstFit 38 = .ok (.iinc 2 1, 3) := by decide +kernel
theorem dX12_firstFit_41 : decode cX12_firstFit 41 = .ok (.goto (-39), 3) := by decide +kernel
theorem dX12_firstFit_44 : decode cX12_firstFit 44 = .ok (.bipush (-2), 2) := by decide +kernel
theorem dX12_firstFit_46 : decode cX12_firstFit 46 = .ok (.ireturn, 1) := by decide +kernel
theorem dX12_fits_0 : decode cX12_fits 0 = .ok (.iload_n 1, 1) := by decide +kernel
theorem dX12_fits_1 : decode cX12_fits 1 = .ok (.iconst 0, 1) := by decide +kernel
theorem dX12_fits_2 : decode cX12_fits 2 = .ok (.aload_n 0, 1) := by decide +kernel
theorem dX12_fits_3 : decode cX12_fits 3 = .ok (.getfield 274, 3) := by decide +kernel
theorem dX12_fits_6 : decode cX12_fits 6 = .ok (.invokestatic 330, 3) := by decide +kernel
theorem dX12_fits_9 : decode cX12_fits 9 = .ok (.ifCond .eq 12, 3) := by decide +kernel
theorem dX12_fits_12 : decode cX12_fits 12 = .ok (.iload_n 2, 1) := by decide +kernel
theorem dX12_fits_13 : decode cX12_fits 13 = .ok (.iconst 0, 1) := by decide +kernel
theorem dX12_fits_14 : decode cX12_fits 14 = .ok (.iconst 1, 1) := by decide +kernel
theorem dX12_fits_15 : decode cX12_fits 15 = .ok (.invokestatic 330, 3) := by decide +kernel
theorem dX12_fits_18 : decode cX12_fits 18 = .ok (.ifCond .ne 5, 3) := by decide +kernel
theorem dX12_fits_21 : decode cX12_fits 21 = .ok (.iconst (-1), 1) := by decide +kernel
theorem dX12_fits_22 : decode cX12_fits 22 = .ok (.ireturn, 1) := by decide +kernel
theorem dX12_fits_23 : decode cX12_fits 23 = .ok (.iload_n 2, 1) := by decide +kernel
theorem dX12_fits_24 : decode cX12_fits 24 = .ok (.ifCond .ne 12, 3) := by decide +kernel
theorem dX12_fits_27 : decode cX12_fits 27 = .ok (.aload_n 0, 1) := by decide +kernel
theorem dX12_fits_28 : decode cX12_fits 28 = .ok (.iload_n 1, 1) := by decide +kernel
theorem dX12_fits_29 : decode cX12_fits 29 = .ok (.iconst (-1), 1) := by decide +kernel
theorem dX12_fits_30 : decode cX12_fits 30 = .ok (.invokevirtual 501, 3) := by decide +kernel
theorem dX12_fits_33 : decode cX12_fits 33 = .ok (.goto 8, 3) := by decide +kernel
theorem dX12_fits_36 : decode cX12_fits 36 = .ok (.aload_n 0, 1) := by decide +kernel
theorem dX12_fits_37 : decode cX12_fits 37 = .ok (.iload_n 1, 1) := by decide +kernel
theorem dX12_fits_38 : decode cX12_fits 38 = .ok (.invokevirtual 504, 3) := by decide +kernel
theorem dX12_fits_41 : decode cX12_fits 41 = .ok (.ireturn, 1) := by decide +kernel
theorem dX12_listen_0 : decode cX12_listen 0 = .ok (.iload_n 1, 1) := by decide +kernel
theorem dX12_listen_1 : decode cX12_listen 1 = .ok (.iconst 0, 1) := by decide +kernel
theorem dX12_listen_2 : decode cX12_listen 2 = .ok (.aload_n 0, 1) := by decide +kernel
theorem dX12_listen_3 : decode cX12_listen 3 = .ok (.getfield 274, 3) := by decide +kernel
theorem dX12_listen_6 : decode cX12_listen 6 = .ok (.invokestatic 330, 3) := by decide +kernel
theorem dX12_listen_9 : decode cX12_listen 9 = .ok (.ifCond .ne 5, 3) := by decide +kernel
theorem dX12_listen_12 : decode cX12_listen 12 = .ok (.iconst (-1), 1) := by decide +kernel
theorem dX12_listen_13 : decode cX12_listen 13 = .ok (.ireturn, 1) := by decide +kernel
theorem dX12_listen_14 : decode cX12_listen 14 = .ok (.aload_n 0, 1) := by decide +kernel
theorem dX12_listen_15 : decode cX12_listen 15 = .ok (.iload_n 1, 1) := by decide +kernel
theorem dX12_listen_16 : decode cX12_listen 16 = .ok (.iconst (-1), 1) := by decide +kernel
theorem dX12_listen_17 : decode cX12_listen 17 = .ok (.invokevirtual 501, 3) := by decide +kernel
theorem dX12_listen_20 : decode cX12_listen 20 = .ok (.istore_n 2, 1) := by decide +kernel
theorem dX12_listen_21 : decode cX12_listen 21 = .ok (.bipush (-2), 2) := by decide +kernel
theorem dX12_listen_23 : decode cX12_listen 23 = .ok (.istore_n 3, 1) := by decide +kernel
theorem dX12_listen_24 : decode cX12_listen 24 = .ok (.iconst 0, 1) := by decide +kernel
theorem dX12_listen_25 : decode cX12_listen 25 = .ok (.istore 4, 2) := by decide +kernel
theorem dX12_listen_27 : decode cX12_listen 27 = .ok (.iconst 0, 1) := by decide +kernel
theorem dX12_listen_28 : decode cX12_listen 28 = .ok (.istore 5, 2) := by decide +kernel
theorem dX12_listen_30 : decode cX12_listen 30 = .ok (.iload 5, 2) := by decide +kernel
theorem dX12_listen_32 : decode cX12_listen 32 = .ok (.bipush 60, 2) := by decide +kernel
theorem dX12_listen_34 : decode cX12_listen 34 = .ok (.if_icmp .ge 63, 3) := by decide +kernel
theorem dX12_listen_37 : decode cX12_listen 37 = .ok (.iload_n 2, 1) := by decide +kernel
theorem dX12_listen_38 : decode cX12_listen 38 = .ok (.ifCond .le 59, 3) := by decide +kernel
theorem dX12_listen_41 : decode cX12_listen 41 = .ok (.aload_n 0, 1) := by decide +kernel
theorem dX12_listen_42 : decode cX12_listen 42 = .ok (.iload_n 1, 1) := by decide +kernel
theorem dX12_listen_43 : decode cX12_listen 43 = .ok (.iload 5, 2) := by decide +kernel
theorem dX12_listen_45 : decode cX12_listen 45 = .ok (.invokevirtual 501, 3) := by decide +kernel
theorem dX12_listen_48 : decode cX12_listen 48 = .ok (.istore 6, 2) := by decide +kernel
theorem dX12_listen_50 : decode cX12_listen 50 = .ok (.iload 6, 2) := by decide +kernel
theorem dX12_listen_52 : decode cX12_listen 52 = .ok (.iload_n 2, 1) := by decide +kernel
theorem dX12_listen_53 : decode cX12_listen 53 = .ok (.iload 6, 2) := by decide +kernel
theorem dX12_listen_55 : decode cX12_listen 55 = .ok (.isub, 1) := by decide +kernel
theorem dX12_listen_56 : decode cX12_listen 56 = .ok (.if_icmp .le 8, 3) := by decide +kernel
theorem dX12_listen_59 : decode cX12_listen 59 = .ok (.iload 6, 2) := by decide +kernel
theorem dX12_listen_61 : decode cX12_listen 61 = .ok (.goto 7, 3) := by decide +kernel
theorem dX12_listen_64 : decode cX12_listen 64 = .ok (.iload_n 2, 1) := by decide +kernel
theorem dX12_listen_65 : decode cX12_listen 65 = .ok (.iload 6, 2) := by decide +kernel
theorem dX12_listen_67 : decode cX12_listen 67 = .ok (.isub, 1) := by decide +kernel
theorem dX12_listen_68 : decode cX12_listen 68 = .ok (.istore 7, 2) := by decide +kernel
theorem dX12_listen_70 : decode cX12_listen 70 = .ok (.iload_n 3, 1) := by decide +kernel
theorem dX12_listen_71 : decode cX12_listen 71 = .ok (.ifCond .lt 13, 3) := by decide +kernel
theorem dX12_listen_74 : decode cX12_listen 74 = .ok (.iload 7, 2) := by decide +kernel
theorem dX12_listen_76 : decode cX12_listen 76 = .ok (.iload 4, 2) := by decide +kernel
theorem dX12_listen_78 : decode cX12_listen 78 = .ok (.if_icmp .lt 6, 3) := by decide +kernel
theorem dX12_listen_81 : decode cX12_listen 81 = .ok (.goto 10, 3) := by decide +kernel
theorem dX12_listen_84 : decode cX12_listen 84 = .ok (.iload 5, 2) := by decide +kernel
theorem dX12_listen_86 : decode cX12_listen 86 = .ok (.istore_n 3, 1) := by decide +kernel
theorem dX12_listen_87 : decode cX12_listen 87 = .ok (.iload 7, 2) := by decide +kernel
theorem dX12_listen_89 : decode cX12_listen 89 = .ok (.istore 4, 2) := by decide +kernel
theorem dX12_listen_91 : decode cX12_listen 91 = .ok (.iinc 5 1, 3) := by decide +kernel
theorem dX12_listen_94 : decode cX12_listen 94 = .ok (.goto (-64), 3) := by decide +kernel
theorem dX12_listen_97 : decode cX12_listen 97 = .ok (.iload_n 3, 1) := by decide +kernel
theorem dX12_listen_98 : decode cX12_listen 98 = .ok (.ireturn, 1) := by decide +kernel
theorem dX12_hold_0 : decode cX12_hold 0 = .ok (.iload_n 1, 1) := by decide +kernel
theorem dX12_hold_1 : decode cX12_hold 1 = .ok (.iconst 0, 1) := by decide +kernel
theorem dX12_hold_2 : decode cX12_hold 2 = .ok (.iconst 2, 1) := by decide +kernel
theorem dX12_hold_3 : decode cX12_hold 3 = .ok (.invokestatic 330, 3) := by decide +kernel
theorem dX12_hold_6 : decode cX12_hold 6 = .ok (.ifCond .ne 5, 3) := by decide +kernel
theorem dX12_hold_9 : decode cX12_hold 9 = .ok (.iconst 0, 1) := by decide +kernel
theorem dX12_hold_10 : decode cX12_hold 10 = .ok (.ireturn, 1) := by decide +kernel
theorem dX12_hold_11 : decode cX12_hold 11 = .ok (.aload_n 0, 1) := by decide +kernel
theorem dX12_hold_12 : decode cX12_hold 12 = .ok (.getfield 158, 3) := by decide +kernel
theorem dX12_hold_15 : decode cX12_hold 15 = .ok (.iload_n 1, 1) := by decide +kernel
theorem dX12_hold_16 : decode cX12_hold 16 = .ok (.iconst 1, 1) := by decide +kernel
theorem dX12_hold_17 : decode cX12_hold 17 = .ok (.bastore, 1) := by decide +kernel
theorem dX12_hold_18 : decode cX12_hold 18 = .ok (.iconst 0, 1) := by decide +kernel
theorem dX12_hold_19 : decode cX12_hold 19 = .ok (.istore_n 2, 1) := by decide +kernel
theorem dX12_hold_20 : decode cX12_hold 20 = .ok (.iload_n 2, 1) := by decide +kernel
theorem dX12_hold_21 : decode cX12_hold 21 = .ok (.bipush 63, 2) := by decide +kernel
theorem dX12_hold_23 : decode cX12_hold 23 = .ok (.if_icmp .ge 26, 3) := by decide +kernel
theorem dX12_hold_26 : decode cX12_hold 26 = .ok (.aload_n 0, 1) := by decide +kernel
theorem dX12_hold_27 : decode cX12_hold 27 = .ok (.getfield 161, 3) := by decide +kernel
theorem dX12_hold_30 : decode cX12_hold 30 = .ok (.bipush 63, 2) := by decide +kernel
theorem dX12_hold_32 : decode cX12_hold 32 = .ok (.iload_n 1, 1) := by decide +kernel
theorem dX12_hold_33 : decode cX12_hold 33 = .ok (.imul, 1) := by decide +kernel
theorem dX12_hold_34 : decode cX12_hold 34 = .ok (.iload_n 2, 1) := by decide +kernel
theorem dX12_hold_35 : decode cX12_hold 35 = .ok (.iadd, 1) := by decide +kernel
theorem dX12_hold_36 : decode cX12_hold 36 = .ok (.aload_n 0, 1) := by decide +kernel
theorem dX12_hold_37 : decode cX12_hold 37 = .ok (.getfield 125, 3) := by decide +kernel
theorem dX12_hold_40 : decode cX12_hold 40 = .ok (.iload_n 2, 1) := by decide +kernel
theorem dX12_hold_41 : decode cX12_hold 41 = .ok (.iaload, 1) := by decide +kernel
theorem dX12_hold_42 : decode cX12_hold 42 = .ok (.iastore, 1) := by decide +kernel
theorem dX12_hold_43 : decode cX12_hold 43 = .ok (.iinc 2 1, 3) := by decide +kernel
theorem dX12_hold_46 : decode cX12_hold 46 = .ok (.goto (-26), 3) := by decide +kernel
theorem dX12_hold_49 : decode cX12_hold 49 = .ok (.iconst 1, 1) := by decide +kernel
theorem dX12_hold_50 : decode cX12_hold 50 = .ok (.ireturn, 1) := by decide +kernel
theorem dX12_restore_0 : decode cX12_restore 0 = .ok (.iload_n 1, 1) := by decide +kernel
theorem dX12_restore_1 : decode cX12_restore 1 = .ok (.iconst 0, 1) := by decide +kernel
theorem dX12_restore_2 : decode cX12_restore 2 = .ok (.iconst 2, 1) := by decide +kernel
theorem dX12_restore_3 : decode cX12_restore 3 = .ok (.invokestatic 330, 3) := by decide +kernel
theorem dX12_restore_6 : decode cX12_restore 6 = .ok (.ifCond .eq 12, 3) := by decide +kernel
theorem dX12_restore_9 : decode cX12_restore 9 = .ok (.aload_n 0, 1) := by decide +kernel
theorem dX12_restore_10 : decode cX12_restore 10 = .ok (.getfield 158, 3) := by decide +kernel
theorem dX12_restore_13 : decode cX12_restore 13 = .ok (.iload_n 1, 1) := by decide +kernel
theorem dX12_restore_14 : decode cX12_restore 14 = .ok (.baload, 1) := by decide +kernel
theorem dX12_restore_15 : decode cX12_restore 15 = .ok (.ifCond .ne 5, 3) := by decide +kernel
theorem dX12_restore_18 : decode cX12_restore 18 = .ok (.iconst 0, 1) := by decide +kernel
theorem dX12_restore_19 : decode cX12_restore 19 = .ok (.ireturn, 1) := by decide +kernel
theorem dX12_restore_20 : decode cX12_restore 20 = .ok (.iconst 0, 1) := by decide +kernel
theorem dX12_restore_21 : decode cX12_restore 21 = .ok (.istore_n 2, 1) := by decide +kernel
theorem dX12_restore_22 : decode cX12_restore 22 = .ok (.iload_n 2, 1) := by decide +kernel
theorem dX12_restore_23 : decode cX12_restore 23 = .ok (.bipush 63, 2) := by decide +kernel
theorem dX12_restore_25 : decode cX12_restore 25 = .ok (.if_icmp .ge 26, 3) := by decide +kernel
theorem dX12_restore_28 : decode cX12_restore 28 = .ok (.aload_n 0, 1) := by decide +kernel
theorem dX12_restore_29 : decode cX12_restore 29 = .ok (.getfield 125, 3) := by decide +kernel
theorem dX12_restore_32 : decode cX12_restore 32 = .ok (.iload_n 2, 1) := by decide +kernel
theorem dX12_restore_33 : decode cX12_restore 33 = .ok (.aload_n 0, 1) := by decide +kernel
theorem dX12_restore_34 : decode cX12_restore 34 = .ok (.getfield 161, 3) := by decide +kernel
theorem dX12_restore_37 : decode cX12_restore 37 = .ok (.bipush 63, 2) := by decide +kernel
theorem dX12_restore_39 : decode cX12_restore 39 = .ok (.iload_n 1, 1) := by decide +kernel
theorem dX12_restore_40 : decode cX12_restore 40 = .ok (.imul, 1) := by decide +kernel
theorem dX12_restore_41 : decode cX12_restore 41 = .ok (.iload_n 2, 1) := by decide +kernel
theorem dX12_restore_42 : decode cX12_restore 42 = .ok (.iadd, 1) := by decide +kernel
theorem dX12_restore_43 : decode cX12_restore 43 = .ok (.iaload, 1) := by decide +kernel
theorem dX12_restore_44 : decode cX12_restore 44 = .ok (.iastore, 1) := by decide +kernel
theorem dX12_restore_45 : decode cX12_restore 45 = .ok (.iinc 2 1, 3) := by decide +kernel
theorem dX12_restore_48 : decode cX12_restore 48 = .ok (.goto (-26), 3) := by decide +kernel
theorem dX12_restore_51 : decode cX12_restore 51 = .ok (.aload_n 0, 1) := by decide +kernel
theorem dX12_restore_52 : decode cX12_restore 52 = .ok (.iconst 0, 1) := by decide +kernel
theorem dX12_restore_53 : decode cX12_restore 53 = .ok (.putfield 271, 3) := by decide +kernel
theorem dX12_restore_56 : decode cX12_restore 56 = .ok (.iconst 1, 1) := by decide +kernel
theorem dX12_restore_57 : decode cX12_restore 57 = .ok (.ireturn, 1) := by decide +kernel
theorem dX12_count_0 : decode cX12_count 0 = .ok (.aload_n 0, 1) := by decide +kernel
theorem dX12_count_1 : decode cX12_count 1 = .ok (.invokevirtual 346, 3) := by decide +kernel
theorem dX12_count_4 : decode cX12_count 4 = .ok (.iconst 0, 1) := by decide +kernel
theorem dX12_count_5 : decode cX12_count 5 = .ok (.istore_n 2, 1) := by decide +kernel
theorem dX12_count_6 : decode cX12_count 6 = .ok (.iload_n 1, 1) := by decide +kernel
theorem dX12_count_7 : decode cX12_count 7 = .ok (.tableswitch 363 0 19 #[93, 103, 113, 123, 131, 139, 144, 152, 157, 162, 167, 172, 217, 229, 269, 277, 282, 301, 312, 353], 93) := by decide +kernel
theorem dX12_count_100 : decode cX12_count 100 = .ok (.aload_n 0, 1) := by decide +kernel
theorem dX12_count_101 : decode cX12_count 101 = .ok (.getfield 43, 3) := by decide +kernel
theorem dX12_count_104 : decode cX12_count 104 = .ok (.aload_n 0, 1) := by decide +kernel
theorem dX12_count_105 : decode cX12_count 105 = .ok (.getfield 245, 3) := by decide +kernel
theorem dX12_count_108 : decode cX12_count 108 = .ok (.iaload, 1) := by decide +kernel
theorem dX12_count_109 : decode cX12_count 109 = .ok (.ireturn, 1) := by decide +kernel
theorem dX12_count_110 : decode cX12_count 110 = .ok (.aload_n 0, 1) := by decide +kernel
theorem dX12_count_111 : decode cX12_count 111 = .ok (.getfield 46, 3) := by decide +kernel
theorem dX12_count_114 : decode cX12_count 114 = .ok (.aload_n 0, 1) := by decide +kernel
theorem dX12_count_115 : decode cX12_count 115 = .ok (.getfield 245, 3) := by decide +kernel
theorem dX12_count_118 : decode cX12_count 118 = .ok (.iaload, 1) := by decide +kernel
theorem dX12_count_119 : decode cX12_count 119 = .ok (.ireturn, 1) := by decide +kernel
theorem dX12_count_120 : decode cX12_count 120 = .ok (.aload_n 0, 1) := by decide +kernel
theorem dX12_count_121 : decode cX12_count 121 = .ok (.getfield 64, 3) := by decide +kernel
theorem dX12_count_124 : decode cX12_count 124 = .ok (.aload_n 0, 1) := by decide +kernel
theorem dX12_count_125 : decode cX12_count 125 = .ok (.getfield 245, 3) := by decide +kernel
theorem dX12_count_128 : decode cX12_count 128 = .ok (.iaload, 1) := by decide +kernel
theorem dX12_count_129 : decode cX12_count 129 = .ok (.ireturn, 1) := by decide +kernel
theorem dX12_count_130 : decode cX12_count 130 = .ok (.aload_n 0, 1) := by decide +kernel
theorem dX12_count_131 : decode cX12_count 131 = .ok (.getfield 128, 3) := by decide +kernel
theorem dX12_count_134 : decode cX12_count 134 = .ok (.bipush 61, 2) := by decide +kernel
theorem dX12_count_136 : decode cX12_count 136 = .ok (.iaload, 1) := by decide +kernel
theorem dX12_count_137 : decode cX12_count 137 = .ok (.ireturn, 1) := by decide +kernel
theorem dX12_count_138 : decode cX12_count 138 = .ok (.aload_n 0, 1) := by decide +kernel
theorem dX12_count_139 : decode cX12_count 139 = .ok (.getfield 128, 3) := by decide +kernel
theorem dX12_count_142 : decode cX12_count 142 = .ok (.bipush 62, 2) := by decide +kernel
theorem dX12_count_144 : decode cX12_count 144 = .ok (.iaload, 1) := by decide +kernel
theorem dX12_count_145 : decode cX12_count 145 = .ok (.ireturn, 1) := by decide +kernel
theorem dX12_count_146 : decode cX12_count 146 = .ok (.aload_n 0, 1) := by decide +kernel
theorem dX12_count_147 : decode cX12_count 147 = .ok (.invokevirtual 359, 3) := by decide +kernel
theorem dX12_count_150 : decode cX12_count 150 = .ok (.ireturn, 1) := by decide +kernel
theorem dX12_count_151 : decode cX12_count 151 = .ok (.aload_n 0, 1) := by decide +kernel
theorem dX12_count_152 : decode cX12_count 152 = .ok (.getfield 128, 3) := by decide +kernel
theorem dX12_count_155 : decode cX12_count 155 = .ok (.bipush 50, 2) := by decide +kernel
theorem dX12_count_157 : decode cX12_count 157 = .ok (.iaload, 1) := by decide +kernel
theorem dX12_count_158 : decode cX12_count 158 = .ok (.ireturn, 1) := by decide +kernel
theorem dX12_count_159 : decode cX12_count 159 = .ok (.aload_n 0, 1) := by decide +kernel
theorem dX12_count_160 : decode cX12_count 160 = .ok (.invokevirtual 477, 3) := by decide +kernel
theorem dX12_count_163 : decode cX12_count 163 = .ok (.ireturn, 1) := by decide +kernel
theorem dX12_count_164 : decode cX12_count 164 = .ok (.aload_n 0, 1) := by decide +kernel
theorem dX12_count_165 : decode cX12_count 165 = .ok (.getfield 178, 3) := by decide +kernel
theorem dX12_count_168 : decode cX12_count 168 = .ok (.ireturn, 1) := by decide +kernel
theorem dX12_count_169 : decode cX12_count 169 = .ok (.aload_n 0, 1) := by decide +kernel
theorem dX12_count_170 : decode cX12_count 170 = .ok (.getfield 271, 3) := by decide +kernel
theorem dX12_count_173 : decode cX12_count 173 = .ok (.ireturn, 1) := by decide +kernel
theorem dX12_count_174 : decode cX12_count 174 = .ok (.aload_n 0, 1) := by decide +kernel
theorem dX12_count_175 : decode cX12_count 175 = .ok (.getfield 274, 3) := by decide +kernel
theorem dX12_count_178 : decode cX12_count 178 = .ok (.ireturn, 1) := by decide +kernel
theorem dX12_count_179 : decode cX12_count 179 = .ok (.aload_n 0, 1) := by decide +kernel
theorem dX12_count_180 : decode cX12_count 180 = .ok (.getfield 158, 3) := by decide +kernel
theorem dX12_count_183 : decode cX12_count 183 = .ok (.iconst 0, 1) := by decide +kernel
theorem dX12_count_184 : decode cX12_count 184 = .ok (.baload, 1) := by decide +kernel
theorem dX12_count_185 : decode cX12_count 185 = .ok (.ifCond .eq 7, 3) := by decide +kernel
theorem dX12_count_188 : decode cX12_count 188 = .ok (.iconst 1, 1) := by decide +kernel
theorem dX12_count_189 : decode cX12_count 189 = .ok (.goto 4, 3) := by decide +kernel
theorem dX12_count_192 : decode cX12_count 192 = .ok (.iconst 0, 1) := by decide +kernel
theorem dX12_count_193 : decode cX12_count 193 = .ok (.aload_n 0, 1) := by decide +kernel
theorem dX12_count_194 : decode cX12_count 194 = .ok (.getfield 158, 3) := by decide +kernel
theorem dX12_count_197 : decode cX12_count 197 = .ok (.iconst 1, 1) := by decide +kernel
theorem dX12_count_198 : decode cX12_count 198 = .ok (.baload, 1) := by decide +kernel
theorem dX12_count_199 : decode cX12_count 199 = .ok (.ifCond .eq 7, 3) := by decide +kernel
theorem dX12_count_202 : decode cX12_count 202 = .ok (.iconst 1, 1) := by decide +kernel
theorem dX12_count_203 : decode cX12_count 203 = .ok (.goto 4, 3) := by decide +kernel
theorem dX12_count_206 : decode cX12_count 206 = .ok (.iconst 0, 1) := by decide +kernel
theorem dX12_count_207 : decode cX12_count 207 = .ok (.iadd, 1) := by decide +kernel
theorem dX12_count_208 : decode cX12_count 208 = .ok (.aload_n 0, 1) := by decide +kernel
theorem dX12_count_209 : decode cX12_count 209 = .ok (.getfield 158, 3) := by decide +kernel
theorem dX12_count_212 : decode cX12_count 212 = .ok (.iconst 2, 1) := by decide +kernel
theorem dX12_count_213 : decode cX12_count 213 = .ok (.baload, 1) := by decide +kernel
theorem dX12_count_214 : decode cX12_count 214 = .ok (.ifCond .eq 7, 3) := by decide +kernel
theorem dX12_count_217 : decode cX12_count 217 = .ok (.iconst 1, 1) := by decide +kernel
theorem dX12_count_218 : decode cX12_count 218 = .ok (.goto 4, 3) := by decide +kernel
theorem dX12_count_221 : decode cX12_count 221 = .ok (.iconst 0, 1) := by decide +kernel
theorem dX12_count_222 : decode cX12_count 222 = .ok (.iadd, 1) := by decide +kernel
theorem dX12_count_223 : decode cX12_count 223 = .ok (.ireturn, 1) := by decide +kernel
theorem dX12_count_224 : decode cX12_count 224 = .ok (.aload_n 0, 1) := by decide +kernel
theorem dX12_count_225 : decode cX12_count 225 = .ok (.aload_n 0, 1) := by decide +kernel
theorem dX12_count_226 : decode cX12_count 226 = .ok (.getfield 128, 3) := by decide +kernel
theorem dX12_count_229 : decode cX12_count 229 = .ok (.bipush 61, 2) := by decide +kernel
theorem dX12_count_231 : decode cX12_count 231 = .ok (.iaload, 1) := by decide +kernel
theorem dX12_count_232 : decode cX12_count 232 = .ok (.invokevirtual 421, 3) := by decide +kernel
theorem dX12_count_235 : decode cX12_count 235 = .ok (.ireturn, 1) := by decide +kernel
theorem dX12_count_236 : decode cX12_count 236 = .ok (.aload_n 0, 1) := by decide +kernel
theorem dX12_count_237 : decode cX12_count 237 = .ok (.getfield 128, 3) := by decide +kernel
theorem dX12_count_240 : decode cX12_count 240 = .ok (.bipush 56, 2) := by decide +kernel
theorem dX12_count_242 : decode cX12_count 242 = .ok (.iaload, 1) := by decide +kernel
theorem dX12_count_243 : decode cX12_count 243 = .ok (.aload_n 0, 1) := by decide +kernel
theorem dX12_count_244 : decode cX12_count 244 = .ok (.getfield 128, 3) := by decide +kernel
theorem dX12_count_247 : decode cX12_count 247 = .ok (.bipush 57, 2) := by decide +kernel
theorem dX12_count_249 : decode cX12_count 249 = .ok (.iaload, 1) := by decide +kernel
theorem dX12_count_250 : decode cX12_count 250 = .ok (.iadd, 1) := by decide +kernel
theorem dX12_count_251 : decode cX12_count 251 = .ok (.aload_n 0, 1) := by decide +kernel
theorem dX12_count_252 : decode cX12_count 252 = .ok (.getfield 128, 3) := by decide +kernel
theorem dX12_count_255 : decode cX12_count 255 = .ok (.bipush 58, 2) := by decide +kernel
theorem dX12_count_257 : decode cX12_count 257 = .ok (.iaload, 1) := by decide +kernel
theorem dX12_count_258 : decode cX12_count 258 = .ok (.iadd, 1) := by decide +kernel
theorem dX12_count_259 : decode cX12_count 259 = .ok (.aload_n 0, 1) := by decide +kernel
theorem dX12_count_260 : decode cX12_count 260 = .ok (.getfield 128, 3) := by decide +kernel
theorem dX12_count_263 : decode cX12_count 263 = .ok (.bipush 59, 2) := by decide +kernel
theorem dX12_count_265 : decode cX12_count 265 = .ok (.iaload, 1) := by decide +kernel
theorem dX12_count_266 : decode cX12_count 266 = .ok (.iadd, 1) := by decide +kernel
theorem dX12_count_267 : decode cX12_count 267 = .ok (.aload_n 0, 1) := by decide +kernel
theorem dX12_count_268 : decode cX12_count 268 = .ok (.getfield 128, 3) := by decide +kernel
theorem dX12_count_271 : decode cX12_count 271 = .ok (.bipush 60, 2) := by decide +kernel
theorem dX12_count_273 : decode cX12_count 273 = .ok (.iaload, 1) := by decide +kernel
theorem dX12_count_274 : decode cX12_count 274 = .ok (.iadd, 1) := by decide +kernel
theorem dX12_count_275 : decode cX12_count 275 = .ok (.ireturn, 1) := by decide +kernel
theorem dX12_count_276 : decode cX12_count 276 = .ok (.aload_n 0, 1) := by decide +kernel
theorem dX12_count_277 : decode cX12_count 277 = .ok (.invokevirtual 359, 3) := by decide +kernel
theorem dX12_count_280 : decode cX12_count 280 = .ok (.invokestatic 362, 3) := by decide +kernel
theorem dX12_count_283 : decode cX12_count 283 = .ok (.ireturn, 1) := by decide +kernel
theorem dX12_count_284 : decode cX12_count 284 = .ok (.aload_n 0, 1) := by decide +kernel
theorem dX12_count_285 : decode cX12_count 285 = .ok (.invokevirtual 507, 3) := by decide +kernel
theorem dX12_count_288 : decode cX12_count 288 = .ok (.ireturn, 1) := by decide +kernel
theorem dX12_count_289 : decode cX12_count 289 = .ok (.aload_n 0, 1) := by decide +kernel
theorem dX12_count_290 : decode cX12_count 290 = .ok (.invokevirtual 427, 3) := by decide +kernel
theorem dX12_count_293 : decode cX12_count 293 = .ok (.aload_n 0, 1) := by decide +kernel
theorem dX12_count_294 : decode cX12_count 294 = .ok (.invokevirtual 359, 3) := by decide +kernel
theorem dX12_count_297 : decode cX12_count 297 = .ok (.iconst (-1), 1) := by decide +kernel
theorem dX12_count_298 : decode cX12_count 298 = .ok (.ixor, 1) := by decide +kernel
theorem dX12_count_299 : decode cX12_count 299 = .ok (.iand, 1) := by decide +kernel
theorem dX12_count_300 : decode cX12_count 300 = .ok (.aload_n 0, 1) := by decide +kernel
theorem dX12_count_301 : decode cX12_count 301 = .ok (.invokevirtual 477, 3) := by decide +kernel
theorem dX12_count_304 : decode cX12_count 304 = .ok (.iconst (-1), 1) := by decide +kernel
theorem dX12_count_305 : decode cX12_count 305 = .ok (.ixor, 1) := by decide +kernel
theorem dX12_count_306 : decode cX12_count 306 = .ok (.iand, 1) := by decide +kernel
theorem dX12_count_307 : decode cX12_count 307 = .ok (.ireturn, 1) := by decide +kernel
theorem dX12_count_308 : decode cX12_count 308 = .ok (.aload_n 0, 1) := by decide +kernel
theorem dX12_count_309 : decode cX12_count 309 = .ok (.getfield 128, 3) := by decide +kernel
theorem dX12_count_312 : decode cX12_count 312 = .ok (.bipush 50, 2) := by decide +kernel
theorem dX12_count_314 : decode cX12_count 314 = .ok (.iaload, 1) := by decide +kernel
theorem dX12_count_315 : decode cX12_count 315 = .ok (.invokestatic 362, 3) := by decide +kernel
theorem dX12_count_318 : decode cX12_count 318 = .ok (.ireturn, 1) := by decide +kernel
theorem dX12_count_319 : decode cX12_count 319 = .ok (.iconst 0, 1) := by decide +kernel
theorem dX12_count_320 : decode cX12_count 320 = .ok (.istore_n 3, 1) := by decide +kernel
theorem dX12_count_321 : decode cX12_count 321 = .ok (.iload_n 3, 1) := by decide +kernel
theorem dX12_count_322 : decode cX12_count 322 = .ok (.aload_n 0, 1) := by decide +kernel
theorem dX12_count_323 : decode cX12_count 323 = .ok (.getfield 64, 3) := by decide +kernel
theorem dX12_count_326 : decode cX12_count 326 = .ok (.aload_n 0, 1) := by decide +kernel
theorem dX12_count_327 : decode cX12_count 327 = .ok (.getfield 245, 3) := by decide +kernel
theorem dX12_count_330 : decode cX12_count 330 = .ok (.iaload, 1) := by decide +kernel
theorem dX12_count_331 : decode cX12_count 331 = .ok (.if_icmp .ge 27, 3) := by decide +kernel
theorem dX12_count_334 : decode cX12_count 334 = .ok (.aload_n 0, 1) := by decide +kernel
theorem dX12_count_335 : decode cX12_count 335 = .ok (.getfield 128, 3) := by decide +kernel
theorem dX12_count_338 : decode cX12_count 338 = .ok (.bipush 56, 2) := by decide +kernel
theorem dX12_count_340 : decode cX12_count 340 = .ok (.iload_n 3, 1) := by decide +kernel
theorem dX12_count_341 : decode cX12_count 341 = .ok (.iadd, 1) := by decide +kernel
theorem dX12_count_342 : decode cX12_count 342 = .ok (.iaload, 1) := by decide +kernel
theorem dX12_count_343 : decode cX12_count 343 = .ok (.ifCond .le 9, 3) := by decide +kernel
theorem dX12_count_346 : decode cX12_count 346 = .ok (.iload_n 2, 1) := by decide +kernel
theorem dX12_count_347 : decode cX12_count 347 = .ok (.iconst 1, 1) := by decide +kernel
theorem dX12_count_348 : decode cX12_count 348 = .ok (.iload_n 3, 1) := by decide +kernel
theorem dX12_count_349 : decode cX12_count 349 = .ok (.ishl, 1) := by decide +kernel
theorem dX12_count_350 : decode cX12_count 350 = .ok (.ior, 1) := by decide +kernel
theorem dX12_count_351 : decode cX12_count 351 = .ok (.istore_n 2, 1) := by decide +kernel
theorem dX12_count_352 : decode cX12_count 352 = .ok (.iinc 3 1, 3) := by decide +kernel
theorem dX12_count_355 : decode cX12_count 355 = .ok (.goto (-34), 3) := by decide +kernel
theorem dX12_count_358 : decode cX12_count 358 = .ok (.iload_n 2, 1) := by decide +kernel
theorem dX12_count_359 : decode cX12_count 359 = .ok (.ireturn, 1) := by decide +kernel
theorem dX12_count_360 : decode cX12_count 360 = .ok (.aload_n 0, 1) := by decide +kernel
theorem dX12_count_361 : decode cX12_count 361 = .ok (.getfield 82, 3) := by decide +kernel
theorem dX12_count_364 : decode cX12_count 364 = .ok (.aload_n 0, 1) := by decide +kernel
theorem dX12_count_365 : decode cX12_count 365 = .ok (.getfield 245, 3) := by decide +kernel
theorem dX12_count_368 : decode cX12_count 368 = .ok (.iaload, 1) := by decide +kernel
theorem dX12_count_369 : decode cX12_count 369 = .ok (.ireturn, 1) := by decide +kernel
theorem dX12_count_370 : decode cX12_count 370 = .ok (.iconst (-1), 1) := by decide +kernel
theorem dX12_count_371 : decode cX12_count 371 = .ok (.ireturn, 1) := by decide +kernel
