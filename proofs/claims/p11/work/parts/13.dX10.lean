theorem dX10_init_0 : decode cX10_init 0 = .ok (.aload_n 0, 1) := by decide +kernel
theorem dX10_init_1 : decode cX10_init 1 = .ok (.invokespecial 3, 3) := by decide +kernel
theorem dX10_init_4 : decode cX10_init 4 = .ok (.aload_n 0, 1) := by decide +kernel
theorem dX10_init_5 : decode cX10_init 5 = .ok (.bipush 60, 2) := by decide +kernel
theorem dX10_init_7 : decode cX10_init 7 = .ok (.newarray .int, 2) := by decide +kernel
theorem dX10_init_9 : decode cX10_init 9 = .ok (.putfield 9, 3) := by decide +kernel
theorem dX10_init_12 : decode cX10_init 12 = .ok (.aload_n 0, 1) := by decide +kernel
theorem dX10_init_13 : decode cX10_init 13 = .ok (.bipush 101, 2) := by decide +kernel
theorem dX10_init_15 : decode cX10_init 15 = .ok (.newarray .int, 2) := by decide +kernel
theorem dX10_init_17 : decode cX10_init 17 = .ok (.putfield 15, 3) := by decide +kernel
theorem dX10_init_20 : decode cX10_init 20 = .ok (.aload_n 0, 1) := by decide +kernel
theorem dX10_init_21 : decode cX10_init 21 = .ok (.iconst 0, 1) := by decide +kernel
theorem dX10_init_22 : decode cX10_init 22 = .ok (.putfield 18, 3) := by decide +kernel
theorem dX10_init_25 : decode cX10_init 25 = .ok (.aload_n 0, 1) := by decide +kernel
theorem dX10_init_26 : decode cX10_init 26 = .ok (.iconst 0, 1) := by decide +kernel
theorem dX10_init_27 : decode cX10_init 27 = .ok (.putfield 22, 3) := by decide +kernel
theorem dX10_init_30 : decode cX10_init 30 = .ok (.aload_n 0, 1) := by decide +kernel
theorem dX10_init_31 : decode cX10_init 31 = .ok (.iconst (-1), 1) := by decide +kernel
theorem dX10_init_32 : decode cX10_init 32 = .ok (.putfield 25, 3) := by decide +kernel
theorem dX10_init_35 : decode cX10_init 35 = .ok (.aload_n 0, 1) := by decide +kernel
theorem dX10_init_36 : decode cX10_init 36 = .ok (.iconst (-1), 1) := by decide +kernel
theorem dX10_init_37 : decode cX10_init 37 = .ok (.putfield 28, 3) := by decide +kernel
theorem dX10_init_40 : decode cX10_init 40 = .ok (.aload_n 0, 1) := by decide +kernel
theorem dX10_init_41 : decode cX10_init 41 = .ok (.aload_n 1, 1) := by decide +kernel
theorem dX10_init_42 : decode cX10_init 42 = .ok (.putfield 31, 3) := by decide +kernel
theorem dX10_init_45 : decode cX10_init 45 = .ok (.return_, 1) := by decide +kernel
theorem dX10_look_0 : decode cX10_look 0 = .ok (.aload_n 0, 1) := by decide +kernel
theorem dX10_look_1 : decode cX10_look 1 = .ok (.aload_n 0, 1) := by decide +kernel
theorem dX10_look_2 : decode cX10_look 2 = .ok (.getfield 31, 3) := by decide +kernel
theorem dX10_look_5 : decode cX10_look 5 = .ok (.getfield 35, 3) := by decide +kernel
theorem dX10_look_8 : decode cX10_look 8 = .ok (.aload_n 1, 1) := by decide +kernel
theorem dX10_look_9 : decode cX10_look 9 = .ok (.getfield 40, 3) := by decide +kernel
theorem dX10_look_12 : decode cX10_look 12 = .ok (.iconst (-1), 1) := by decide +kernel
theorem dX10_look_13 : decode cX10_look 13 = .ok (.ixor, 1) := by decide +kernel
theorem dX10_look_14 : decode cX10_look 14 = .ok (.iand, 1) := by decide +kernel
theorem dX10_look_15 : decode cX10_look 15 = .ok (.putfield 18, 3) := by decide +kernel
theorem dX10_look_18 : decode cX10_look 18 = .ok (.aload_n 0, 1) := by decide +kernel
theorem dX10_look_19 : decode cX10_look 19 = .ok (.aload_n 1, 1) := by decide +kernel
theorem dX10_look_20 : decode cX10_look 20 = .ok (.getfield 45, 3) := by decide +kernel
theorem dX10_look_23 : decode cX10_look 23 = .ok (.putfield 22, 3) := by decide +kernel
theorem dX10_look_26 : decode cX10_look 26 = .ok (.aload_n 0, 1) := by decide +kernel
theorem dX10_look_27 : decode cX10_look 27 = .ok (.getfield 9, 3) := by decide +kernel
theorem dX10_look_30 : decode cX10_look 30 = .ok (.iconst 0, 1) := by decide +kernel
theorem dX10_look_31 : decode cX10_look 31 = .ok (.invokestatic 48, 3) := by decide +kernel
theorem dX10_look_34 : decode cX10_look 34 = .ok (.iconst 0, 1) := by decide +kernel
theorem dX10_look_35 : decode cX10_look 35 = .ok (.istore_n 2, 1) := by decide +kernel
theorem dX10_look_36 : decode cX10_look 36 = .ok (.aload_n 1, 1) := by decide +kernel
theorem dX10_look_37 : decode cX10_look 37 = .ok (.getfield 54, 3) := by decide +kernel
theorem dX10_look_40 : decode cX10_look 40 = .ok (.istore_n 3, 1) := by decide +kernel
theorem dX10_look_41 : decode cX10_look 41 = .ok (.iload_n 2, 1) := by decide +kernel
theorem dX10_look_42 : decode cX10_look 42 = .ok (.bipush 25, 2) := by decide +kernel
theorem dX10_look_44 : decode cX10_look 44 = .ok (.if_icmp .ge 77, 3) := by decide +kernel
theorem dX10_look_47 : decode cX10_look 47 = .ok (.iload_n 3, 1) := by decide +kernel
theorem dX10_look_48 : decode cX10_look 48 = .ok (.ifCond .eq 73, 3) := by decide +kernel
theorem dX10_look_51 : decode cX10_look 51 = .ok (.iload_n 3, 1) := by decide +kernel
theorem dX10_look_52 : decode cX10_look 52 = .ok (.invokestatic 57, 3) := by decide +kernel
theorem dX10_look_55 : decode cX10_look 55 = .ok (.istore 4, 2) := by decide +kernel
theorem dX10_look_57 : decode cX10_look 57 = .ok (.aload_n 1, 1) := by decide +kernel
theorem dX10_look_58 : decode cX10_look 58 = .ok (.iload 4, 2) := by decide +kernel
theorem dX10_look_60 : decode cX10_look 60 = .ok (.invokevirtual 61, 3) := by decide +kernel
theorem dX10_look_63 : decode cX10_look 63 = .ok (.istore 5, 2) := by decide +kernel
theorem dX10_look_65 : decode cX10_look 65 = .ok (.aload_n 1, 1) := by decide +kernel
theorem dX10_look_66 : decode cX10_look 66 = .ok (.iload 4, 2) := by decide +kernel
theorem dX10_look_68 : decode cX10_look 68 = .ok (.invokevirtual 64, 3) := by decide +kernel
theorem dX10_look_71 : decode cX10_look 71 = .ok (.istore 6, 2) := by decide +kernel
theorem dX10_look_73 : decode cX10_look 73 = .ok (.iload 6, 2) := by decide +kernel
theorem dX10_look_75 : decode cX10_look 75 = .ok (.bipush 60, 2) := by decide +kernel
theorem dX10_look_77 : decode cX10_look 77 = .ok (.if_icmp .ge 32, 3) := by decide +kernel
theorem dX10_look_80 : decode cX10_look 80 = .ok (.iload 5, 2) := by decide +kernel
theorem dX10_look_82 : decode cX10_look 82 = .ok (.ifCond .le 27, 3) := by decide +kernel
theorem dX10_look_85 : decode cX10_look 85 = .ok (.aload_n 0, 1) := by decide +kernel
theorem dX10_look_86 : decode cX10_look 86 = .ok (.getfield 9, 3) := by decide +kernel
theorem dX10_look_89 : decode cX10_look 89 = .ok (.iload 6, 2) := by decide +kernel
theorem dX10_look_91 : decode cX10_look 91 = .ok (.dup2, 1) := by decide +kernel
theorem dX10_look_92 : decode cX10_look 92 = .ok (.iaload, 1) := by decide +kernel
theorem dX10_look_93 : decode cX10_look 93 = .ok (.iconst 1, 1) := by decide +kernel
theorem dX10_look_94 : decode cX10_look 94 = .ok (.iload 4, 2) := by decide +kernel
theorem dX10_look_96 : decode cX10_look 96 = .ok (.ishl, 1) := by decide +kernel
theorem dX10_look_97 : decode cX10_look 97 = .ok (.ior, 1) := by decide +kernel
theorem dX10_look_98 : decode cX10_look 98 = .ok (.iastore, 1) := by decide +kernel
theorem dX10_look_99 : decode cX10_look 99 = .ok (.iload 6, 2) := by decide +kernel
theorem dX10_look_101 : decode cX10_look 101 = .ok (.iload 5, 2) := by decide +kernel
theorem dX10_look_103 : decode cX10_look 103 = .ok (.iadd, 1) := by decide +kernel
theorem dX10_look_104 : decode cX10_look 104 = .ok (.istore 6, 2) := by decide +kernel
theorem dX10_look_106 : decode cX10_look 106 = .ok (.goto (-33), 3) := by decide +kernel
theorem dX10_look_109 : decode cX10_look 109 = .ok (.iinc 2 1, 3) := by decide +kernel
theorem dX10_look_112 : decode cX10_look 112 = .ok (.iload_n 3, 1) := by decide +kernel
theorem dX10_look_113 : decode cX10_look 113 = .ok (.iload_n 3, 1) := by decide +kernel
theorem dX10_look_114 : decode cX10_look 114 = .ok (.iconst 1, 1) := by decide +kernel
theorem dX10_look_115 : decode cX10_look 115 = .ok (.isub, 1) := by decide +kernel
theorem dX10_look_116 : decode cX10_look 116 = .ok (.iand, 1) := by decide +kernel
theorem dX10_look_117 : decode cX10_look 117 = .ok (.istore_n 3, 1) := by decide +kernel
theorem dX10_look_118 : decode cX10_look 118 = .ok (.goto (-77), 3) := by decide +kernel
theorem dX10_look_121 : decode cX10_look 121 = .ok (.return_, 1) := by decide +kernel
theorem dX10_quietAt_0 : decode cX10_quietAt 0 = .ok (.aload_n 0, 1) := by decide +kernel
theorem dX10_quietAt_1 : decode cX10_quietAt 1 = .ok (.getfield 18, 3) := by decide +kernel
theorem dX10_quietAt_4 : decode cX10_quietAt 4 = .ok (.aload_n 0, 1) := by decide +kernel
theorem dX10_quietAt_5 : decode cX10_quietAt 5 = .ok (.getfield 9, 3) := by decide +kernel
theorem dX10_quietAt_8 : decode cX10_quietAt 8 = .ok (.iload_n 1, 1) := by decide +kernel
theorem dX10_quietAt_9 : decode cX10_quietAt 9 = .ok (.bipush 60, 2) := by decide +kernel
theorem dX10_quietAt_11 : decode cX10_quietAt 11 = .ok (.invokestatic 67, 3) := by decide +kernel
theorem dX10_quietAt_14 : decode cX10_quietAt 14 = .ok (.iaload, 1) := by decide +kernel
theorem dX10_quietAt_15 : decode cX10_quietAt 15 = .ok (.iload_n 2, 1) := by decide +kernel
theorem dX10_quietAt_16 : decode cX10_quietAt 16 = .ok (.iconst (-1), 1) := by decide +kernel
theorem dX10_quietAt_17 : decode cX10_quietAt 17 = .ok (.ixor, 1) := by decide +kernel
theorem dX10_quietAt_18 : decode cX10_quietAt 18 = .ok (.iand, 1) := by decide +kernel
theorem dX10_quietAt_19 : decode cX10_quietAt 19 = .ok (.iconst (-1), 1) := by decide +kernel
theorem dX10_quietAt_20 : decode cX10_quietAt 20 = .ok (.ixor, 1) := by decide +kernel
theorem dX10_quietAt_21 : decode cX10_quietAt 21 = .ok (.iand, 1) := by decide +kernel
theorem dX10_quietAt_22 : decode cX10_quietAt 22 = .ok (.ireturn, 1) := by decide +kernel
theorem dX10_onwards_0 : decode cX10_onwards 0 = .ok (.aload_n 0, 1) := by decide +kernel
theorem dX10_onwards_1 : decode cX10_onwards 1 = .ok (.getfield 31, 3) := by decide +kernel
theorem dX10_onwards_4 : decode cX10_onwards 4 = .ok (.iload_n 1, 1) := by decide +kernel
theorem dX10_onwards_5 : decode cX10_onwards 5 = .ok (.invokevirtual 73, 3) := by decide +kernel
theorem dX10_onwards_8 : decode cX10_onwards 8 = .ok (.aload_n 0, 1) := by decide +kernel
theorem dX10_onwards_9 : decode cX10_onwards 9 = .ok (.iload_n 2, 1) := by decide +kernel
theorem dX10_onwards_10 : decode cX10_onwards 10 = .ok (.iload_n 3, 1) := by decide +kernel
theorem dX10_onwards_11 : decode cX10_onwards 11 = .ok (.invokevirtual 76, 3) := by decide +kernel
theorem dX10_onwards_14 : decode cX10_onwards 14 = .ok (.iand, 1) := by decide +kernel
theorem dX10_onwards_15 : decode cX10_onwards 15 = .ok (.ireturn, 1) := by decide +kernel
theorem dX10_fewest_0 : decode cX10_fewest 0 = .ok (.iconst 1, 1) := by decide +kernel
theorem dX10_fewest_1 : decode cX10_fewest 1 = .ok (.iload_n 1, 1) := by decide +kernel
theorem dX10_fewest_2 : decode cX10_fewest 2 = .ok (.ishl, 1) := by decide +kernel
theorem dX10_fewest_3 : decode cX10_fewest 3 = .ok (.istore 6, 2) := by decide +kernel
theorem dX10_fewest_5 : decode cX10_fewest 5 = .ok (.iconst 0, 1) := by decide +kernel
theorem dX10_fewest_6 : decode cX10_fewest 6 = .ok (.istore 7, 2) := by decide +kernel
theorem dX10_fewest_8 : decode cX10_fewest 8 = .ok (.iload 7, 2) := by decide +kernel
theorem dX10_fewest_10 : decode cX10_fewest 10 = .ok (.iload 5, 2) := by decide +kernel
theorem dX10_fewest_12 : decode cX10_fewest 12 = .ok (.if_icmp .gt 42, 3) := by decide +kernel
theorem dX10_fewest_15 : decode cX10_fewest 15 = .ok (.iload 6, 2) := by decide +kernel
theorem dX10_fewest_17 : decode cX10_fewest 17 = .ok (.ifCond .eq 37, 3) := by decide +kernel
theorem dX10_fewest_20 : decode cX10_fewest 20 = .ok (.iload 6, 2) := by decide +kernel
theorem dX10_fewest_22 : decode cX10_fewest 22 = .ok (.iload_n 2, 1) := by decide +kernel
theorem dX10_fewest_23 : decode cX10_fewest 23 = .ok (.iushr, 1) := by decide +kernel
theorem dX10_fewest_24 : decode cX10_fewest 24 = .ok (.iconst 1, 1) := by decide +kernel
theorem dX10_fewest_25 : decode cX10_fewest 25 = .ok (.iand, 1) := by decide +kernel
theorem dX10_fewest_26 : decode cX10_fewest 26 = .ok (.ifCond .eq 6, 3) := by decide +kernel
theorem dX10_fewest_29 : decode cX10_fewest 29 = .ok (.iload 7, 2) := by decide +kernel
theorem dX10_fewest_31 : decode cX10_fewest 31 = .ok (.ireturn, 1) := by decide +kernel
theorem dX10_fewest_32 : decode cX10_fewest 32 = .ok (.aload_n 0, 1) := by decide +kernel
theorem dX10_fewest_33 : decode cX10_fewest 33 = .ok (.iload 6, 2) := by decide +kernel
theorem dX10_fewest_35 : decode cX10_fewest 35 = .ok (.iload_n 3, 1) := by decide +kernel
theorem dX10_fewest_36 : decode cX10_fewest 36 = .ok (.iload 7, 2) := by decide +kernel
theorem dX10_fewest_38 : decode cX10_fewest 38 = .ok (.iadd, 1) := by decide +kernel
theorem dX10_fewest_39 : decode cX10_fewest 39 = .ok (.iconst 1, 1) := by decide +kernel
theorem dX10_fewest_40 : decode cX10_fewest 40 = .ok (.iadd, 1) := by decide +kernel
theorem dX10_fewest_41 : decode cX10_fewest 41 = .ok (.iload 4, 2) := by decide +kernel
theorem dX10_fewest_43 : decode cX10_fewest 43 = .ok (.invokevirtual 79, 3) := by decide +kernel
theorem dX10_fewest_46 : decode cX10_fewest 46 = .ok (.istore 6, 2) := by decide +kernel
theorem dX10_fewest_48 : decode cX10_fewest 48 = .ok (.iinc 7 1, 3) := by decide +kernel
theorem dX10_fewest_51 : decode cX10_fewest 51 = .ok (.goto (-43), 3) := by decide +kernel
theorem dX10_fewest_54 : decode cX10_fewest 54 = .ok (.iconst (-1), 1) := by decide +kernel
theorem dX10_fewest_55 : decode cX10_fewest 55 = .ok (.ireturn, 1) := by decide +kernel
theorem dX10_cellOnWay_0 : decode cX10_cellOnWay 0 = .ok (.aload_n 0, 1) := by decide +kernel
theorem dX10_cellOnWay_1 : decode cX10_cellOnWay 1 = .ok (.iload_n 2, 1) := by decide +kernel
theorem dX10_cellOnWay_2 : decode cX10_cellOnWay 2 = .ok (.iload_n 3, 1) := by decide +kernel
theorem dX10_cellOnWay_3 : decode cX10_cellOnWay 3 = .ok (.invokevirtual 83, 3) := by decide +kernel
theorem dX10_cellOnWay_6 : decode cX10_cellOnWay 6 = .ok (.iload_n 1, 1) := by decide +kernel
theorem dX10_cellOnWay_7 : decode cX10_cellOnWay 7 = .ok (.istore 5, 2) := by decide +kernel
theorem dX10_cellOnWay_9 : decode cX10_cellOnWay 9 = .ok (.iconst 1, 1) := by decide +kernel
theorem dX10_cellOnWay_10 : decode cX10_cellOnWay 10 = .ok (.istore 6, 2) := by decide +kernel
theorem dX10_cellOnWay_12 : decode cX10_cellOnWay 12 = .ok (.iload 6, 2) := by decide +kernel
theorem dX10_cellOnWay_14 : decode cX10_cellOnWay 14 = .ok (.iload 4, 2) := by decide +kernel
theorem dX10_cellOnWay_16 : decode cX10_cellOnWay 16 = .ok (.if_icmp .gt 51, 3) := by decide +kernel
theorem dX10_cellOnWay_19 : decode cX10_cellOnWay 19 = .ok (.iload 6, 2) := by decide +kernel
theorem dX10_cellOnWay_21 : decode cX10_cellOnWay 21 = .ok (.iload_n 3, 1) := by decide +kernel
theorem dX10_cellOnWay_22 : decode cX10_cellOnWay 22 = .ok (.if_icmp .gt 45, 3) := by decide +kernel
theorem dX10_cellOnWay_25 : decode cX10_cellOnWay 25 = .ok (.iload 6, 2) := by decide +kernel
theorem dX10_cellOnWay_27 : decode cX10_cellOnWay 27 = .ok (.bipush 100, 2) := by decide +kernel
theorem dX10_cellOnWay_29 : decode cX10_cellOnWay 29 = .ok (.if_icmp .gt 38, 3) := by decide +kernel
theorem dX10_cellOnWay_32 : decode cX10_cellOnWay 32 = .ok (.aload_n 0, 1) := by decide +kernel
theorem dX10_cellOnWay_33 : decode cX10_cellOnWay 33 = .ok (.iconst 1, 1) := by decide +kernel
theorem dX10_cellOnWay_34 : decode cX10_cellOnWay 34 = .ok (.iload 5, 2) := by decide +kernel
theorem dX10_cellOnWay_36 : decode cX10_cellOnWay 36 = .ok (.ishl, 1) := by decide +kernel
theorem dX10_cellOnWay_37 : decode cX10_cellOnWay 37 = .ok (.aload_n 0, 1) := by decide +kernel
theorem dX10_cellOnWay_38 : decode cX10_cellOnWay 38 = .ok (.getfield 22, 3) := by decide +kernel
theorem dX10_cellOnWay_41 : decode cX10_cellOnWay 41 = .ok (.iload 6, 2) := by decide +kernel
theorem dX10_cellOnWay_43 : decode cX10_cellOnWay 43 = .ok (.iadd, 1) := by decide +kernel
theorem dX10_cellOnWay_44 : decode cX10_cellOnWay 44 = .ok (.iconst 0, 1) := by decide +kernel
theorem dX10_cellOnWay_45 : decode cX10_cellOnWay 45 = .ok (.invokevirtual 79, 3) := by decide +kernel
theorem dX10_cellOnWay_48 : decode cX10_cellOnWay 48 = .ok (.aload_n 0, 1) := by decide +kernel
theorem dX10_cellOnWay_49 : decode cX10_cellOnWay 49 = .ok (.getfield 15, 3) := by decide +kernel
theorem dX10_cellOnWay_52 : decode cX10_cellOnWay 52 = .ok (.iload 6, 2) := by decide +kernel
theorem dX10_cellOnWay_54 : decode cX10_cellOnWay 54 = .ok (.iaload, 1) := by decide +kernel
theorem dX10_cellOnWay_55 : decode cX10_cellOnWay 55 = .ok (.iand, 1) := by decide +kernel
theorem dX10_cellOnWay_56 : decode cX10_cellOnWay 56 = .ok (.invokestatic 57, 3) := by decide +kernel
theorem dX10_cellOnWay_59 : decode cX10_cellOnWay 59 = .ok (.istore 5, 2) := by decide +kernel
theorem dX10_cellOnWay_61 : decode cX10_cellOnWay 61 = .ok (.iinc 6 1, 3) := by decide +kernel
theorem dX10_cellOnWay_64 : decode cX10_cellOnWay 64 = .ok (.goto (-52), 3) := by decide +kernel
theorem dX10_cellOnWay_67 : decode cX10_cellOnWay 67 = .ok (.iload 5, 2) := by decide +kernel
theorem dX10_cellOnWay_69 : decode cX10_cellOnWay 69 = .ok (.ireturn, 1) := by decide +kernel
theorem dX10_lookBack_0 : decode cX10_lookBack 0 = .ok (.iconst 1, 1) := by decide +kernel
theorem dX10_lookBack_1 : decode cX10_lookBack 1 = .ok (.iload_n 1, 1) := by decide +kernel
theorem dX10_lookBack_2 : decode cX10_lookBack 2 = .ok (.ishl, 1) := by decide +kernel
theorem dX10_lookBack_3 : decode cX10_lookBack 3 = .ok (.istore_n 3, 1) := by decide +kernel
theorem dX10_lookBack_4 : decode cX10_lookBack 4 = .ok (.iload_n 2, 1) := by decide +kernel
theorem dX10_lookBack_5 : decode cX10_lookBack 5 = .ok (.bipush 100, 2) := by decide +kernel
theorem dX10_lookBack_7 : decode cX10_lookBack 7 = .ok (.invokestatic 87, 3) := by decide +kernel
theorem dX10_lookBack_10 : decode cX10_lookBack 10 = .ok (.istore 4, 2) := by decide +kernel
theorem dX10_lookBack_12 : decode cX10_lookBack 12 = .ok (.iload 4, 2) := by decide +kernel
theorem dX10_lookBack_14 : decode cX10_lookBack 14 = .ok (.ifCond .lt 39, 3) := by decide +kernel
theorem dX10_lookBack_17 : decode cX10_lookBack 17 = .ok (.aload_n 0, 1) := by decide +kernel
theorem dX10_lookBack_18 : decode cX10_lookBack 18 = .ok (.getfield 15, 3) := by decide +kernel
theorem dX10_lookBack_21 : decode cX10_lookBack 21 = .ok (.iload 4, 2) := by decide +kernel
theorem dX10_lookBack_23 : decode cX10_lookBack 23 = .ok (.iload_n 3, 1) := by decide +kernel
theorem dX10_lookBack_24 : decode cX10_lookBack 24 = .ok (.iastore, 1) := by decide +kernel
theorem dX10_lookBack_25 : decode cX10_lookBack 25 = .ok (.aload_n 0, 1) := by decide +kernel
theorem dX10_lookBack_26 : decode cX10_lookBack 26 = .ok (.getfield 31, 3) := by decide +kernel
theorem dX10_lookBack_29 : decode cX10_lookBack 29 = .ok (.iload_n 3, 1) := by decide +kernel
theorem dX10_lookBack_30 : decode cX10_lookBack 30 = .ok (.aload_n 0, 1) := by decide +kernel
theorem dX10_lookBack_31 : decode cX10_lookBack 31 = .ok (.aload_n 0, 1) := by decide +kernel
theorem dX10_lookBack_32 : decode cX10_lookBack 32 = .ok (.getfield 22, 3) := by decide +kernel
theorem dX10_lookBack_35 : decode cX10_lookBack 35 = .ok (.iload 4, 2) := by decide +kernel
theorem dX10_lookBack_37 : decode cX10_lookBack 37 = .ok (.iadd, 1) := by decide +kernel
theorem dX10_lookBack_38 : decode cX10_lookBack 38 = .ok (.iconst 0, 1) := by decide +kernel
theorem dX10_lookBack_39 : decode cX10_lookBack 39 = .ok (.invokevirtual 76, 3) := by decide +kernel
theorem dX10_lookBack_42 : decode cX10_lookBack 42 = .ok (.iand, 1) := by decide +kernel
theorem dX10_lookBack_43 : decode cX10_lookBack 43 = .ok (.invokevirtual 73, 3) := by decide +kernel
theorem dX10_lookBack_46 : decode cX10_lookBack 46 = .ok (.istore_n 3, 1) := by decide +kernel
theorem dX10_lookBack_47 : decode cX10_lookBack 47 = .ok (.iinc 4 (-1), 3) := by decide +kernel
theorem dX10_lookBack_50 : decode cX10_lookBack 50 = .ok (.goto (-38), 3) := by decide +kernel
theorem dX10_lookBack_53 : decode cX10_lookBack 53 = .ok (.return_, 1) := by decide +kernel
theorem dX10_bestWait_0 : decode cX10_bestWait 0 = .ok (.iconst (-1), 1) := by decide +kernel
theorem dX10_bestWait_1 : decode cX10_bestWait 1 = .ok (.istore_n 3, 1) := by decide +kernel
theorem dX10_bestWait_2 : decode cX10_bestWait 2 = .ok (.bipush 100, 2) := by decide +kernel
theorem dX10_bestWait_4 : decode cX10_bestWait 4 = .ok (.istore 4, 2) := by decide +kernel
theorem dX10_bestWait_6 : decode cX10_bestWait 6 = .ok (.iconst 0, 1) := by decide +kernel
theorem dX10_bestWait_7 : decode cX10_bestWait 7 = .ok (.istore 5, 2) := by decide +kernel
theorem dX10_bestWait_9 : decode cX10_bestWait 9 = .ok (.iload 5, 2) := by decide +kernel
theorem dX10_bestWait_11 : decode cX10_bestWait 11 = .ok (.bipush 60, 2) := by decide +kernel
theorem dX10_bestWait_13 : decode cX10_bestWait 13 = .ok (.if_icmp .ge 42, 3) := by decide +kernel
theorem dX10_bestWait_16 : decode cX10_bestWait 16 = .ok (.aload_n 0, 1) := by decide +kernel
theorem dX10_bestWait_17 : decode cX10_bestWait 17 = .ok (.iload_n 1, 1) := by decide +kernel
theorem dX10_bestWait_18 : decode cX10_bestWait 18 = .ok (.iload_n 2, 1) := by decide +kernel
theorem dX10_bestWait_19 : decode cX10_bestWait 19 = .ok (.aload_n 0, 1) := by decide +kernel
theorem dX10_bestWait_20 : decode cX10_bestWait 20 = .ok (.getfield 22, 3) := by decide +kernel
theorem dX10_bestWait_23 : decode cX10_bestWait 23 = .ok (.iload 5, 2) := by decide +kernel
theorem dX10_bestWait_25 : decode cX10_bestWait 25 = .ok (.iadd, 1) := by decide +kernel
theorem dX10_bestWait_26 : decode cX10_bestWait 26 = .ok (.iconst 0, 1) := by decide +kernel
theorem dX10_bestWait_27 : decode cX10_bestWait 27 = .ok (.iload 4, 2) := by decide +kernel
theorem dX10_bestWait_29 : decode cX10_bestWait 29 = .ok (.invokevirtual 90, 3) := by decide +kernel
theorem dX10_bestWait_32 : decode cX10_bestWait 32 = .ok (.istore 6, 2) := by decide +kernel
theorem dX10_bestWait_34 : decode cX10_bestWait 34 = .ok (.iload 6, 2) := by decide +kernel
theorem dX10_bestWait_36 : decode cX10_bestWait 36 = .ok (.iconst (-1), 1) := by decide +kernel
theorem dX10_bestWait_37 : decode cX10_bestWait 37 = .ok (.if_icmp .eq 12, 3) := by decide +kernel
theorem dX10_bestWait_40 : decode cX10_bestWait 40 = .ok (.iload 5, 2) := by decide +kernel
theorem dX10_bestWait_42 : decode cX10_bestWait 42 = .ok (.istore_n 3, 1) := by decide +kernel
theorem dX10_bestWait_43 : decode cX10_bestWait 43 = .ok (.iload 6, 2) := by decide +kernel
theorem dX10_bestWait_45 : decode cX10_bestWait 45 = .ok (.iconst 1, 1) := by decide +kernel
theorem dX10_bestWait_46 : decode cX10_bestWait 46 = .ok (.isub, 1) := by decide +kernel
theorem dX10_bestWait_47 : decode cX10_bestWait 47 = .ok (.istore 4, 2) := by decide +kernel
theorem dX10_bestWait_49 : decode cX10_bestWait 49 = .ok (.iinc 5 1, 3) := by decide +kernel
theorem dX10_bestWait_52 : decode cX10_bestWait 52 = .ok (.goto (-43), 3) := by decide +kernel
theorem dX10_bestWait_55 : decode cX10_bestWait 55 = .ok (.iload_n 3, 1) := by decide +kernel
theorem dX10_bestWait_56 : decode cX10_bestWait 56 = .ok (.ireturn, 1) := by decide +kernel
theorem dX10_fewestMown_0 : decode cX10_fewestMown 0 = .ok (.aload_n 0, 1) := by decide +kernel
theorem dX10_fewestMown_1 : decode cX10_fewestMown 1 = .ok (.iload_n 1, 1) := by decide +kernel
theorem dX10_fewestMown_2 : decode cX10_fewestMown 2 = .ok (.iload_n 2, 1) := by decide +kernel
theorem dX10_fewestMown_3 : decode cX10_fewestMown 3 = .ok (.aload_n 0, 1) := by decide +kernel
theorem dX10_fewestMown_4 : decode cX10_fewestMown 4 = .ok (.getfield 22, 3) := by decide +kernel
theorem dX10_fewestMown_7 : decode cX10_fewestMown 7 = .ok (.iload 4, 2) := by decide +kernel
theorem dX10_fewestMown_9 : decode cX10_fewestMown 9 = .ok (.iload_n 3, 1) := by decide +kernel
theorem dX10_fewestMown_10 : decode cX10_fewestMown 10 = .ok (.invokevirtual 90, 3) := by decide +kernel
theorem dX10_fewestMown_13 : decode cX10_fewestMown 13 = .ok (.iconst (-1), 1) := by decide +kernel
theorem dX10_fewestMown_14 : decode cX10_fewestMown 14 = .ok (.if_icmp .ne 5, 3) := by decide +kernel
theorem dX10_fewestMown_17 : decode cX10_fewestMown 17 = .ok (.iconst (-1), 1) := by decide +kernel
theorem dX10_fewestMown_18 : decode cX10_fewestMown 18 = .ok (.ireturn, 1) := by decide +kernel
theorem dX10_fewestMown_19 : decode cX10_fewestMown 19 = .ok (.iconst 0, 1) := by decide +kernel
theorem dX10_fewestMown_20 : decode cX10_fewestMown 20 = .ok (.istore 5, 2) := by decide +kernel
theorem dX10_fewestMown_22 : decode cX10_fewestMown 22 = .ok (.iload 5, 2) := by decide +kernel
theorem dX10_fewestMown_24 : decode cX10_fewestMown 24 = .ok (.iload 4, 2) := by decide +kernel
theorem dX10_fewestMown_26 : decode cX10_fewestMown 26 = .ok (.invokestatic 94, 3) := by decide +kernel
theorem dX10_fewestMown_29 : decode cX10_fewestMown 29 = .ok (.if_icmp .ge 31, 3) := by decide +kernel
theorem dX10_fewestMown_32 : decode cX10_fewestMown 32 = .ok (.aload_n 0, 1) := by decide +kernel
theorem dX10_fewestMown_33 : decode cX10_fewestMown 33 = .ok (.iload 5, 2) := by decide +kernel
theorem dX10_fewestMown_35 : decode cX10_fewestMown 35 = .ok (.iload_n 1, 1) := by decide +kernel
theorem dX10_fewestMown_36 : decode cX10_fewestMown 36 = .ok (.iload_n 2, 1) := by decide +kernel
theorem dX10_fewestMown_37 : decode cX10_fewestMown 37 = .ok (.iload_n 3, 1) := by decide +kernel
theorem dX10_fewestMown_38 : decode cX10_fewestMown 38 = .ok (.iload 4, 2) := by decide +kernel
theorem dX10_fewestMown_40 : decode cX10_fewestMown 40 = .ok (.invokevirtual 99, 3) := by decide +kernel
theorem dX10_fewestMown_43 : decode cX10_fewestMown 43 = .ok (.istore 6, 2) := by decide +kernel
theorem dX10_fewestMown_45 : decode cX10_fewestMown 45 = .ok (.iload 6, 2) := by decide +kernel
theorem dX10_fewestMown_47 : decode cX10_fewestMown 47 = .ok (.iconst (-1), 1) := by decide +kernel
theorem dX10_fewestMown_48 : decode cX10_fewestMown 48 = .ok (.if_icmp .eq 6, 3) := by decide +kernel
theorem dX10_fewestMown_51 : decode cX10_fewestMown 51 = .ok (.iload 6, 2) := by decide +kernel
theorem dX10_fewestMown_53 : decode cX10_fewestMown 53 = .ok (.ireturn, 1) := by decide +kernel
theorem dX10_fewestMown_54 : decode cX10_fewestMown 54 = .ok (.iinc 5 1, 3) := by decide +kernel
theorem dX10_fewestMown_57 : decode cX10_fewestMown 57 = .ok (.goto (-35), 3) := by decide +kernel
theorem dX10_fewestMown_60 : decode cX10_fewestMown 60 = .ok (.iload 4, 2) := by decide +kernel
theorem dX10_fewestMown_62 : decode cX10_fewestMown 62 = .ok (.ireturn, 1) := by decide +kernel
theorem dX10_mownBy_0 : decode cX10_mownBy 0 = .ok (.iconst 0, 1) := by decide +kernel
theorem dX10_mownBy_1 : decode cX10_mownBy 1 = .ok (.istore 6, 2) := by decide +kernel
theorem dX10_mownBy_3 : decode cX10_mownBy 3 = .ok (.iconst 0, 1) := by decide +kernel
theorem dX10_mownBy_4 : decode cX10_mownBy 4 = .ok (.istore 7, 2) := by decide +kernel
theorem dX10_mownBy_6 : decode cX10_mownBy 6 = .ok (.iload 7, 2) := by decide +kernel
theorem dX10_mownBy_8 : decode cX10_mownBy 8 = .ok (.sipush 256, 3) := by decide +kernel
theorem dX10_mownBy_11 : decode cX10_mownBy 11 = .ok (.if_icmp .ge 56, 3) := by decide +kernel
theorem dX10_mownBy_14 : decode cX10_mownBy 14 = .ok (.iload 6, 2) := by decide +kernel
theorem dX10_mownBy_16 : decode cX10_mownBy 16 = .ok (.iload 5, 2) := by decide +kernel
theorem dX10_mownBy_18 : decode cX10_mownBy 18 = .ok (.if_icmp .eq 49, 3) := by decide +kernel
theorem dX10_mownBy_21 : decode cX10_mownBy 21 = .ok (.iload 6, 2) := by decide +kernel
theorem dX10_mownBy_23 : decode cX10_mownBy 23 = .ok (.invokestatic 94, 3) := by decide +kernel
theorem dX10_mownBy_26 : decode cX10_mownBy 26 = .ok (.iload_n 1, 1) := by decide +kernel
theorem dX10_mownBy_27 : decode cX10_mownBy 27 = .ok (.if_icmp .ne 24, 3) := by decide +kernel
theorem dX10_mownBy_30 : decode cX10_mownBy 30 = .ok (.aload_n 0, 1) := by decide +kernel
theorem dX10_mownBy_31 : decode cX10_mownBy 31 = .ok (.iload_n 2, 1) := by decide +kernel
theorem dX10_mownBy_32 : decode cX10_mownBy 32 = .ok (.iload_n 3, 1) := by decide +kernel
theorem dX10_mownBy_33 : decode cX10_mownBy 33 = .ok (.aload_n 0, 1) := by decide +kernel
theorem dX10_mownBy_34 : decode cX10_mownBy 34 = .ok (.getfield 22, 3) := by decide +kernel
theorem dX10_mownBy_37 : decode cX10_mownBy 37 = .ok (.iload 6, 2) := by decide +kernel
theorem dX10_mownBy_39 : decode cX10_mownBy 39 = .ok (.iload 4, 2) := by decide +kernel
theorem dX10_mownBy_41 : decode cX10_mownBy 41 = .ok (.invokevirtual 90, 3) := by decide +kernel
theorem dX10_mownBy_44 : decode cX10_mownBy 44 = .ok (.iconst (-1), 1) := by decide +kernel
theorem dX10_mownBy_45 : decode cX10_mownBy 45 = .ok (.if_icmp .eq 6, 3) := by decide +kernel
theorem dX10_mownBy_48 : decode cX10_mownBy 48 = .ok (.iload 6, 2) := by decide +kernel
theorem dX10_mownBy_50 : decode cX10_mownBy 50 = .ok (.ireturn, 1) := by decide +kernel
theorem dX10_mownBy_51 : decode cX10_mownBy 51 = .ok (.iload 6, 2) := by decide +kernel
theorem dX10_mownBy_53 : decode cX10_mownBy 53 = .ok (.iload 5, 2) := by decide +kernel
theorem dX10_mownBy_55 : decode cX10_mownBy 55 = .ok (.isub, 1) := by decide +kernel
theorem dX10_mownBy_56 : decode cX10_mownBy 56 = .ok (.iload 5, 2) := by decide +kernel
theorem dX10_mownBy_58 : decode cX10_mownBy 58 = .ok (.iand, 1) := by decide +kernel
theorem dX10_mownBy_59 : decode cX10_mownBy 59 = .ok (.istore 6, 2) := by decide +kernel
theorem dX10_mownBy_61 : decode cX10_mownBy 61 = .ok (.iinc 7 1, 3) := by decide +kernel
theorem dX10_mownBy_64 : decode cX10_mownBy 64 = .ok (.goto (-58), 3) := by decide +kernel
theorem dX10_mownBy_67 : decode cX10_mownBy 67 = .ok (.iconst (-1), 1) := by decide +kernel
theorem dX10_mownBy_68 : decode cX10_mownBy 68 = .ok (.ireturn, 1) := by decide +kernel
theorem dX10_findMeeting_0 : decode cX10_findMeeting 0 = .ok (.iconst 1, 1) := by decide +kernel
theorem dX10_findMeeting_1 : decode cX10_findMeeting 1 = .ok (.iload_n 1, 1) := by decide +kernel
theorem dX10_findMeeting_2 : decode cX10_findMeeting 2 = .ok (.ishl, 1) := by decide +kernel
theorem dX10_findMeeting_3 : decode cX10_findMeeting 3 = .ok (.istore_n 3, 1) := by decide +kernel
theorem dX10_findMeeting_4 : decode cX10_findMeeting 4 = .ok (.iconst 1, 1) := by decide +kernel
theorem dX10_findMeeting_5 : decode cX10_findMeeting 5 = .ok (.iload_n 2, 1) := by decide +kernel
theorem dX10_findMeeting_6 : decode cX10_findMeeting 6 = .ok (.ishl, 1) := by decide +kernel
theorem dX10_findMeeting_7 : decode cX10_findMeeting 7 = .ok (.istore 4, 2) := by decide +kernel
theorem dX10_findMeeting_9 : decode cX10_findMeeting 9 = .ok (.iconst 0, 1) := by decide +kernel
theorem dX10_findMeeting_10 : decode cX10_findMeeting 10 = .ok (.istore 5, 2) := by decide +kernel
theorem dX10_findMeeting_12 : decode cX10_findMeeting 12 = .ok (.iload 5, 2) := by decide +kernel
theorem dX10_findMeeting_14 : decode cX10_findMeeting 14 = .ok (.bipush 100, 2) := by decide +kernel
theorem dX10_findMeeting_16 : decode cX10_findMeeting 16 = .ok (.if_icmp .gt 69, 3) := by decide +kernel
theorem dX10_findMeeting_19 : decode cX10_findMeeting 19 = .ok (.iload_n 3, 1) := by decide +kernel
theorem dX10_findMeeting_20 : decode cX10_findMeeting 20 = .ok (.iload 4, 2) := by decide +kernel
theorem dX10_findMeeting_22 : decode cX10_findMeeting 22 = .ok (.iand, 1) := by decide +kernel
theorem dX10_findMeeting_23 : decode cX10_findMeeting 23 = .ok (.ifCond .eq 22, 3) := by decide +kernel
theorem dX10_findMeeting_26 : decode cX10_findMeeting 26 = .ok (.aload_n 0, 1) := by decide +kernel
theorem dX10_findMeeting_27 : decode cX10_findMeeting 27 = .ok (.iload 5, 2) := by decide +kernel
theorem dX10_findMeeting_29 : decode cX10_findMeeting 29 = .ok (.putfield 25, 3) := by decide +kernel
theorem dX10_findMeeting_32 : decode cX10_findMeeting 32 = .ok (.aload_n 0, 1) := by decide +kernel
theorem dX10_findMeeting_33 : decode cX10_findMeeting 33 = .ok (.iload_n 3, 1) := by decide +kernel
theorem dX10_findMeeting_34 : decode cX10_findMeeting 34 = .ok (.iload 4, 2) := by decide +kernel
theorem dX10_findMeeting_36 : decode cX10_findMeeting 36 = .ok (.iand, 1) := by decide +kernel
theorem dX10_findMeeting_37 : decode cX10_findMeeting 37 = .ok (.invokestatic 57, 3) := by decide +kernel
theorem dX10_findMeeting_40 : decode cX10_findMeeting 40 = .ok (.putfield 28, 3) := by decide +kernel
theorem dX10_findMeeting_43 : decode cX10_findMeeting 43 = .ok (.iconst 1, 1) := by decide +kernel
theorem dX10_findMeeting_44 : decode cX10_findMeeting 44 = .ok (.ireturn, 1) := by decide +kernel
theorem dX10_findMeeting_45 : decode cX10_findMeeting 45 = .ok (.aload_n 0, 1) := by decide +kernel
theorem dX10_findMeeting_46 : decode cX10_findMeeting 46 = .ok (.iload_n 3, 1) := by decide +kernel
theorem dX10_findMeeting_47 : decode cX10_findMeeting 47 = .ok (.aload_n 0, 1) := by decide +kernel
theorem dX10_findMeeting_48 : decode cX10_findMeeting 48 = .ok (.getfield 22, 3) := by decide +kernel
theorem dX10_findMeeting_51 : decode cX10_findMeeting 51 = .ok (.iload 5, 2) := by decide +kernel
theorem dX10_findMeeting_53 : decode cX10_findMeeting 53 = .ok (.iadd, 1) := by decide +kernel
theorem dX10_findMeeting_54 : decode cX10_findMeeting 54 = .ok (.iconst 1, 1) := by decide +kernel
theorem dX10_findMeeting_55 : decode cX10_findMeeting 55 = .ok (.iadd, 1) := by decide +kernel
theorem dX10_findMeeting_56 : decode cX10_findMeeting 56 = .ok (.iconst 0, 1) := by decide +kernel
theorem dX10_findMeeting_57 : decode cX10_findMeeting 57 = .ok (.invokevirtual 79, 3) := by decide +kernel
theorem dX10_findMeeting_60 : decode cX10_findMeeting 60 = .ok (.istore_n 3, 1) := by decide +kernel
theorem dX10_findMeeting_61 : decode cX10_findMeeting 61 = .ok (.aload_n 0, 1) := by decide +kernel
theorem dX10_findMeeting_62 : decode cX10_findMeeting 62 = .ok (.iload 4, 2) := by decide +kernel
theorem dX10_findMeeting_64 : decode cX10_findMeeting 64 = .ok (.aload_n 0, 1) := by decide +kernel
theorem dX10_findMeeting_65 : decode cX10_findMeeting 65 = .ok (.getfield 22, 3) := by decide +kernel
theorem dX10_findMeeting_68 : decode cX10_findMeeting 68 = .ok (.iload 5, 2) := by decide +kernel
theorem dX10_findMeeting_70 : decode cX10_findMeeting 70 = .ok (.iadd, 1) := by decide +kernel
theorem dX10_findMeeting_71 : decode cX10_findMeeting 71 = .ok (.iconst 1, 1) := by decide +kernel
theorem dX10_findMeeting_72 : decode cX10_findMeeting 72 = .ok (.iadd, 1) := by decide +kernel
theorem dX10_findMeeting_73 : decode cX10_findMeeting 73 = .ok (.iconst 0, 1) := by decide +kernel
theorem dX10_findMeeting_74 : decode cX10_findMeeting 74 = .ok (.invokevirtual 79, 3) := by decide +kernel
theorem dX10_findMeeting_77 : decode cX10_findMeeting 77 = .ok (.istore 4, 2) := by decide +kernel
theorem dX10_findMeeting_79 : decode cX10_findMeeting 79 = .ok (.iinc 5 1, 3) := by decide +kernel
theorem dX10_findMeeting_82 : decode cX10_findMeeting 82 = .ok (.goto (-70), 3) := by decide +kernel
theorem dX10_findMeeting_85 : decode cX10_findMeeting 85 = .ok (.iconst 0, 1) := by decide +kernel
theorem dX10_findMeeting_86 : decode cX10_findMeeting 86 = .ok (.ireturn, 1) := by decide +kernel
