theorem dX9_init_0 : decode cX9_init 0 = .ok (.aload_n 0, 1) := by decide +kernel
theorem dX9_init_1 : decode cX9_init 1 = .ok (.invokespecial 3, 3) := by decide +kernel
theorem dX9_init_4 : decode cX9_init 4 = .ok (.aload_n 0, 1) := by decide +kernel
theorem dX9_init_5 : decode cX9_init 5 = .ok (.bipush 22, 2) := by decide +kernel
theorem dX9_init_7 : decode cX9_init 7 = .ok (.newarray .long, 2) := by decide +kernel
theorem dX9_init_9 : decode cX9_init 9 = .ok (.putfield 11, 3) := by decide +kernel
theorem dX9_init_12 : decode cX9_init 12 = .ok (.aload_n 0, 1) := by decide +kernel
theorem dX9_init_13 : decode cX9_init 13 = .ok (.sipush 401, 3) := by decide +kernel
theorem dX9_init_16 : decode cX9_init 16 = .ok (.newarray .byte, 2) := by decide +kernel
theorem dX9_init_18 : decode cX9_init 18 = .ok (.putfield 15, 3) := by decide +kernel
theorem dX9_init_21 : decode cX9_init 21 = .ok (.aload_n 0, 1) := by decide +kernel
theorem dX9_init_22 : decode cX9_init 22 = .ok (.sipush 401, 3) := by decide +kernel
theorem dX9_init_25 : decode cX9_init 25 = .ok (.newarray .short, 2) := by decide +kernel
theorem dX9_init_27 : decode cX9_init 27 = .ok (.putfield 19, 3) := by decide +kernel
theorem dX9_init_30 : decode cX9_init 30 = .ok (.aload_n 0, 1) := by decide +kernel
theorem dX9_init_31 : decode cX9_init 31 = .ok (.sipush 401, 3) := by decide +kernel
theorem dX9_init_34 : decode cX9_init 34 = .ok (.newarray .long, 2) := by decide +kernel
theorem dX9_init_36 : decode cX9_init 36 = .ok (.putfield 23, 3) := by decide +kernel
theorem dX9_init_39 : decode cX9_init 39 = .ok (.aload_n 0, 1) := by decide +kernel
theorem dX9_init_40 : decode cX9_init 40 = .ok (.iconst 0, 1) := by decide +kernel
theorem dX9_init_41 : decode cX9_init 41 = .ok (.putfield 26, 3) := by decide +kernel
theorem dX9_init_44 : decode cX9_init 44 = .ok (.aload_n 0, 1) := by decide +kernel
theorem dX9_init_45 : decode cX9_init 45 = .ok (.iconst 0, 1) := by decide +kernel
theorem dX9_init_46 : decode cX9_init 46 = .ok (.putfield 30, 3) := by decide +kernel
theorem dX9_init_49 : decode cX9_init 49 = .ok (.aload_n 0, 1) := by decide +kernel
theorem dX9_init_50 : decode cX9_init 50 = .ok (.aload_n 1, 1) := by decide +kernel
theorem dX9_init_51 : decode cX9_init 51 = .ok (.putfield 33, 3) := by decide +kernel
theorem dX9_init_54 : decode cX9_init 54 = .ok (.iconst 0, 1) := by decide +kernel
theorem dX9_init_55 : decode cX9_init 55 = .ok (.istore_n 2, 1) := by decide +kernel
theorem dX9_init_56 : decode cX9_init 56 = .ok (.iconst 0, 1) := by decide +kernel
theorem dX9_init_57 : decode cX9_init 57 = .ok (.istore_n 3, 1) := by decide +kernel
theorem dX9_init_58 : decode cX9_init 58 = .ok (.iload_n 3, 1) := by decide +kernel
theorem dX9_init_59 : decode cX9_init 59 = .ok (.ldc 36, 2) := by decide +kernel
theorem dX9_init_61 : decode cX9_init 61 = .ok (.invokevirtual 38, 3) := by decide +kernel
theorem dX9_init_64 : decode cX9_init 64 = .ok (.if_icmp .ge 53, 3) := by decide +kernel
theorem dX9_init_67 : decode cX9_init 67 = .ok (.iload_n 2, 1) := by decide +kernel
theorem dX9_init_68 : decode cX9_init 68 = .ok (.bipush 22, 2) := by decide +kernel
theorem dX9_init_70 : decode cX9_init 70 = .ok (.if_icmp .ge 47, 3) := by decide +kernel
theorem dX9_init_73 : decode cX9_init 73 = .ok (.ldc 36, 2) := by decide +kernel
theorem dX9_init_75 : decode cX9_init 75 = .ok (.iload_n 3, 1) := by decide +kernel
theorem dX9_init_76 : decode cX9_init 76 = .ok (.invokevirtual 43, 3) := by decide +kernel
theorem dX9_init_79 : decode cX9_init 79 = .ok (.bipush 32, 2) := by decide +kernel
theorem dX9_init_81 : decode cX9_init 81 = .ok (.if_icmp .ne 9, 3) := by decide +kernel
theorem dX9_init_84 : decode cX9_init 84 = .ok (.iinc 2 1, 3) := by decide +kernel
theorem dX9_init_87 : decode cX9_init 87 = .ok (.goto 24, 3) := by decide +kernel
theorem dX9_init_90 : decode cX9_init 90 = .ok (.aload_n 0, 1) := by decide +kernel
theorem dX9_init_91 : decode cX9_init 91 = .ok (.getfield 11, 3) := by decide +kernel
theorem dX9_init_94 : decode cX9_init 94 = .ok (.iload_n 2, 1) := by decide +kernel
theorem dX9_init_95 : decode cX9_init 95 = .ok (.aload_n 0, 1) := by decide +kernel
theorem dX9_init_96 : decode cX9_init 96 = .ok (.getfield 11, 3) := by decide +kernel
theorem dX9_init_99 : decode cX9_init 99 = .ok (.iload_n 2, 1) := by decide +kernel
theorem dX9_init_100 : decode cX9_init 100 = .ok (.laload, 1) := by decide +kernel
theorem dX9_init_101 : decode cX9_init 101 = .ok (.ldc 36, 2) := by decide +kernel
theorem dX9_init_103 : decode cX9_init 103 = .ok (.iload_n 3, 1) := by decide +kernel
theorem dX9_init_104 : decode cX9_init 104 = .ok (.invokevirtual 43, 3) := by decide +kernel
theorem dX9_init_107 : decode cX9_init 107 = .ok (.invokestatic 47, 3) := by decide +kernel
theorem dX9_init_110 : decode cX9_init 110 = .ok (.lastore, 1) := by decide +kernel
theorem dX9_init_111 : decode cX9_init 111 = .ok (.iinc 3 1, 3) := by decide +kernel
theorem dX9_init_114 : decode cX9_init 114 = .ok (.goto (-56), 3) := by decide +kernel
theorem dX9_init_117 : decode cX9_init 117 = .ok (.return_, 1) := by decide +kernel
theorem dX9_withLetter_0 : decode cX9_withLetter 0 = .ok (.lload_n 0, 1) := by decide +kernel
theorem dX9_withLetter_1 : decode cX9_withLetter 1 = .ok (.ldc2_w 51, 3) := by decide +kernel
theorem dX9_withLetter_4 : decode cX9_withLetter 4 = .ok (.lmul, 1) := by decide +kernel
theorem dX9_withLetter_5 : decode cX9_withLetter 5 = .ok (.iload_n 2, 1) := by decide +kernel
theorem dX9_withLetter_6 : decode cX9_withLetter 6 = .ok (.bipush 97, 2) := by decide +kernel
theorem dX9_withLetter_8 : decode cX9_withLetter 8 = .ok (.isub, 1) := by decide +kernel
theorem dX9_withLetter_9 : decode cX9_withLetter 9 = .ok (.iconst 1, 1) := by decide +kernel
theorem dX9_withLetter_10 : decode cX9_withLetter 10 = .ok (.iadd, 1) := by decide +kernel
theorem dX9_withLetter_11 : decode cX9_withLetter 11 = .ok (.i2l, 1) := by decide +kernel
theorem dX9_withLetter_12 : decode cX9_withLetter 12 = .ok (.ladd, 1) := by decide +kernel
theorem dX9_withLetter_13 : decode cX9_withLetter 13 = .ok (.lreturn, 1) := by decide +kernel
theorem dX9_kindOf_0 : decode cX9_kindOf 0 = .ok (.iload_n 1, 1) := by decide +kernel
theorem dX9_kindOf_1 : decode cX9_kindOf 1 = .ok (.ifCond .lt 20, 3) := by decide +kernel
theorem dX9_kindOf_4 : decode cX9_kindOf 4 = .ok (.iload_n 1, 1) := by decide +kernel
theorem dX9_kindOf_5 : decode cX9_kindOf 5 = .ok (.aload_n 0, 1) := by decide +kernel
theorem dX9_kindOf_6 : decode cX9_kindOf 6 = .ok (.getfield 26, 3) := by decide +kernel
theorem dX9_kindOf_9 : decode cX9_kindOf 9 = .ok (.if_icmp .ge 12, 3) := by decide +kernel
theorem dX9_kindOf_12 : decode cX9_kindOf 12 = .ok (.aload_n 0, 1) := by decide +kernel
theorem dX9_kindOf_13 : decode cX9_kindOf 13 = .ok (.getfield 15, 3) := by decide +kernel
theorem dX9_kindOf_16 : decode cX9_kindOf 16 = .ok (.iload_n 1, 1) := by decide +kernel
theorem dX9_kindOf_17 : decode cX9_kindOf 17 = .ok (.baload, 1) := by decide +kernel
theorem dX9_kindOf_18 : decode cX9_kindOf 18 = .ok (.goto 5, 3) := by decide +kernel
theorem dX9_kindOf_21 : decode cX9_kindOf 21 = .ok (.bipush 32, 2) := by decide +kernel
theorem dX9_kindOf_23 : decode cX9_kindOf 23 = .ok (.ireturn, 1) := by decide +kernel
theorem dX9_placeOf_0 : decode cX9_placeOf 0 = .ok (.iload_n 1, 1) := by decide +kernel
theorem dX9_placeOf_1 : decode cX9_placeOf 1 = .ok (.ifCond .lt 20, 3) := by decide +kernel
theorem dX9_placeOf_4 : decode cX9_placeOf 4 = .ok (.iload_n 1, 1) := by decide +kernel
theorem dX9_placeOf_5 : decode cX9_placeOf 5 = .ok (.aload_n 0, 1) := by decide +kernel
theorem dX9_placeOf_6 : decode cX9_placeOf 6 = .ok (.getfield 26, 3) := by decide +kernel
theorem dX9_placeOf_9 : decode cX9_placeOf 9 = .ok (.if_icmp .ge 12, 3) := by decide +kernel
theorem dX9_placeOf_12 : decode cX9_placeOf 12 = .ok (.aload_n 0, 1) := by decide +kernel
theorem dX9_placeOf_13 : decode cX9_placeOf 13 = .ok (.getfield 19, 3) := by decide +kernel
theorem dX9_placeOf_16 : decode cX9_placeOf 16 = .ok (.iload_n 1, 1) := by decide +kernel
theorem dX9_placeOf_17 : decode cX9_placeOf 17 = .ok (.saload, 1) := by decide +kernel
theorem dX9_placeOf_18 : decode cX9_placeOf 18 = .ok (.goto 7, 3) := by decide +kernel
theorem dX9_placeOf_21 : decode cX9_placeOf 21 = .ok (.aload_n 0, 1) := by decide +kernel
theorem dX9_placeOf_22 : decode cX9_placeOf 22 = .ok (.getfield 30, 3) := by decide +kernel
theorem dX9_placeOf_25 : decode cX9_placeOf 25 = .ok (.ireturn, 1) := by decide +kernel
theorem dX9_valueOf_0 : decode cX9_valueOf 0 = .ok (.iload_n 1, 1) := by decide +kernel
theorem dX9_valueOf_1 : decode cX9_valueOf 1 = .ok (.ifCond .lt 20, 3) := by decide +kernel
theorem dX9_valueOf_4 : decode cX9_valueOf 4 = .ok (.iload_n 1, 1) := by decide +kernel
theorem dX9_valueOf_5 : decode cX9_valueOf 5 = .ok (.aload_n 0, 1) := by decide +kernel
theorem dX9_valueOf_6 : decode cX9_valueOf 6 = .ok (.getfield 26, 3) := by decide +kernel
theorem dX9_valueOf_9 : decode cX9_valueOf 9 = .ok (.if_icmp .ge 12, 3) := by decide +kernel
theorem dX9_valueOf_12 : decode cX9_valueOf 12 = .ok (.aload_n 0, 1) := by decide +kernel
theorem dX9_valueOf_13 : decode cX9_valueOf 13 = .ok (.getfield 23, 3) := by decide +kernel
theorem dX9_valueOf_16 : decode cX9_valueOf 16 = .ok (.iload_n 1, 1) := by decide +kernel
theorem dX9_valueOf_17 : decode cX9_valueOf 17 = .ok (.laload, 1) := by decide +kernel
theorem dX9_valueOf_18 : decode cX9_valueOf 18 = .ok (.goto 4, 3) := by decide +kernel
theorem dX9_valueOf_21 : decode cX9_valueOf 21 = .ok (.lconst 0, 1) := by decide +kernel
theorem dX9_valueOf_22 : decode cX9_valueOf 22 = .ok (.lreturn, 1) := by decide +kernel
theorem dX9_scan_0 : decode cX9_scan 0 = .ok (.aload_n 0, 1) := by decide +kernel
theorem dX9_scan_1 : decode cX9_scan 1 = .ok (.iconst 0, 1) := by decide +kernel
theorem dX9_scan_2 : decode cX9_scan 2 = .ok (.iload_n 1, 1) := by decide +kernel
theorem dX9_scan_3 : decode cX9_scan 3 = .ok (.aload_n 0, 1) := by decide +kernel
theorem dX9_scan_4 : decode cX9_scan 4 = .ok (.getfield 33, 3) := by decide +kernel
theorem dX9_scan_7 : decode cX9_scan 7 = .ok (.arraylength, 1) := by decide +kernel
theorem dX9_scan_8 : decode cX9_scan 8 = .ok (.invokestatic 53, 3) := by decide +kernel
theorem dX9_scan_11 : decode cX9_scan 11 = .ok (.invokestatic 59, 3) := by decide +kernel
theorem dX9_scan_14 : decode cX9_scan 14 = .ok (.putfield 30, 3) := by decide +kernel
theorem dX9_scan_17 : decode cX9_scan 17 = .ok (.aload_n 0, 1) := by decide +kernel
theorem dX9_scan_18 : decode cX9_scan 18 = .ok (.iconst 0, 1) := by decide +kernel
theorem dX9_scan_19 : decode cX9_scan 19 = .ok (.putfield 26, 3) := by decide +kernel
theorem dX9_scan_22 : decode cX9_scan 22 = .ok (.aload_n 0, 1) := by decide +kernel
theorem dX9_scan_23 : decode cX9_scan 23 = .ok (.iconst 0, 1) := by decide +kernel
theorem dX9_scan_24 : decode cX9_scan 24 = .ok (.invokevirtual 62, 3) := by decide +kernel
theorem dX9_scan_27 : decode cX9_scan 27 = .ok (.istore_n 2, 1) := by decide +kernel
theorem dX9_scan_28 : decode cX9_scan 28 = .ok (.iconst 0, 1) := by decide +kernel
theorem dX9_scan_29 : decode cX9_scan 29 = .ok (.istore_n 3, 1) := by decide +kernel
theorem dX9_scan_30 : decode cX9_scan 30 = .ok (.iload_n 3, 1) := by decide +kernel
theorem dX9_scan_31 : decode cX9_scan 31 = .ok (.sipush 401, 3) := by decide +kernel
theorem dX9_scan_34 : decode cX9_scan 34 = .ok (.if_icmp .ge 27, 3) := by decide +kernel
theorem dX9_scan_37 : decode cX9_scan 37 = .ok (.iload_n 2, 1) := by decide +kernel
theorem dX9_scan_38 : decode cX9_scan 38 = .ok (.aload_n 0, 1) := by decide +kernel
theorem dX9_scan_39 : decode cX9_scan 39 = .ok (.getfield 30, 3) := by decide +kernel
theorem dX9_scan_42 : decode cX9_scan 42 = .ok (.if_icmp .ge 19, 3) := by decide +kernel
theorem dX9_scan_45 : decode cX9_scan 45 = .ok (.aload_n 0, 1) := by decide +kernel
theorem dX9_scan_46 : decode cX9_scan 46 = .ok (.aload_n 0, 1) := by decide +kernel
theorem dX9_scan_47 : decode cX9_scan 47 = .ok (.iload_n 2, 1) := by decide +kernel
theorem dX9_scan_48 : decode cX9_scan 48 = .ok (.invokevirtual 66, 3) := by decide +kernel
theorem dX9_scan_51 : decode cX9_scan 51 = .ok (.invokevirtual 62, 3) := by decide +kernel
theorem dX9_scan_54 : decode cX9_scan 54 = .ok (.istore_n 2, 1) := by decide +kernel
theorem dX9_scan_55 : decode cX9_scan 55 = .ok (.iinc 3 1, 3) := by decide +kernel
theorem dX9_scan_58 : decode cX9_scan 58 = .ok (.goto (-28), 3) := by decide +kernel
theorem dX9_scan_61 : decode cX9_scan 61 = .ok (.return_, 1) := by decide +kernel
theorem dX9_keep_0 : decode cX9_keep 0 = .ok (.iload_n 1, 1) := by decide +kernel
theorem dX9_keep_1 : decode cX9_keep 1 = .ok (.iconst 1, 1) := by decide +kernel
theorem dX9_keep_2 : decode cX9_keep 2 = .ok (.iadd, 1) := by decide +kernel
theorem dX9_keep_3 : decode cX9_keep 3 = .ok (.istore_n 2, 1) := by decide +kernel
theorem dX9_keep_4 : decode cX9_keep 4 = .ok (.bipush 33, 2) := by decide +kernel
theorem dX9_keep_6 : decode cX9_keep 6 = .ok (.istore_n 3, 1) := by decide +kernel
theorem dX9_keep_7 : decode cX9_keep 7 = .ok (.lconst 0, 1) := by decide +kernel
theorem dX9_keep_8 : decode cX9_keep 8 = .ok (.lstore 4, 2) := by decide +kernel
theorem dX9_keep_10 : decode cX9_keep 10 = .ok (.aload_n 0, 1) := by decide +kernel
theorem dX9_keep_11 : decode cX9_keep 11 = .ok (.iload_n 1, 1) := by decide +kernel
theorem dX9_keep_12 : decode cX9_keep 12 = .ok (.invokevirtual 69, 3) := by decide +kernel
theorem dX9_keep_15 : decode cX9_keep 15 = .ok (.istore 6, 2) := by decide +kernel
theorem dX9_keep_17 : decode cX9_keep 17 = .ok (.iload 6, 2) := by decide +kernel
theorem dX9_keep_19 : decode cX9_keep 19 = .ok (.invokestatic 72, 3) := by decide +kernel
theorem dX9_keep_22 : decode cX9_keep 22 = .ok (.ifCond .eq 40, 3) := by decide +kernel
theorem dX9_keep_25 : decode cX9_keep 25 = .ok (.aload_n 0, 1) := by decide +kernel
theorem dX9_keep_26 : decode cX9_keep 26 = .ok (.iload_n 1, 1) := by decide +kernel
theorem dX9_keep_27 : decode cX9_keep 27 = .ok (.invokevirtual 76, 3) := by decide +kernel
theorem dX9_keep_30 : decode cX9_keep 30 = .ok (.istore_n 2, 1) := by decide +kernel
theorem dX9_keep_31 : decode cX9_keep 31 = .ok (.aload_n 0, 1) := by decide +kernel
theorem dX9_keep_32 : decode cX9_keep 32 = .ok (.iload_n 1, 1) := by decide +kernel
theorem dX9_keep_33 : decode cX9_keep 33 = .ok (.iload_n 2, 1) := by decide +kernel
theorem dX9_keep_34 : decode cX9_keep 34 = .ok (.invokevirtual 79, 3) := by decide +kernel
theorem dX9_keep_37 : decode cX9_keep 37 = .ok (.lstore 4, 2) := by decide +kernel
theorem dX9_keep_39 : decode cX9_keep 39 = .ok (.iload_n 2, 1) := by decide +kernel
theorem dX9_keep_40 : decode cX9_keep 40 = .ok (.iload_n 1, 1) := by decide +kernel
theorem dX9_keep_41 : decode cX9_keep 41 = .ok (.isub, 1) := by decide +kernel
theorem dX9_keep_42 : decode cX9_keep 42 = .ok (.bipush 8, 2) := by decide +kernel
theorem dX9_keep_44 : decode cX9_keep 44 = .ok (.if_icmp .le 8, 3) := by decide +kernel
theorem dX9_keep_47 : decode cX9_keep 47 = .ok (.bipush 33, 2) := by decide +kernel
theorem dX9_keep_49 : decode cX9_keep 49 = .ok (.goto 9, 3) := by decide +kernel
theorem dX9_keep_52 : decode cX9_keep 52 = .ok (.aload_n 0, 1) := by decide +kernel
theorem dX9_keep_53 : decode cX9_keep 53 = .ok (.lload 4, 2) := by decide +kernel
theorem dX9_keep_55 : decode cX9_keep 55 = .ok (.invokevirtual 83, 3) := by decide +kernel
theorem dX9_keep_58 : decode cX9_keep 58 = .ok (.istore_n 3, 1) := by decide +kernel
theorem dX9_keep_59 : decode cX9_keep 59 = .ok (.goto 55, 3) := by decide +kernel
theorem dX9_keep_62 : decode cX9_keep 62 = .ok (.iload 6, 2) := by decide +kernel
theorem dX9_keep_64 : decode cX9_keep 64 = .ok (.invokestatic 87, 3) := by decide +kernel
theorem dX9_keep_67 : decode cX9_keep 67 = .ok (.ifCond .eq 36, 3) := by decide +kernel
theorem dX9_keep_70 : decode cX9_keep 70 = .ok (.aload_n 0, 1) := by decide +kernel
theorem dX9_keep_71 : decode cX9_keep 71 = .ok (.iload_n 1, 1) := by decide +kernel
theorem dX9_keep_72 : decode cX9_keep 72 = .ok (.invokevirtual 90, 3) := by decide +kernel
theorem dX9_keep_75 : decode cX9_keep 75 = .ok (.istore_n 2, 1) := by decide +kernel
theorem dX9_keep_76 : decode cX9_keep 76 = .ok (.aload_n 0, 1) := by decide +kernel
theorem dX9_keep_77 : decode cX9_keep 77 = .ok (.iload_n 1, 1) := by decide +kernel
theorem dX9_keep_78 : decode cX9_keep 78 = .ok (.iload_n 2, 1) := by decide +kernel
theorem dX9_keep_79 : decode cX9_keep 79 = .ok (.invokevirtual 93, 3) := by decide +kernel
theorem dX9_keep_82 : decode cX9_keep 82 = .ok (.i2l, 1) := by decide +kernel
theorem dX9_keep_83 : decode cX9_keep 83 = .ok (.lstore 4, 2) := by decide +kernel
theorem dX9_keep_85 : decode cX9_keep 85 = .ok (.iload_n 2, 1) := by decide +kernel
theorem dX9_keep_86 : decode cX9_keep 86 = .ok (.iload_n 1, 1) := by decide +kernel
theorem dX9_keep_87 : decode cX9_keep 87 = .ok (.isub, 1) := by decide +kernel
theorem dX9_keep_88 : decode cX9_keep 88 = .ok (.iconst 4, 1) := by decide +kernel
theorem dX9_keep_89 : decode cX9_keep 89 = .ok (.if_icmp .le 8, 3) := by decide +kernel
theorem dX9_keep_92 : decode cX9_keep 92 = .ok (.bipush 33, 2) := by decide +kernel
theorem dX9_keep_94 : decode cX9_keep 94 = .ok (.goto 5, 3) := by decide +kernel
theorem dX9_keep_97 : decode cX9_keep 97 = .ok (.bipush 30, 2) := by decide +kernel
theorem dX9_keep_99 : decode cX9_keep 99 = .ok (.istore_n 3, 1) := by decide +kernel
theorem dX9_keep_100 : decode cX9_keep 100 = .ok (.goto 14, 3) := by decide +kernel
theorem dX9_keep_103 : decode cX9_keep 103 = .ok (.iload 6, 2) := by decide +kernel
theorem dX9_keep_105 : decode cX9_keep 105 = .ok (.invokestatic 96, 3) := by decide +kernel
theorem dX9_keep_108 : decode cX9_keep 108 = .ok (.ifCond .eq 6, 3) := by decide +kernel
theorem dX9_keep_111 : decode cX9_keep 111 = .ok (.iload 6, 2) := by decide +kernel
theorem dX9_keep_113 : decode cX9_keep 113 = .ok (.istore_n 3, 1) := by decide +kernel
theorem dX9_keep_114 : decode cX9_keep 114 = .ok (.aload_n 0, 1) := by decide +kernel
theorem dX9_keep_115 : decode cX9_keep 115 = .ok (.getfield 26, 3) := by decide +kernel
theorem dX9_keep_118 : decode cX9_keep 118 = .ok (.sipush 401, 3) := by decide +kernel
theorem dX9_keep_121 : decode cX9_keep 121 = .ok (.if_icmp .ge 46, 3) := by decide +kernel
theorem dX9_keep_124 : decode cX9_keep 124 = .ok (.aload_n 0, 1) := by decide +kernel
theorem dX9_keep_125 : decode cX9_keep 125 = .ok (.getfield 15, 3) := by decide +kernel
theorem dX9_keep_128 : decode cX9_keep 128 = .ok (.aload_n 0, 1) := by decide +kernel
theorem dX9_keep_129 : decode cX9_keep 129 = .ok (.getfield 26, 3) := by decide +kernel
theorem dX9_keep_132 : decode cX9_keep 132 = .ok (.iload_n 3, 1) := by decide +kernel
theorem dX9_keep_133 : decode cX9_keep 133 = .ok (.i2b, 1) := by decide +kernel
theorem dX9_keep_134 : decode cX9_keep 134 = .ok (.bastore, 1) := by decide +kernel
theorem dX9_keep_135 : decode cX9_keep 135 = .ok (.aload_n 0, 1) := by decide +kernel
theorem dX9_keep_136 : decode cX9_keep 136 = .ok (.getfield 19, 3) := by decide +kernel
theorem dX9_keep_139 : decode cX9_keep 139 = .ok (.aload_n 0, 1) := by decide +kernel
theorem dX9_keep_140 : decode cX9_keep 140 = .ok (.getfield 26, 3) := by decide +kernel
theorem dX9_keep_143 : decode cX9_keep 143 = .ok (.iload_n 1, 1) := by decide +kernel
theorem dX9_keep_144 : decode cX9_keep 144 = .ok (.i2s, 1) := by decide +kernel
theorem dX9_keep_145 : decode cX9_keep 145 = .ok (.sastore, 1) := by decide +kernel
theorem dX9_keep_146 : decode cX9_keep 146 = .ok (.aload_n 0, 1) := by decide +kernel
theorem dX9_keep_147 : decode cX9_keep 147 = .ok (.getfield 23, 3) := by decide +kernel
theorem dX9_keep_150 : decode cX9_keep 150 = .ok (.aload_n 0, 1) := by decide +kernel
theorem dX9_keep_151 : decode cX9_keep 151 = .ok (.getfield 26, 3) := by decide +kernel
theorem dX9_keep_154 : decode cX9_keep 154 = .ok (.lload 4, 2) := by decide +kernel
theorem dX9_keep_156 : decode cX9_keep 156 = .ok (.lastore, 1) := by decide +kernel
theorem dX9_keep_157 : decode cX9_keep 157 = .ok (.aload_n 0, 1) := by decide +kernel
theorem dX9_keep_158 : decode cX9_keep 158 = .ok (.dup, 1) := by decide +kernel
theorem dX9_keep_159 : decode cX9_keep 159 = .ok (.getfield 26, 3) := by decide +kernel
theorem dX9_keep_162 : decode cX9_keep 162 = .ok (.iconst 1, 1) := by decide +kernel
theorem dX9_keep_163 : decode cX9_keep 163 = .ok (.iadd, 1) := by decide +kernel
theorem dX9_keep_164 : decode cX9_keep 164 = .ok (.putfield 26, 3) := by decide +kernel
theorem dX9_keep_167 : decode cX9_keep 167 = .ok (.iload_n 2, 1) := by decide +kernel
theorem dX9_keep_168 : decode cX9_keep 168 = .ok (.ireturn, 1) := by decide +kernel
theorem dX9_signAt_0 : decode cX9_signAt 0 = .ok (.iload_n 1, 1) := by decide +kernel
theorem dX9_signAt_1 : decode cX9_signAt 1 = .ok (.ifCond .lt 33, 3) := by decide +kernel
theorem dX9_signAt_4 : decode cX9_signAt 4 = .ok (.iload_n 1, 1) := by decide +kernel
theorem dX9_signAt_5 : decode cX9_signAt 5 = .ok (.aload_n 0, 1) := by decide +kernel
theorem dX9_signAt_6 : decode cX9_signAt 6 = .ok (.getfield 30, 3) := by decide +kernel
theorem dX9_signAt_9 : decode cX9_signAt 9 = .ok (.if_icmp .ge 25, 3) := by decide +kernel
theorem dX9_signAt_12 : decode cX9_signAt 12 = .ok (.iload_n 1, 1) := by decide +kernel
theorem dX9_signAt_13 : decode cX9_signAt 13 = .ok (.aload_n 0, 1) := by decide +kernel
theorem dX9_signAt_14 : decode cX9_signAt 14 = .ok (.getfield 33, 3) := by decide +kernel
theorem dX9_signAt_17 : decode cX9_signAt 17 = .ok (.arraylength, 1) := by decide +kernel
theorem dX9_signAt_18 : decode cX9_signAt 18 = .ok (.if_icmp .ge 16, 3) := by decide +kernel
theorem dX9_signAt_21 : decode cX9_signAt 21 = .ok (.aload_n 0, 1) := by decide +kernel
theorem dX9_signAt_22 : decode cX9_signAt 22 = .ok (.getfield 33, 3) := by decide +kernel
theorem dX9_signAt_25 : decode cX9_signAt 25 = .ok (.iload_n 1, 1) := by decide +kernel
theorem dX9_signAt_26 : decode cX9_signAt 26 = .ok (.baload, 1) := by decide +kernel
theorem dX9_signAt_27 : decode cX9_signAt 27 = .ok (.sipush 255, 3) := by decide +kernel
theorem dX9_signAt_30 : decode cX9_signAt 30 = .ok (.iand, 1) := by decide +kernel
theorem dX9_signAt_31 : decode cX9_signAt 31 = .ok (.goto 4, 3) := by decide +kernel
theorem dX9_signAt_34 : decode cX9_signAt 34 = .ok (.iconst 0, 1) := by decide +kernel
theorem dX9_signAt_35 : decode cX9_signAt 35 = .ok (.ireturn, 1) := by decide +kernel
theorem dX9_behindBlanks_0 : decode cX9_behindBlanks 0 = .ok (.iload_n 1, 1) := by decide +kernel
theorem dX9_behindBlanks_1 : decode cX9_behindBlanks 1 = .ok (.istore_n 2, 1) := by decide +kernel
theorem dX9_behindBlanks_2 : decode cX9_behindBlanks 2 = .ok (.iload_n 2, 1) := by decide +kernel
theorem dX9_behindBlanks_3 : decode cX9_behindBlanks 3 = .ok (.aload_n 0, 1) := by decide +kernel
theorem dX9_behindBlanks_4 : decode cX9_behindBlanks 4 = .ok (.getfield 30, 3) := by decide +kernel
theorem dX9_behindBlanks_7 : decode cX9_behindBlanks 7 = .ok (.if_icmp .ge 20, 3) := by decide +kernel
theorem dX9_behindBlanks_10 : decode cX9_behindBlanks 10 = .ok (.aload_n 0, 1) := by decide +kernel
theorem dX9_behindBlanks_11 : decode cX9_behindBlanks 11 = .ok (.iload_n 2, 1) := by decide +kernel
theorem dX9_behindBlanks_12 : decode cX9_behindBlanks 12 = .ok (.invokevirtual 69, 3) := by decide +kernel
theorem dX9_behindBlanks_15 : decode cX9_behindBlanks 15 = .ok (.invokestatic 99, 3) := by decide +kernel
theorem dX9_behindBlanks_18 : decode cX9_behindBlanks 18 = .ok (.ifCond .eq 9, 3) := by decide +kernel
theorem dX9_behindBlanks_21 : decode cX9_behindBlanks 21 = .ok (.iinc 2 1, 3) := by decide +kernel
theorem dX9_behindBlanks_24 : decode cX9_behindBlanks 24 = .ok (.goto (-22), 3) := by decide +kernel
theorem dX9_behindBlanks_27 : decode cX9_behindBlanks 27 = .ok (.iload_n 2, 1) := by decide +kernel
theorem dX9_behindBlanks_28 : decode cX9_behindBlanks 28 = .ok (.ireturn, 1) := by decide +kernel
theorem dX9_behindLetters_0 : decode cX9_behindLetters 0 = .ok (.iload_n 1, 1) := by decide +kernel
theorem dX9_behindLetters_1 : decode cX9_behindLetters 1 = .ok (.istore_n 2, 1) := by decide +kernel
theorem dX9_behindLetters_2 : decode cX9_behindLetters 2 = .ok (.iload_n 2, 1) := by decide +kernel
theorem dX9_behindLetters_3 : decode cX9_behindLetters 3 = .ok (.aload_n 0, 1) := by decide +kernel
theorem dX9_behindLetters_4 : decode cX9_behindLetters 4 = .ok (.getfield 30, 3) := by decide +kernel
theorem dX9_behindLetters_7 : decode cX9_behindLetters 7 = .ok (.if_icmp .ge 20, 3) := by decide +kernel
theorem dX9_behindLetters_10 : decode cX9_behindLetters 10 = .ok (.aload_n 0, 1) := by decide +kernel
theorem dX9_behindLetters_11 : decode cX9_behindLetters 11 = .ok (.iload_n 2, 1) := by decide +kernel
theorem dX9_behindLetters_12 : decode cX9_behindLetters 12 = .ok (.invokevirtual 69, 3) := by decide +kernel
theorem dX9_behindLetters_15 : decode cX9_behindLetters 15 = .ok (.invokestatic 72, 3) := by decide +kernel
theorem dX9_behindLetters_18 : decode cX9_behindLetters 18 = .ok (.ifCond .eq 9, 3) := by decide +kernel
theorem dX9_behindLetters_21 : decode cX9_behindLetters 21 = .ok (.iinc 2 1, 3) := by decide +kernel
theorem dX9_behindLetters_24 : decode cX9_behindLetters 24 = .ok (.goto (-22), 3) := by decide +kernel
theorem dX9_behindLetters_27 : decode cX9_behindLetters 27 = .ok (.iload_n 2, 1) := by decide +kernel
theorem dX9_behindLetters_28 : decode cX9_behindLetters 28 = .ok (.ireturn, 1) := by decide +kernel
theorem dX9_behindDigits_0 : decode cX9_behindDigits 0 = .ok (.iload_n 1, 1) := by decide +kernel
theorem dX9_behindDigits_1 : decode cX9_behindDigits 1 = .ok (.istore_n 2, 1) := by decide +kernel
theorem dX9_behindDigits_2 : decode cX9_behindDigits 2 = .ok (.iload_n 2, 1) := by decide +kernel
theorem dX9_behindDigits_3 : decode cX9_behindDigits 3 = .ok (.aload_n 0, 1) := by decide +kernel
theorem dX9_behindDigits_4 : decode cX9_behindDigits 4 = .ok (.getfield 30, 3) := by decide +kernel
theorem dX9_behindDigits_7 : decode cX9_behindDigits 7 = .ok (.if_icmp .ge 20, 3) := by decide +kernel
theorem dX9_behindDigits_10 : decode cX9_behindDigits 10 = .ok (.aload_n 0, 1) := by decide +kernel
theorem dX9_behindDigits_11 : decode cX9_behindDigits 11 = .ok (.iload_n 2, 1) := by decide +kernel
theorem dX9_behindDigits_12 : decode cX9_behindDigits 12 = .ok (.invokevirtual 69, 3) := by decide +kernel
theorem dX9_behindDigits_15 : decode cX9_behindDigits 15 = .ok (.invokestatic 87, 3) := by decide +kernel
theorem dX9_behindDigits_18 : decode cX9_behindDigits 18 = .ok (.ifCond .eq 9, 3) := by decide +kernel
theorem dX9_behindDigits_21 : decode cX9_behindDigits 21 = .ok (.iinc 2 1, 3) := by decide +kernel
theorem dX9_behindDigits_24 : decode cX9_behindDigits 24 = .ok (.goto (-22), 3) := by decide +kernel
theorem dX9_behindDigits_27 : decode cX9_behindDigits 27 = .ok (.iload_n 2, 1) := by decide +kernel
theorem dX9_behindDigits_28 : decode cX9_behindDigits 28 = .ok (.ireturn, 1) := by decide +kernel
theorem dX9_lettersOf_0 : decode cX9_lettersOf 0 = .ok (.lconst 0, 1) := by decide +kernel
theorem dX9_lettersOf_1 : decode cX9_lettersOf 1 = .ok (.lstore_n 3, 1) := by decide +kernel
theorem dX9_lettersOf_2 : decode cX9_lettersOf 2 = .ok (.iload_n 1, 1) := by decide +kernel
theorem dX9_lettersOf_3 : decode cX9_lettersOf 3 = .ok (.istore 5, 2) := by decide +kernel
theorem dX9_lettersOf_5 : decode cX9_lettersOf 5 = .ok (.iload 5, 2) := by decide +kernel
theorem dX9_lettersOf_7 : decode cX9_lettersOf 7 = .ok (.iload_n 2, 1) := by decide +kernel
theorem dX9_lettersOf_8 : decode cX9_lettersOf 8 = .ok (.if_icmp .ge 20, 3) := by decide +kernel
theorem dX9_lettersOf_11 : decode cX9_lettersOf 11 = .ok (.lload_n 3, 1) := by decide +kernel
theorem dX9_lettersOf_12 : decode cX9_lettersOf 12 = .ok (.aload_n 0, 1) := by decide +kernel
theorem dX9_lettersOf_13 : decode cX9_lettersOf 13 = .ok (.iload 5, 2) := by decide +kernel
theorem dX9_lettersOf_15 : decode cX9_lettersOf 15 = .ok (.invokevirtual 69, 3) := by decide +kernel
theorem dX9_lettersOf_18 : decode cX9_lettersOf 18 = .ok (.invokestatic 47, 3) := by decide +kernel
theorem dX9_lettersOf_21 : decode cX9_lettersOf 21 = .ok (.lstore_n 3, 1) := by decide +kernel
theorem dX9_lettersOf_22 : decode cX9_lettersOf 22 = .ok (.iinc 5 1, 3) := by decide +kernel
theorem dX9_lettersOf_25 : decode cX9_lettersOf 25 = .ok (.goto (-20), 3) := by decide +kernel
theorem dX9_lettersOf_28 : decode cX9_lettersOf 28 = .ok (.lload_n 3, 1) := by decide +kernel
theorem dX9_lettersOf_29 : decode cX9_lettersOf 29 = .ok (.lreturn, 1) := by decide +kernel
theorem dX9_kindOfLetters_0 : decode cX9_kindOfLetters 0 = .ok (.iconst 0, 1) := by decide +kernel
theorem dX9_kindOfLetters_1 : decode cX9_kindOfLetters 1 = .ok (.istore_n 3, 1) := by decide +kernel
theorem dX9_kindOfLetters_2 : decode cX9_kindOfLetters 2 = .ok (.iload_n 3, 1) := by decide +kernel
theorem dX9_kindOfLetters_3 : decode cX9_kindOfLetters 3 = .ok (.bipush 22, 2) := by decide +kernel
theorem dX9_kindOfLetters_5 : decode cX9_kindOfLetters 5 = .ok (.if_icmp .ge 22, 3) := by decide +kernel
theorem dX9_kindOfLetters_8 : decode cX9_kindOfLetters 8 = .ok (.aload_n 0, 1) := by decide +kernel
theorem dX9_kindOfLetters_9 : decode cX9_kindOfLetters 9 = .ok (.getfield 11, 3) := by decide +kernel
theorem dX9_kindOfLetters_12 : decode cX9_kindOfLetters 12 = .ok (.iload_n 3, 1) := by decide +kernel
theorem dX9_kindOfLetters_13 : decode cX9_kindOfLetters 13 = .ok (.laload, 1) := by decide +kernel
theorem dX9_kindOfLetters_14 : decode cX9_kindOfLetters 14 = .ok (.lload_n 1, 1) := by decide +kernel
theorem dX9_kindOfLetters_15 : decode cX9_kindOfLetters 15 = .ok (.lcmp, 1) := by decide +kernel
theorem dX9_kindOfLetters_16 : decode cX9_kindOfLetters 16 = .ok (.ifCond .ne 5, 3) := by decide +kernel
theorem dX9_kindOfLetters_19 : decode cX9_kindOfLetters 19 = .ok (.iload_n 3, 1) := by decide +kernel
theorem dX9_kindOfLetters_20 : decode cX9_kindOfLetters 20 = .ok (.ireturn, 1) := by decide +kernel
theorem dX9_kindOfLetters_21 : decode cX9_kindOfLetters 21 = .ok (.iinc 3 1, 3) := by decide +kernel
theorem dX9_kindOfLetters_24 : decode cX9_kindOfLetters 24 = .ok (.goto (-22), 3) := by decide +kernel
theorem dX9_kindOfLetters_27 : decode cX9_kindOfLetters 27 = .ok (.bipush 31, 2) := by decide +kernel
theorem dX9_kindOfLetters_29 : decode cX9_kindOfLetters 29 = .ok (.ireturn, 1) := by decide +kernel
theorem dX9_numberOf_0 : decode cX9_numberOf 0 = .ok (.iconst 0, 1) := by decide +kernel
theorem dX9_numberOf_1 : decode cX9_numberOf 1 = .ok (.istore_n 3, 1) := by decide +kernel
theorem dX9_numberOf_2 : decode cX9_numberOf 2 = .ok (.iload_n 1, 1) := by decide +kernel
theorem dX9_numberOf_3 : decode cX9_numberOf 3 = .ok (.istore 4, 2) := by decide +kernel
theorem dX9_numberOf_5 : decode cX9_numberOf 5 = .ok (.iload 4, 2) := by decide +kernel
theorem dX9_numberOf_7 : decode cX9_numberOf 7 = .ok (.iload_n 2, 1) := by decide +kernel
theorem dX9_numberOf_8 : decode cX9_numberOf 8 = .ok (.if_icmp .ge 24, 3) := by decide +kernel
theorem dX9_numberOf_11 : decode cX9_numberOf 11 = .ok (.bipush 10, 2) := by decide +kernel
theorem dX9_numberOf_13 : decode cX9_numberOf 13 = .ok (.iload_n 3, 1) := by decide +kernel
theorem dX9_numberOf_14 : decode cX9_numberOf 14 = .ok (.imul, 1) := by decide +kernel
theorem dX9_numberOf_15 : decode cX9_numberOf 15 = .ok (.aload_n 0, 1) := by decide +kernel
theorem dX9_numberOf_16 : decode cX9_numberOf 16 = .ok (.iload 4, 2) := by decide +kernel
theorem dX9_numberOf_18 : decode cX9_numberOf 18 = .ok (.invokevirtual 69, 3) := by decide +kernel
theorem dX9_numberOf_21 : decode cX9_numberOf 21 = .ok (.bipush 48, 2) := by decide +kernel
theorem dX9_numberOf_23 : decode cX9_numberOf 23 = .ok (.isub, 1) := by decide +kernel
theorem dX9_numberOf_24 : decode cX9_numberOf 24 = .ok (.iadd, 1) := by decide +kernel
theorem dX9_numberOf_25 : decode cX9_numberOf 25 = .ok (.istore_n 3, 1) := by decide +kernel
theorem dX9_numberOf_26 : decode cX9_numberOf 26 = .ok (.iinc 4 1, 3) := by decide +kernel
theorem dX9_numberOf_29 : decode cX9_numberOf 29 = .ok (.goto (-24), 3) := by decide +kernel
theorem dX9_numberOf_32 : decode cX9_numberOf 32 = .ok (.iload_n 3, 1) := by decide +kernel
theorem dX9_numberOf_33 : decode cX9_numberOf 33 = .ok (.ireturn, 1) := by decide +kernel
theorem dX9_isBlank_0 : decode cX9_isBlank 0 = .ok (.iload_n 0, 1) := by decide +kernel
theorem dX9_isBlank_1 : decode cX9_isBlank 1 = .ok (.bipush 9, 2) := by decide +kernel
theorem dX9_isBlank_3 : decode cX9_isBlank 3 = .ok (.if_icmp .eq 21, 3) := by decide +kernel
theorem dX9_isBlank_6 : decode cX9_isBlank 6 = .ok (.iload_n 0, 1) := by decide +kernel
theorem dX9_isBlank_7 : decode cX9_isBlank 7 = .ok (.bipush 10, 2) := by decide +kernel
theorem dX9_isBlank_9 : decode cX9_isBlank 9 = .ok (.if_icmp .eq 15, 3) := by decide +kernel
theorem dX9_isBlank_12 : decode cX9_isBlank 12 = .ok (.iload_n 0, 1) := by decide +kernel
theorem dX9_isBlank_13 : decode cX9_isBlank 13 = .ok (.bipush 13, 2) := by decide +kernel
theorem dX9_isBlank_15 : decode cX9_isBlank 15 = .ok (.if_icmp .eq 9, 3) := by decide +kernel
theorem dX9_isBlank_18 : decode cX9_isBlank 18 = .ok (.iload_n 0, 1) := by decide +kernel
theorem dX9_isBlank_19 : decode cX9_isBlank 19 = .ok (.bipush 32, 2) := by decide +kernel
theorem dX9_isBlank_21 : decode cX9_isBlank 21 = .ok (.if_icmp .ne 7, 3) := by decide +kernel
theorem dX9_isBlank_24 : decode cX9_isBlank 24 = .ok (.iconst 1, 1) := by decide +kernel
theorem dX9_isBlank_25 : decode cX9_isBlank 25 = .ok (.goto 4, 3) := by decide +kernel
theorem dX9_isBlank_28 : decode cX9_isBlank 28 = .ok (.iconst 0, 1) := by decide +kernel
theorem dX9_isBlank_29 : decode cX9_isBlank 29 = .ok (.ireturn, 1) := by decide +kernel
theorem dX9_isLetter_0 : decode cX9_isLetter 0 = .ok (.iload_n 0, 1) := by decide +kernel
theorem dX9_isLetter_1 : decode cX9_isLetter 1 = .ok (.bipush 97, 2) := by decide +kernel
theorem dX9_isLetter_3 : decode cX9_isLetter 3 = .ok (.if_icmp .lt 13, 3) := by decide +kernel
theorem dX9_isLetter_6 : decode cX9_isLetter 6 = .ok (.iload_n 0, 1) := by decide +kernel
theorem dX9_isLetter_7 : decode cX9_isLetter 7 = .ok (.bipush 122, 2) := by decide +kernel
theorem dX9_isLetter_9 : decode cX9_isLetter 9 = .ok (.if_icmp .gt 7, 3) := by decide +kernel
theorem dX9_isLetter_12 : decode cX9_isLetter 12 = .ok (.iconst 1, 1) := by decide +kernel
theorem dX9_isLetter_13 : decode cX9_isLetter 13 = .ok (.goto 4, 3) := by decide +kernel
theorem dX9_isLetter_16 : decode cX9_isLetter 16 = .ok (.iconst 0, 1) := by decide +kernel
theorem dX9_isLetter_17 : decode cX9_isLetter 17 = .ok (.ireturn, 1) := by decide +kernel
theorem dX9_isDigit_0 : decode cX9_isDigit 0 = .ok (.iload_n 0, 1) := by decide +kernel
theorem dX9_isDigit_1 : decode cX9_isDigit 1 = .ok (.bipush 48, 2) := by decide +kernel
theorem dX9_isDigit_3 : decode cX9_isDigit 3 = .ok (.if_icmp .lt 13, 3) := by decide +kernel
theorem dX9_isDigit_6 : decode cX9_isDigit 6 = .ok (.iload_n 0, 1) := by decide +kernel
theorem dX9_isDigit_7 : decode cX9_isDigit 7 = .ok (.bipush 57, 2) := by decide +kernel
theorem dX9_isDigit_9 : decode cX9_isDigit 9 = .ok (.if_icmp .gt 7, 3) := by decide +kernel
theorem dX9_isDigit_12 : decode cX9_isDigit 12 = .ok (.iconst 1, 1) := by decide +kernel
theorem dX9_isDigit_13 : decode cX9_isDigit 13 = .ok (.goto 4, 3) := by decide +kernel
theorem dX9_isDigit_16 : decode cX9_isDigit 16 = .ok (.iconst 0, 1) := by decide +kernel
theorem dX9_isDigit_17 : decode cX9_isDigit 17 = .ok (.ireturn, 1) := by decide +kernel
theorem dX9_isSign_0 : decode cX9_isSign 0 = .ok (.iload_n 0, 1) := by decide +kernel
theorem dX9_isSign_1 : decode cX9_isSign 1 = .ok (.tableswitch 105 40 61 #[103, 103, 103, 103, 105, 103, 105, 103, 105, 105, 105, 105, 105, 105, 105, 105, 105, 105, 105, 103, 103, 103], 103) := by decide +kernel
theorem dX9_isSign_104 : decode cX9_isSign 104 = .ok (.iconst 1, 1) := by decide +kernel
theorem dX9_isSign_105 : decode cX9_isSign 105 = .ok (.ireturn, 1) := by decide +kernel
theorem dX9_isSign_106 : decode cX9_isSign 106 = .ok (.iconst 0, 1) := by decide +kernel
theorem dX9_isSign_107 : decode cX9_isSign 107 = .ok (.ireturn, 1) := by decide +kernel
