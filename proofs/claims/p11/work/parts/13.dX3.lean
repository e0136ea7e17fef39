theorem dX3_init_0 : decode cX3_init 0 = .ok (.aload_n 0, 1) := by decide +kernel
theorem dX3_init_1 : decode cX3_init 1 = .ok (.invokespecial 3, 3) := by decide +kernel
theorem dX3_init_4 : decode cX3_init 4 = .ok (.aload_n 0, 1) := by decide +kernel
theorem dX3_init_5 : decode cX3_init 5 = .ok (.iconst 0, 1) := by decide +kernel
theorem dX3_init_6 : decode cX3_init 6 = .ok (.putfield 9, 3) := by decide +kernel
theorem dX3_init_9 : decode cX3_init 9 = .ok (.aload_n 0, 1) := by decide +kernel
theorem dX3_init_10 : decode cX3_init 10 = .ok (.iconst 0, 1) := by decide +kernel
theorem dX3_init_11 : decode cX3_init 11 = .ok (.putfield 15, 3) := by decide +kernel
theorem dX3_init_14 : decode cX3_init 14 = .ok (.aload_n 0, 1) := by decide +kernel
theorem dX3_init_15 : decode cX3_init 15 = .ok (.iconst 0, 1) := by decide +kernel
theorem dX3_init_16 : decode cX3_init 16 = .ok (.putfield 18, 3) := by decide +kernel
theorem dX3_init_19 : decode cX3_init 19 = .ok (.aload_n 0, 1) := by decide +kernel
theorem dX3_init_20 : decode cX3_init 20 = .ok (.iconst 0, 1) := by decide +kernel
theorem dX3_init_21 : decode cX3_init 21 = .ok (.putfield 21, 3) := by decide +kernel
theorem dX3_init_24 : decode cX3_init 24 = .ok (.return_, 1) := by decide +kernel
theorem dX3_lay_0 : decode cX3_lay 0 = .ok (.aload_n 0, 1) := by decide +kernel
theorem dX3_lay_1 : decode cX3_lay 1 = .ok (.iload_n 1, 1) := by decide +kernel
theorem dX3_lay_2 : decode cX3_lay 2 = .ok (.putfield 9, 3) := by decide +kernel
theorem dX3_lay_5 : decode cX3_lay 5 = .ok (.aload_n 0, 1) := by decide +kernel
theorem dX3_lay_6 : decode cX3_lay 6 = .ok (.iload_n 2, 1) := by decide +kernel
theorem dX3_lay_7 : decode cX3_lay 7 = .ok (.putfield 15, 3) := by decide +kernel
theorem dX3_lay_10 : decode cX3_lay 10 = .ok (.aload_n 0, 1) := by decide +kernel
theorem dX3_lay_11 : decode cX3_lay 11 = .ok (.iconst 0, 1) := by decide +kernel
theorem dX3_lay_12 : decode cX3_lay 12 = .ok (.putfield 21, 3) := by decide +kernel
theorem dX3_lay_15 : decode cX3_lay 15 = .ok (.iconst 0, 1) := by decide +kernel
theorem dX3_lay_16 : decode cX3_lay 16 = .ok (.istore_n 3, 1) := by decide +kernel
theorem dX3_lay_17 : decode cX3_lay 17 = .ok (.iload_n 3, 1) := by decide +kernel
theorem dX3_lay_18 : decode cX3_lay 18 = .ok (.aload_n 0, 1) := by decide +kernel
theorem dX3_lay_19 : decode cX3_lay 19 = .ok (.getfield 15, 3) := by decide +kernel
theorem dX3_lay_22 : decode cX3_lay 22 = .ok (.if_icmp .ge 26, 3) := by decide +kernel
theorem dX3_lay_25 : decode cX3_lay 25 = .ok (.aload_n 0, 1) := by decide +kernel
theorem dX3_lay_26 : decode cX3_lay 26 = .ok (.dup, 1) := by decide +kernel
theorem dX3_lay_27 : decode cX3_lay 27 = .ok (.getfield 21, 3) := by decide +kernel
theorem dX3_lay_30 : decode cX3_lay 30 = .ok (.iconst 1, 1) := by decide +kernel
theorem dX3_lay_31 : decode cX3_lay 31 = .ok (.aload_n 0, 1) := by decide +kernel
theorem dX3_lay_32 : decode cX3_lay 32 = .ok (.getfield 9, 3) := by decide +kernel
theorem dX3_lay_35 : decode cX3_lay 35 = .ok (.iload_n 3, 1) := by decide +kernel
theorem dX3_lay_36 : decode cX3_lay 36 = .ok (.imul, 1) := by decide +kernel
theorem dX3_lay_37 : decode cX3_lay 37 = .ok (.ishl, 1) := by decide +kernel
theorem dX3_lay_38 : decode cX3_lay 38 = .ok (.ior, 1) := by decide +kernel
theorem dX3_lay_39 : decode cX3_lay 39 = .ok (.putfield 21, 3) := by decide +kernel
theorem dX3_lay_42 : decode cX3_lay 42 = .ok (.iinc 3 1, 3) := by decide +kernel
theorem dX3_lay_45 : decode cX3_lay 45 = .ok (.goto (-28), 3) := by decide +kernel
theorem dX3_lay_48 : decode cX3_lay 48 = .ok (.aload_n 0, 1) := by decide +kernel
theorem dX3_lay_49 : decode cX3_lay 49 = .ok (.iconst 1, 1) := by decide +kernel
theorem dX3_lay_50 : decode cX3_lay 50 = .ok (.aload_n 0, 1) := by decide +kernel
theorem dX3_lay_51 : decode cX3_lay 51 = .ok (.getfield 9, 3) := by decide +kernel
theorem dX3_lay_54 : decode cX3_lay 54 = .ok (.aload_n 0, 1) := by decide +kernel
theorem dX3_lay_55 : decode cX3_lay 55 = .ok (.getfield 15, 3) := by decide +kernel
theorem dX3_lay_58 : decode cX3_lay 58 = .ok (.imul, 1) := by decide +kernel
theorem dX3_lay_59 : decode cX3_lay 59 = .ok (.ishl, 1) := by decide +kernel
theorem dX3_lay_60 : decode cX3_lay 60 = .ok (.iconst 1, 1) := by decide +kernel
theorem dX3_lay_61 : decode cX3_lay 61 = .ok (.isub, 1) := by decide +kernel
theorem dX3_lay_62 : decode cX3_lay 62 = .ok (.putfield 18, 3) := by decide +kernel
theorem dX3_lay_65 : decode cX3_lay 65 = .ok (.return_, 1) := by decide +kernel
theorem dX3_has_0 : decode cX3_has 0 = .ok (.iload_n 1, 1) := by decide +kernel
theorem dX3_has_1 : decode cX3_has 1 = .ok (.ifCond .lt 20, 3) := by decide +kernel
theorem dX3_has_4 : decode cX3_has 4 = .ok (.iload_n 1, 1) := by decide +kernel
theorem dX3_has_5 : decode cX3_has 5 = .ok (.aload_n 0, 1) := by decide +kernel
theorem dX3_has_6 : decode cX3_has 6 = .ok (.getfield 9, 3) := by decide +kernel
theorem dX3_has_9 : decode cX3_has 9 = .ok (.aload_n 0, 1) := by decide +kernel
theorem dX3_has_10 : decode cX3_has 10 = .ok (.getfield 15, 3) := by decide +kernel
theorem dX3_has_13 : decode cX3_has 13 = .ok (.imul, 1) := by decide +kernel
theorem dX3_has_14 : decode cX3_has 14 = .ok (.if_icmp .ge 7, 3) := by decide +kernel
theorem dX3_has_17 : decode cX3_has 17 = .ok (.iconst 1, 1) := by decide +kernel
theorem dX3_has_18 : decode cX3_has 18 = .ok (.goto 4, 3) := by decide +kernel
theorem dX3_has_21 : decode cX3_has 21 = .ok (.iconst 0, 1) := by decide +kernel
theorem dX3_has_22 : decode cX3_has 22 = .ok (.ireturn, 1) := by decide +kernel
theorem dX3_leftOf_0 : decode cX3_leftOf 0 = .ok (.aload_n 0, 1) := by decide +kernel
theorem dX3_leftOf_1 : decode cX3_leftOf 1 = .ok (.getfield 9, 3) := by decide +kernel
theorem dX3_leftOf_4 : decode cX3_leftOf 4 = .ok (.ifCond .le 12, 3) := by decide +kernel
theorem dX3_leftOf_7 : decode cX3_leftOf 7 = .ok (.iload_n 1, 1) := by decide +kernel
theorem dX3_leftOf_8 : decode cX3_leftOf 8 = .ok (.aload_n 0, 1) := by decide +kernel
theorem dX3_leftOf_9 : decode cX3_leftOf 9 = .ok (.getfield 9, 3) := by decide +kernel
theorem dX3_leftOf_12 : decode cX3_leftOf 12 = .ok (.irem, 1) := by decide +kernel
theorem dX3_leftOf_13 : decode cX3_leftOf 13 = .ok (.goto 4, 3) := by decide +kernel
theorem dX3_leftOf_16 : decode cX3_leftOf 16 = .ok (.iconst 0, 1) := by decide +kernel
theorem dX3_leftOf_17 : decode cX3_leftOf 17 = .ok (.ireturn, 1) := by decide +kernel
theorem dX3_topOf_0 : decode cX3_topOf 0 = .ok (.aload_n 0, 1) := by decide +kernel
theorem dX3_topOf_1 : decode cX3_topOf 1 = .ok (.getfield 9, 3) := by decide +kernel
theorem dX3_topOf_4 : decode cX3_topOf 4 = .ok (.ifCond .le 12, 3) := by decide +kernel
theorem dX3_topOf_7 : decode cX3_topOf 7 = .ok (.iload_n 1, 1) := by decide +kernel
theorem dX3_topOf_8 : decode cX3_topOf 8 = .ok (.aload_n 0, 1) := by decide +kernel
theorem dX3_topOf_9 : decode cX3_topOf 9 = .ok (.getfield 9, 3) := by decide +kernel
theorem dX3_topOf_12 : decode cX3_topOf 12 = .ok (.idiv, 1) := by decide +kernel
theorem dX3_topOf_13 : decode cX3_topOf 13 = .ok (.goto 4, 3) := by decide +kernel
theorem dX3_topOf_16 : decode cX3_topOf 16 = .ok (.iconst 0, 1) := by decide +kernel
theorem dX3_topOf_17 : decode cX3_topOf 17 = .ok (.ireturn, 1) := by decide +kernel
theorem dX3_grown_0 : decode cX3_grown 0 = .ok (.iload_n 1, 1) := by decide +kernel
theorem dX3_grown_1 : decode cX3_grown 1 = .ok (.iconst 1, 1) := by decide +kernel
theorem dX3_grown_2 : decode cX3_grown 2 = .ok (.ishl, 1) := by decide +kernel
theorem dX3_grown_3 : decode cX3_grown 3 = .ok (.aload_n 0, 1) := by decide +kernel
theorem dX3_grown_4 : decode cX3_grown 4 = .ok (.getfield 21, 3) := by decide +kernel
theorem dX3_grown_7 : decode cX3_grown 7 = .ok (.iconst (-1), 1) := by decide +kernel
theorem dX3_grown_8 : decode cX3_grown 8 = .ok (.ixor, 1) := by decide +kernel
theorem dX3_grown_9 : decode cX3_grown 9 = .ok (.iand, 1) := by decide +kernel
theorem dX3_grown_10 : decode cX3_grown 10 = .ok (.istore_n 2, 1) := by decide +kernel
theorem dX3_grown_11 : decode cX3_grown 11 = .ok (.iload_n 1, 1) := by decide +kernel
theorem dX3_grown_12 : decode cX3_grown 12 = .ok (.aload_n 0, 1) := by decide +kernel
theorem dX3_grown_13 : decode cX3_grown 13 = .ok (.getfield 21, 3) := by decide +kernel
theorem dX3_grown_16 : decode cX3_grown 16 = .ok (.iconst (-1), 1) := by decide +kernel
theorem dX3_grown_17 : decode cX3_grown 17 = .ok (.ixor, 1) := by decide +kernel
theorem dX3_grown_18 : decode cX3_grown 18 = .ok (.iand, 1) := by decide +kernel
theorem dX3_grown_19 : decode cX3_grown 19 = .ok (.iconst 1, 1) := by decide +kernel
theorem dX3_grown_20 : decode cX3_grown 20 = .ok (.iushr, 1) := by decide +kernel
theorem dX3_grown_21 : decode cX3_grown 21 = .ok (.istore_n 3, 1) := by decide +kernel
theorem dX3_grown_22 : decode cX3_grown 22 = .ok (.iload_n 1, 1) := by decide +kernel
theorem dX3_grown_23 : decode cX3_grown 23 = .ok (.iload_n 2, 1) := by decide +kernel
theorem dX3_grown_24 : decode cX3_grown 24 = .ok (.ior, 1) := by decide +kernel
theorem dX3_grown_25 : decode cX3_grown 25 = .ok (.iload_n 3, 1) := by decide +kernel
theorem dX3_grown_26 : decode cX3_grown 26 = .ok (.ior, 1) := by decide +kernel
theorem dX3_grown_27 : decode cX3_grown 27 = .ok (.iload_n 1, 1) := by decide +kernel
theorem dX3_grown_28 : decode cX3_grown 28 = .ok (.aload_n 0, 1) := by decide +kernel
theorem dX3_grown_29 : decode cX3_grown 29 = .ok (.getfield 9, 3) := by decide +kernel
theorem dX3_grown_32 : decode cX3_grown 32 = .ok (.ishl, 1) := by decide +kernel
theorem dX3_grown_33 : decode cX3_grown 33 = .ok (.ior, 1) := by decide +kernel
theorem dX3_grown_34 : decode cX3_grown 34 = .ok (.iload_n 1, 1) := by decide +kernel
theorem dX3_grown_35 : decode cX3_grown 35 = .ok (.aload_n 0, 1) := by decide +kernel
theorem dX3_grown_36 : decode cX3_grown 36 = .ok (.getfield 9, 3) := by decide +kernel
theorem dX3_grown_39 : decode cX3_grown 39 = .ok (.iushr, 1) := by decide +kernel
theorem dX3_grown_40 : decode cX3_grown 40 = .ok (.ior, 1) := by decide +kernel
theorem dX3_grown_41 : decode cX3_grown 41 = .ok (.aload_n 0, 1) := by decide +kernel
theorem dX3_grown_42 : decode cX3_grown 42 = .ok (.getfield 18, 3) := by decide +kernel
theorem dX3_grown_45 : decode cX3_grown 45 = .ok (.iand, 1) := by decide +kernel
theorem dX3_grown_46 : decode cX3_grown 46 = .ok (.ireturn, 1) := by decide +kernel
theorem dX3_quietOnTheRight_0 : decode cX3_quietOnTheRight 0 = .ok (.aload_n 0, 1) := by decide +kernel
theorem dX3_quietOnTheRight_1 : decode cX3_quietOnTheRight 1 = .ok (.getfield 18, 3) := by decide +kernel
theorem dX3_quietOnTheRight_4 : decode cX3_quietOnTheRight 4 = .ok (.aload_n 0, 1) := by decide +kernel
theorem dX3_quietOnTheRight_5 : decode cX3_quietOnTheRight 5 = .ok (.getfield 21, 3) := by decide +kernel
theorem dX3_quietOnTheRight_8 : decode cX3_quietOnTheRight 8 = .ok (.iconst (-1), 1) := by decide +kernel
theorem dX3_quietOnTheRight_9 : decode cX3_quietOnTheRight 9 = .ok (.ixor, 1) := by decide +kernel
theorem dX3_quietOnTheRight_10 : decode cX3_quietOnTheRight 10 = .ok (.iand, 1) := by decide +kernel
theorem dX3_quietOnTheRight_11 : decode cX3_quietOnTheRight 11 = .ok (.iload_n 1, 1) := by decide +kernel
theorem dX3_quietOnTheRight_12 : decode cX3_quietOnTheRight 12 = .ok (.iconst (-1), 1) := by decide +kernel
theorem dX3_quietOnTheRight_13 : decode cX3_quietOnTheRight 13 = .ok (.ixor, 1) := by decide +kernel
theorem dX3_quietOnTheRight_14 : decode cX3_quietOnTheRight 14 = .ok (.iand, 1) := by decide +kernel
theorem dX3_quietOnTheRight_15 : decode cX3_quietOnTheRight 15 = .ok (.istore_n 2, 1) := by decide +kernel
theorem dX3_quietOnTheRight_16 : decode cX3_quietOnTheRight 16 = .ok (.iload_n 1, 1) := by decide +kernel
theorem dX3_quietOnTheRight_17 : decode cX3_quietOnTheRight 17 = .ok (.iload_n 2, 1) := by decide +kernel
theorem dX3_quietOnTheRight_18 : decode cX3_quietOnTheRight 18 = .ok (.iconst 1, 1) := by decide +kernel
theorem dX3_quietOnTheRight_19 : decode cX3_quietOnTheRight 19 = .ok (.iushr, 1) := by decide +kernel
theorem dX3_quietOnTheRight_20 : decode cX3_quietOnTheRight 20 = .ok (.iand, 1) := by decide +kernel
theorem dX3_quietOnTheRight_21 : decode cX3_quietOnTheRight 21 = .ok (.ireturn, 1) := by decide +kernel
theorem dX3_beside_0 : decode cX3_beside 0 = .ok (.aload_n 0, 1) := by decide +kernel
theorem dX3_beside_1 : decode cX3_beside 1 = .ok (.iload_n 1, 1) := by decide +kernel
theorem dX3_beside_2 : decode cX3_beside 2 = .ok (.invokevirtual 24, 3) := by decide +kernel
theorem dX3_beside_5 : decode cX3_beside 5 = .ok (.istore_n 3, 1) := by decide +kernel
theorem dX3_beside_6 : decode cX3_beside 6 = .ok (.aload_n 0, 1) := by decide +kernel
theorem dX3_beside_7 : decode cX3_beside 7 = .ok (.iload_n 1, 1) := by decide +kernel
theorem dX3_beside_8 : decode cX3_beside 8 = .ok (.invokevirtual 28, 3) := by decide +kernel
theorem dX3_beside_11 : decode cX3_beside 11 = .ok (.istore 4, 2) := by decide +kernel
theorem dX3_beside_13 : decode cX3_beside 13 = .ok (.iload_n 2, 1) := by decide +kernel
theorem dX3_beside_14 : decode cX3_beside 14 = .ok (.tableswitch 98 1 4 #[30, 48, 70, 82], 30) := by decide +kernel
theorem dX3_beside_44 : decode cX3_beside 44 = .ok (.iload_n 3, 1) := by decide +kernel
theorem dX3_beside_45 : decode cX3_beside 45 = .ok (.iconst 1, 1) := by decide +kernel
theorem dX3_beside_46 : decode cX3_beside 46 = .ok (.iadd, 1) := by decide +kernel
theorem dX3_beside_47 : decode cX3_beside 47 = .ok (.aload_n 0, 1) := by decide +kernel
theorem dX3_beside_48 : decode cX3_beside 48 = .ok (.getfield 9, 3) := by decide +kernel
theorem dX3_beside_51 : decode cX3_beside 51 = .ok (.if_icmp .ge 9, 3) := by decide +kernel
theorem dX3_beside_54 : decode cX3_beside 54 = .ok (.iload_n 1, 1) := by decide +kernel
theorem dX3_beside_55 : decode cX3_beside 55 = .ok (.iconst 1, 1) := by decide +kernel
theorem dX3_beside_56 : decode cX3_beside 56 = .ok (.iadd, 1) := by decide +kernel
theorem dX3_beside_57 : decode cX3_beside 57 = .ok (.goto 4, 3) := by decide +kernel
theorem dX3_beside_60 : decode cX3_beside 60 = .ok (.iload_n 1, 1) := by decide +kernel
theorem dX3_beside_61 : decode cX3_beside 61 = .ok (.ireturn, 1) := by decide +kernel
theorem dX3_beside_62 : decode cX3_beside 62 = .ok (.iload 4, 2) := by decide +kernel
theorem dX3_beside_64 : decode cX3_beside 64 = .ok (.iconst 1, 1) := by decide +kernel
theorem dX3_beside_65 : decode cX3_beside 65 = .ok (.iadd, 1) := by decide +kernel
theorem dX3_beside_66 : decode cX3_beside 66 = .ok (.aload_n 0, 1) := by decide +kernel
theorem dX3_beside_67 : decode cX3_beside 67 = .ok (.getfield 15, 3) := by decide +kernel
theorem dX3_beside_70 : decode cX3_beside 70 = .ok (.if_icmp .ge 12, 3) := by decide +kernel
theorem dX3_beside_73 : decode cX3_beside 73 = .ok (.iload_n 1, 1) := by decide +kernel
theorem dX3_beside_74 : decode cX3_beside 74 = .ok (.aload_n 0, 1) := by decide +kernel
theorem dX3_beside_75 : decode cX3_beside 75 = .ok (.getfield 9, 3) := by decide +kernel
theorem dX3_beside_78 : decode cX3_beside 78 = .ok (.iadd, 1) := by decide +kernel
theorem dX3_beside_79 : decode cX3_beside 79 = .ok (.goto 4, 3) := by decide +kernel
theorem dX3_beside_82 : decode cX3_beside 82 = .ok (.iload_n 1, 1) := by decide +kernel
theorem dX3_beside_83 : decode cX3_beside 83 = .ok (.ireturn, 1) := by decide +kernel
theorem dX3_beside_84 : decode cX3_beside 84 = .ok (.iload_n 3, 1) := by decide +kernel
theorem dX3_beside_85 : decode cX3_beside 85 = .ok (.ifCond .le 9, 3) := by decide +kernel
theorem dX3_beside_88 : decode cX3_beside 88 = .ok (.iload_n 1, 1) := by decide +kernel
theorem dX3_beside_89 : decode cX3_beside 89 = .ok (.iconst 1, 1) := by decide +kernel
theorem dX3_beside_90 : decode cX3_beside 90 = .ok (.isub, 1) := by decide +kernel
theorem dX3_beside_91 : decode cX3_beside 91 = .ok (.goto 4, 3) := by decide +kernel
theorem dX3_beside_94 : decode cX3_beside 94 = .ok (.iload_n 1, 1) := by decide +kernel
theorem dX3_beside_95 : decode cX3_beside 95 = .ok (.ireturn, 1) := by decide +kernel
theorem dX3_beside_96 : decode cX3_beside 96 = .ok (.iload 4, 2) := by decide +kernel
theorem dX3_beside_98 : decode cX3_beside 98 = .ok (.ifCond .le 12, 3) := by decide +kernel
theorem dX3_beside_101 : decode cX3_beside 101 = .ok (.iload_n 1, 1) := by decide +kernel
theorem dX3_beside_102 : decode cX3_beside 102 = .ok (.aload_n 0, 1) := by decide +kernel
theorem dX3_beside_103 : decode cX3_beside 103 = .ok (.getfield 9, 3) := by decide +kernel
theorem dX3_beside_106 : decode cX3_beside 106 = .ok (.isub, 1) := by decide +kernel
theorem dX3_beside_107 : decode cX3_beside 107 = .ok (.goto 4, 3) := by decide +kernel
theorem dX3_beside_110 : decode cX3_beside 110 = .ok (.iload_n 1, 1) := by decide +kernel
theorem dX3_beside_111 : decode cX3_beside 111 = .ok (.ireturn, 1) := by decide +kernel
theorem dX3_beside_112 : decode cX3_beside 112 = .ok (.iload_n 1, 1) := by decide +kernel
theorem dX3_beside_113 : decode cX3_beside 113 = .ok (.ireturn, 1) := by decide +kernel
theorem dX3_steps_0 : decode cX3_steps 0 = .ok (.iconst 1, 1) := by decide +kernel
theorem dX3_steps_1 : decode cX3_steps 1 = .ok (.iload_n 1, 1) := by decide +kernel
theorem dX3_steps_2 : decode cX3_steps 2 = .ok (.ishl, 1) := by decide +kernel
theorem dX3_steps_3 : decode cX3_steps 3 = .ok (.istore 4, 2) := by decide +kernel
theorem dX3_steps_5 : decode cX3_steps 5 = .ok (.iconst 0, 1) := by decide +kernel
theorem dX3_steps_6 : decode cX3_steps 6 = .ok (.istore 5, 2) := by decide +kernel
theorem dX3_steps_8 : decode cX3_steps 8 = .ok (.iload 5, 2) := by decide +kernel
theorem dX3_steps_10 : decode cX3_steps 10 = .ok (.bipush 25, 2) := by decide +kernel
theorem dX3_steps_12 : decode cX3_steps 12 = .ok (.if_icmp .gt 34, 3) := by decide +kernel
theorem dX3_steps_15 : decode cX3_steps 15 = .ok (.iload 4, 2) := by decide +kernel
theorem dX3_steps_17 : decode cX3_steps 17 = .ok (.iload_n 2, 1) := by decide +kernel
theorem dX3_steps_18 : decode cX3_steps 18 = .ok (.iushr, 1) := by decide +kernel
theorem dX3_steps_19 : decode cX3_steps 19 = .ok (.iconst 1, 1) := by decide +kernel
theorem dX3_steps_20 : decode cX3_steps 20 = .ok (.iand, 1) := by decide +kernel
theorem dX3_steps_21 : decode cX3_steps 21 = .ok (.ifCond .eq 6, 3) := by decide +kernel
theorem dX3_steps_24 : decode cX3_steps 24 = .ok (.iload 5, 2) := by decide +kernel
theorem dX3_steps_26 : decode cX3_steps 26 = .ok (.ireturn, 1) := by decide +kernel
theorem dX3_steps_27 : decode cX3_steps 27 = .ok (.iload 4, 2) := by decide +kernel
theorem dX3_steps_29 : decode cX3_steps 29 = .ok (.aload_n 0, 1) := by decide +kernel
theorem dX3_steps_30 : decode cX3_steps 30 = .ok (.iload 4, 2) := by decide +kernel
theorem dX3_steps_32 : decode cX3_steps 32 = .ok (.invokevirtual 31, 3) := by decide +kernel
theorem dX3_steps_35 : decode cX3_steps 35 = .ok (.iload_n 3, 1) := by decide +kernel
theorem dX3_steps_36 : decode cX3_steps 36 = .ok (.iand, 1) := by decide +kernel
theorem dX3_steps_37 : decode cX3_steps 37 = .ok (.ior, 1) := by decide +kernel
theorem dX3_steps_38 : decode cX3_steps 38 = .ok (.istore 4, 2) := by decide +kernel
theorem dX3_steps_40 : decode cX3_steps 40 = .ok (.iinc 5 1, 3) := by decide +kernel
theorem dX3_steps_43 : decode cX3_steps 43 = .ok (.goto (-35), 3) := by decide +kernel
theorem dX3_steps_46 : decode cX3_steps 46 = .ok (.iconst (-1), 1) := by decide +kernel
theorem dX3_steps_47 : decode cX3_steps 47 = .ok (.ireturn, 1) := by decide +kernel
theorem dX3_farthest_0 : decode cX3_farthest 0 = .ok (.iconst 1, 1) := by decide +kernel
theorem dX3_farthest_1 : decode cX3_farthest 1 = .ok (.iload_n 1, 1) := by decide +kernel
theorem dX3_farthest_2 : decode cX3_farthest 2 = .ok (.ishl, 1) := by decide +kernel
theorem dX3_farthest_3 : decode cX3_farthest 3 = .ok (.istore_n 3, 1) := by decide +kernel
theorem dX3_farthest_4 : decode cX3_farthest 4 = .ok (.iconst 0, 1) := by decide +kernel
theorem dX3_farthest_5 : decode cX3_farthest 5 = .ok (.istore 4, 2) := by decide +kernel
theorem dX3_farthest_7 : decode cX3_farthest 7 = .ok (.iload 4, 2) := by decide +kernel
theorem dX3_farthest_9 : decode cX3_farthest 9 = .ok (.bipush 25, 2) := by decide +kernel
theorem dX3_farthest_11 : decode cX3_farthest 11 = .ok (.if_icmp .ge 30, 3) := by decide +kernel
theorem dX3_farthest_14 : decode cX3_farthest 14 = .ok (.iload_n 2, 1) := by decide +kernel
theorem dX3_farthest_15 : decode cX3_farthest 15 = .ok (.iload_n 3, 1) := by decide +kernel
theorem dX3_farthest_16 : decode cX3_farthest 16 = .ok (.iconst (-1), 1) := by decide +kernel
theorem dX3_farthest_17 : decode cX3_farthest 17 = .ok (.ixor, 1) := by decide +kernel
theorem dX3_farthest_18 : decode cX3_farthest 18 = .ok (.iand, 1) := by decide +kernel
theorem dX3_farthest_19 : decode cX3_farthest 19 = .ok (.ifCond .ne 6, 3) := by decide +kernel
theorem dX3_farthest_22 : decode cX3_farthest 22 = .ok (.iload 4, 2) := by decide +kernel
theorem dX3_farthest_24 : decode cX3_farthest 24 = .ok (.ireturn, 1) := by decide +kernel
theorem dX3_farthest_25 : decode cX3_farthest 25 = .ok (.iload_n 3, 1) := by decide +kernel
theorem dX3_farthest_26 : decode cX3_farthest 26 = .ok (.aload_n 0, 1) := by decide +kernel
theorem dX3_farthest_27 : decode cX3_farthest 27 = .ok (.iload_n 3, 1) := by decide +kernel
theorem dX3_farthest_28 : decode cX3_farthest 28 = .ok (.invokevirtual 31, 3) := by decide +kernel
theorem dX3_farthest_31 : decode cX3_farthest 31 = .ok (.iload_n 2, 1) := by decide +kernel
theorem dX3_farthest_32 : decode cX3_farthest 32 = .ok (.iand, 1) := by decide +kernel
theorem dX3_farthest_33 : decode cX3_farthest 33 = .ok (.ior, 1) := by decide +kernel
theorem dX3_farthest_34 : decode cX3_farthest 34 = .ok (.istore_n 3, 1) := by decide +kernel
theorem dX3_farthest_35 : decode cX3_farthest 35 = .ok (.iinc 4 1, 3) := by decide +kernel
theorem dX3_farthest_38 : decode cX3_farthest 38 = .ok (.goto (-31), 3) := by decide +kernel
theorem dX3_farthest_41 : decode cX3_farthest 41 = .ok (.bipush 25, 2) := by decide +kernel
theorem dX3_farthest_43 : decode cX3_farthest 43 = .ok (.ireturn, 1) := by decide +kernel
theorem dX3_become_0 : decode cX3_become 0 = .ok (.aload_n 0, 1) := by decide +kernel
theorem dX3_become_1 : decode cX3_become 1 = .ok (.aload_n 1, 1) := by decide +kernel
theorem dX3_become_2 : decode cX3_become 2 = .ok (.getfield 9, 3) := by decide +kernel
theorem dX3_become_5 : decode cX3_become 5 = .ok (.putfield 9, 3) := by decide +kernel
theorem dX3_become_8 : decode cX3_become 8 = .ok (.aload_n 0, 1) := by decide +kernel
theorem dX3_become_9 : decode cX3_become 9 = .ok (.aload_n 1, 1) := by decide +kernel
theorem dX3_become_10 : decode cX3_become 10 = .ok (.getfield 15, 3) := by decide +kernel
theorem dX3_become_13 : decode cX3_become 13 = .ok (.putfield 15, 3) := by decide +kernel
theorem dX3_become_16 : decode cX3_become 16 = .ok (.aload_n 0, 1) := by decide +kernel
theorem dX3_become_17 : decode cX3_become 17 = .ok (.aload_n 1, 1) := by decide +kernel
theorem dX3_become_18 : decode cX3_become 18 = .ok (.getfield 18, 3) := by decide +kernel
theorem dX3_become_21 : decode cX3_become 21 = .ok (.putfield 18, 3) := by decide +kernel
theorem dX3_become_24 : decode cX3_become 24 = .ok (.aload_n 0, 1) := by decide +kernel
theorem dX3_become_25 : decode cX3_become 25 = .ok (.aload_n 1, 1) := by decide +kernel
theorem dX3_become_26 : decode cX3_become 26 = .ok (.getfield 21, 3) := by decide +kernel
theorem dX3_become_29 : decode cX3_become 29 = .ok (.putfield 21, 3) := by decide +kernel
theorem dX3_become_32 : decode cX3_become 32 = .ok (.return_, 1) := by decide +kernel
