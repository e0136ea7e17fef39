theorem dX7_init_0 : decode cX7_init 0 = .ok (.aload_n 0, 1) := by decide +kernel
theorem dX7_init_1 : decode cX7_init 1 = .ok (.invokespecial 3, 3) := by decide +kernel
theorem dX7_init_4 : decode cX7_init 4 = .ok (.aload_n 0, 1) := by decide +kernel
theorem dX7_init_5 : decode cX7_init 5 = .ok (.new 9, 3) := by decide +kernel
theorem dX7_init_8 : decode cX7_init 8 = .ok (.dup, 1) := by decide +kernel
theorem dX7_init_9 : decode cX7_init 9 = .ok (.invokespecial 11, 3) := by decide +kernel
theorem dX7_init_12 : decode cX7_init 12 = .ok (.putfield 12, 3) := by decide +kernel
theorem dX7_init_15 : decode cX7_init 15 = .ok (.aload_n 0, 1) := by decide +kernel
theorem dX7_init_16 : decode cX7_init 16 = .ok (.new 18, 3) := by decide +kernel
theorem dX7_init_19 : decode cX7_init 19 = .ok (.dup, 1) := by decide +kernel
theorem dX7_init_20 : decode cX7_init 20 = .ok (.invokespecial 20, 3) := by decide +kernel
theorem dX7_init_23 : decode cX7_init 23 = .ok (.putfield 21, 3) := by decide +kernel
theorem dX7_init_26 : decode cX7_init 26 = .ok (.aload_n 0, 1) := by decide +kernel
theorem dX7_init_27 : decode cX7_init 27 = .ok (.iconst (-1), 1) := by decide +kernel
theorem dX7_init_28 : decode cX7_init 28 = .ok (.putfield 25, 3) := by decide +kernel
theorem dX7_init_31 : decode cX7_init 31 = .ok (.aload_n 0, 1) := by decide +kernel
theorem dX7_init_32 : decode cX7_init 32 = .ok (.iconst 0, 1) := by decide +kernel
theorem dX7_init_33 : decode cX7_init 33 = .ok (.putfield 29, 3) := by decide +kernel
theorem dX7_init_36 : decode cX7_init 36 = .ok (.aload_n 0, 1) := by decide +kernel
theorem dX7_init_37 : decode cX7_init 37 = .ok (.iconst 0, 1) := by decide +kernel
theorem dX7_init_38 : decode cX7_init 38 = .ok (.putfield 32, 3) := by decide +kernel
theorem dX7_init_41 : decode cX7_init 41 = .ok (.aload_n 0, 1) := by decide +kernel
theorem dX7_init_42 : decode cX7_init 42 = .ok (.iconst 0, 1) := by decide +kernel
theorem dX7_init_43 : decode cX7_init 43 = .ok (.putfield 35, 3) := by decide +kernel
theorem dX7_init_46 : decode cX7_init 46 = .ok (.aload_n 0, 1) := by decide +kernel
theorem dX7_init_47 : decode cX7_init 47 = .ok (.iconst (-1), 1) := by decide +kernel
theorem dX7_init_48 : decode cX7_init 48 = .ok (.putfield 38, 3) := by decide +kernel
theorem dX7_init_51 : decode cX7_init 51 = .ok (.aload_n 0, 1) := by decide +kernel
theorem dX7_init_52 : decode cX7_init 52 = .ok (.iconst 5, 1) := by decide +kernel
theorem dX7_init_53 : decode cX7_init 53 = .ok (.newarray .long, 2) := by decide +kernel
theorem dX7_init_55 : decode cX7_init 55 = .ok (.putfield 41, 3) := by decide +kernel
theorem dX7_init_58 : decode cX7_init 58 = .ok (.aload_n 0, 1) := by decide +kernel
theorem dX7_init_59 : decode cX7_init 59 = .ok (.iconst 5, 1) := by decide +kernel
theorem dX7_init_60 : decode cX7_init 60 = .ok (.newarray .int, 2) := by decide +kernel
theorem dX7_init_62 : decode cX7_init 62 = .ok (.putfield 45, 3) := by decide +kernel
theorem dX7_init_65 : decode cX7_init 65 = .ok (.aload_n 0, 1) := by decide +kernel
theorem dX7_init_66 : decode cX7_init 66 = .ok (.bipush 25, 2) := by decide +kernel
theorem dX7_init_68 : decode cX7_init 68 = .ok (.newarray .int, 2) := by decide +kernel
theorem dX7_init_70 : decode cX7_init 70 = .ok (.putfield 49, 3) := by decide +kernel
theorem dX7_init_73 : decode cX7_init 73 = .ok (.aload_n 0, 1) := by decide +kernel
theorem dX7_init_74 : decode cX7_init 74 = .ok (.bipush 25, 2) := by decide +kernel
theorem dX7_init_76 : decode cX7_init 76 = .ok (.newarray .int, 2) := by decide +kernel
theorem dX7_init_78 : decode cX7_init 78 = .ok (.putfield 52, 3) := by decide +kernel
theorem dX7_init_81 : decode cX7_init 81 = .ok (.aload_n 0, 1) := by decide +kernel
theorem dX7_init_82 : decode cX7_init 82 = .ok (.iconst 0, 1) := by decide +kernel
theorem dX7_init_83 : decode cX7_init 83 = .ok (.putfield 55, 3) := by decide +kernel
theorem dX7_init_86 : decode cX7_init 86 = .ok (.aload_n 0, 1) := by decide +kernel
theorem dX7_init_87 : decode cX7_init 87 = .ok (.iconst 0, 1) := by decide +kernel
theorem dX7_init_88 : decode cX7_init 88 = .ok (.putfield 58, 3) := by decide +kernel
theorem dX7_init_91 : decode cX7_init 91 = .ok (.aload_n 0, 1) := by decide +kernel
theorem dX7_init_92 : decode cX7_init 92 = .ok (.iconst 0, 1) := by decide +kernel
theorem dX7_init_93 : decode cX7_init 93 = .ok (.putfield 61, 3) := by decide +kernel
theorem dX7_init_96 : decode cX7_init 96 = .ok (.aload_n 0, 1) := by decide +kernel
theorem dX7_init_97 : decode cX7_init 97 = .ok (.new 64, 3) := by decide +kernel
theorem dX7_init_100 : decode cX7_init 100 = .ok (.dup, 1) := by decide +kernel
theorem dX7_init_101 : decode cX7_init 101 = .ok (.aload_n 1, 1) := by decide +kernel
theorem dX7_init_102 : decode cX7_init 102 = .ok (.invokespecial 66, 3) := by decide +kernel
theorem dX7_init_105 : decode cX7_init 105 = .ok (.putfield 69, 3) := by decide +kernel
theorem dX7_init_108 : decode cX7_init 108 = .ok (.return_, 1) := by decide +kernel
theorem dX7_readText_0 : decode cX7_readText 0 = .ok (.aload_n 0, 1) := by decide +kernel
theorem dX7_readText_1 : decode cX7_readText 1 = .ok (.invokevirtual 73, 3) := by decide +kernel
theorem dX7_readText_4 : decode cX7_readText 4 = .ok (.aload_n 0, 1) := by decide +kernel
theorem dX7_readText_5 : decode cX7_readText 5 = .ok (.getfield 69, 3) := by decide +kernel
theorem dX7_readText_8 : decode cX7_readText 8 = .ok (.iload_n 1, 1) := by decide +kernel
theorem dX7_readText_9 : decode cX7_readText 9 = .ok (.invokevirtual 76, 3) := by decide +kernel
theorem dX7_readText_12 : decode cX7_readText 12 = .ok (.iconst 0, 1) := by decide +kernel
theorem dX7_readText_13 : decode cX7_readText 13 = .ok (.istore_n 2, 1) := by decide +kernel
theorem dX7_readText_14 : decode cX7_readText 14 = .ok (.iload_n 2, 1) := by decide +kernel
theorem dX7_readText_15 : decode cX7_readText 15 = .ok (.sipush 400, 3) := by decide +kernel
theorem dX7_readText_18 : decode cX7_readText 18 = .ok (.if_icmp .gt 33, 3) := by decide +kernel
theorem dX7_readText_21 : decode cX7_readText 21 = .ok (.aload_n 0, 1) := by decide +kernel
theorem dX7_readText_22 : decode cX7_readText 22 = .ok (.getfield 32, 3) := by decide +kernel
theorem dX7_readText_25 : decode cX7_readText 25 = .ok (.ifCond .ne 26, 3) := by decide +kernel
theorem dX7_readText_28 : decode cX7_readText 28 = .ok (.aload_n 0, 1) := by decide +kernel
theorem dX7_readText_29 : decode cX7_readText 29 = .ok (.invokevirtual 80, 3) := by decide +kernel
theorem dX7_readText_32 : decode cX7_readText 32 = .ok (.bipush 32, 2) := by decide +kernel
theorem dX7_readText_34 : decode cX7_readText 34 = .ok (.if_icmp .eq 17, 3) := by decide +kernel
theorem dX7_readText_37 : decode cX7_readText 37 = .ok (.aload_n 0, 1) := by decide +kernel
theorem dX7_readText_38 : decode cX7_readText 38 = .ok (.aload_n 0, 1) := by decide +kernel
theorem dX7_readText_39 : decode cX7_readText 39 = .ok (.invokevirtual 80, 3) := by decide +kernel
theorem dX7_readText_42 : decode cX7_readText 42 = .ok (.invokevirtual 84, 3) := by decide +kernel
theorem dX7_readText_45 : decode cX7_readText 45 = .ok (.iinc 2 1, 3) := by decide +kernel
theorem dX7_readText_48 : decode cX7_readText 48 = .ok (.goto (-34), 3) := by decide +kernel
theorem dX7_readText_51 : decode cX7_readText 51 = .ok (.aload_n 0, 1) := by decide +kernel
theorem dX7_readText_52 : decode cX7_readText 52 = .ok (.getfield 32, 3) := by decide +kernel
theorem dX7_readText_55 : decode cX7_readText 55 = .ok (.ifCond .eq 23, 3) := by decide +kernel
theorem dX7_readText_58 : decode cX7_readText 58 = .ok (.aload_n 0, 1) := by decide +kernel
theorem dX7_readText_59 : decode cX7_readText 59 = .ok (.aload_n 0, 1) := by decide +kernel
theorem dX7_readText_60 : decode cX7_readText 60 = .ok (.getfield 69, 3) := by decide +kernel
theorem dX7_readText_63 : decode cX7_readText 63 = .ok (.aload_n 0, 1) := by decide +kernel
theorem dX7_readText_64 : decode cX7_readText 64 = .ok (.getfield 29, 3) := by decide +kernel
theorem dX7_readText_67 : decode cX7_readText 67 = .ok (.invokevirtual 87, 3) := by decide +kernel
theorem dX7_readText_70 : decode cX7_readText 70 = .ok (.putfield 25, 3) := by decide +kernel
theorem dX7_readText_73 : decode cX7_readText 73 = .ok (.aload_n 0, 1) := by decide +kernel
theorem dX7_readText_74 : decode cX7_readText 74 = .ok (.getfield 32, 3) := by decide +kernel
theorem dX7_readText_77 : decode cX7_readText 77 = .ok (.ireturn, 1) := by decide +kernel
theorem dX7_readText_78 : decode cX7_readText 78 = .ok (.aload_n 0, 1) := by decide +kernel
theorem dX7_readText_79 : decode cX7_readText 79 = .ok (.iload_n 1, 1) := by decide +kernel
theorem dX7_readText_80 : decode cX7_readText 80 = .ok (.invokevirtual 91, 3) := by decide +kernel
theorem dX7_readText_83 : decode cX7_readText 83 = .ok (.aload_n 0, 1) := by decide +kernel
theorem dX7_readText_84 : decode cX7_readText 84 = .ok (.aload_n 0, 1) := by decide +kernel
theorem dX7_readText_85 : decode cX7_readText 85 = .ok (.getfield 38, 3) := by decide +kernel
theorem dX7_readText_88 : decode cX7_readText 88 = .ok (.putfield 25, 3) := by decide +kernel
theorem dX7_readText_91 : decode cX7_readText 91 = .ok (.aload_n 0, 1) := by decide +kernel
theorem dX7_readText_92 : decode cX7_readText 92 = .ok (.getfield 35, 3) := by decide +kernel
theorem dX7_readText_95 : decode cX7_readText 95 = .ok (.ireturn, 1) := by decide +kernel
theorem dX7_clear_0 : decode cX7_clear 0 = .ok (.aload_n 0, 1) := by decide +kernel
theorem dX7_clear_1 : decode cX7_clear 1 = .ok (.getfield 12, 3) := by decide +kernel
theorem dX7_clear_4 : decode cX7_clear 4 = .ok (.invokevirtual 94, 3) := by decide +kernel
theorem dX7_clear_7 : decode cX7_clear 7 = .ok (.aload_n 0, 1) := by decide +kernel
theorem dX7_clear_8 : decode cX7_clear 8 = .ok (.getfield 21, 3) := by decide +kernel
theorem dX7_clear_11 : decode cX7_clear 11 = .ok (.invokevirtual 95, 3) := by decide +kernel
theorem dX7_clear_14 : decode cX7_clear 14 = .ok (.aload_n 0, 1) := by decide +kernel
theorem dX7_clear_15 : decode cX7_clear 15 = .ok (.iconst (-1), 1) := by decide +kernel
theorem dX7_clear_16 : decode cX7_clear 16 = .ok (.putfield 25, 3) := by decide +kernel
theorem dX7_clear_19 : decode cX7_clear 19 = .ok (.aload_n 0, 1) := by decide +kernel
theorem dX7_clear_20 : decode cX7_clear 20 = .ok (.iconst 0, 1) := by decide +kernel
theorem dX7_clear_21 : decode cX7_clear 21 = .ok (.putfield 29, 3) := by decide +kernel
theorem dX7_clear_24 : decode cX7_clear 24 = .ok (.aload_n 0, 1) := by decide +kernel
theorem dX7_clear_25 : decode cX7_clear 25 = .ok (.iconst 0, 1) := by decide +kernel
theorem dX7_clear_26 : decode cX7_clear 26 = .ok (.putfield 32, 3) := by decide +kernel
theorem dX7_clear_29 : decode cX7_clear 29 = .ok (.aload_n 0, 1) := by decide +kernel
theorem dX7_clear_30 : decode cX7_clear 30 = .ok (.iconst 0, 1) := by decide +kernel
theorem dX7_clear_31 : decode cX7_clear 31 = .ok (.putfield 35, 3) := by decide +kernel
theorem dX7_clear_34 : decode cX7_clear 34 = .ok (.aload_n 0, 1) := by decide +kernel
theorem dX7_clear_35 : decode cX7_clear 35 = .ok (.iconst (-1), 1) := by decide +kernel
theorem dX7_clear_36 : decode cX7_clear 36 = .ok (.putfield 38, 3) := by decide +kernel
theorem dX7_clear_39 : decode cX7_clear 39 = .ok (.aload_n 0, 1) := by decide +kernel
theorem dX7_clear_40 : decode cX7_clear 40 = .ok (.getfield 49, 3) := by decide +kernel
theorem dX7_clear_43 : decode cX7_clear 43 = .ok (.iconst 0, 1) := by decide +kernel
theorem dX7_clear_44 : decode cX7_clear 44 = .ok (.invokestatic 96, 3) := by decide +kernel
theorem dX7_clear_47 : decode cX7_clear 47 = .ok (.aload_n 0, 1) := by decide +kernel
theorem dX7_clear_48 : decode cX7_clear 48 = .ok (.iconst 0, 1) := by decide +kernel
theorem dX7_clear_49 : decode cX7_clear 49 = .ok (.putfield 55, 3) := by decide +kernel
theorem dX7_clear_52 : decode cX7_clear 52 = .ok (.aload_n 0, 1) := by decide +kernel
theorem dX7_clear_53 : decode cX7_clear 53 = .ok (.iconst 0, 1) := by decide +kernel
theorem dX7_clear_54 : decode cX7_clear 54 = .ok (.putfield 58, 3) := by decide +kernel
theorem dX7_clear_57 : decode cX7_clear 57 = .ok (.aload_n 0, 1) := by decide +kernel
theorem dX7_clear_58 : decode cX7_clear 58 = .ok (.iconst 0, 1) := by decide +kernel
theorem dX7_clear_59 : decode cX7_clear 59 = .ok (.putfield 61, 3) := by decide +kernel
theorem dX7_clear_62 : decode cX7_clear 62 = .ok (.return_, 1) := by decide +kernel
theorem dX7_kind_0 : decode cX7_kind 0 = .ok (.aload_n 0, 1) := by decide +kernel
theorem dX7_kind_1 : decode cX7_kind 1 = .ok (.getfield 69, 3) := by decide +kernel
theorem dX7_kind_4 : decode cX7_kind 4 = .ok (.aload_n 0, 1) := by decide +kernel
theorem dX7_kind_5 : decode cX7_kind 5 = .ok (.getfield 29, 3) := by decide +kernel
theorem dX7_kind_8 : decode cX7_kind 8 = .ok (.invokevirtual 102, 3) := by decide +kernel
theorem dX7_kind_11 : decode cX7_kind 11 = .ok (.ireturn, 1) := by decide +kernel
theorem dX7_stop_0 : decode cX7_stop 0 = .ok (.aload_n 0, 1) := by decide +kernel
theorem dX7_stop_1 : decode cX7_stop 1 = .ok (.getfield 32, 3) := by decide +kernel
theorem dX7_stop_4 : decode cX7_stop 4 = .ok (.ifCond .ne 8, 3) := by decide +kernel
theorem dX7_stop_7 : decode cX7_stop 7 = .ok (.aload_n 0, 1) := by decide +kernel
theorem dX7_stop_8 : decode cX7_stop 8 = .ok (.iload_n 1, 1) := by decide +kernel
theorem dX7_stop_9 : decode cX7_stop 9 = .ok (.putfield 32, 3) := by decide +kernel
theorem dX7_stop_12 : decode cX7_stop 12 = .ok (.return_, 1) := by decide +kernel
theorem dX7_blame_0 : decode cX7_blame 0 = .ok (.aload_n 0, 1) := by decide +kernel
theorem dX7_blame_1 : decode cX7_blame 1 = .ok (.getfield 35, 3) := by decide +kernel
theorem dX7_blame_4 : decode cX7_blame 4 = .ok (.ifCond .ne 13, 3) := by decide +kernel
theorem dX7_blame_7 : decode cX7_blame 7 = .ok (.aload_n 0, 1) := by decide +kernel
theorem dX7_blame_8 : decode cX7_blame 8 = .ok (.iload_n 1, 1) := by decide +kernel
theorem dX7_blame_9 : decode cX7_blame 9 = .ok (.putfield 35, 3) := by decide +kernel
theorem dX7_blame_12 : decode cX7_blame 12 = .ok (.aload_n 0, 1) := by decide +kernel
theorem dX7_blame_13 : decode cX7_blame 13 = .ok (.iload_n 2, 1) := by decide +kernel
theorem dX7_blame_14 : decode cX7_blame 14 = .ok (.putfield 38, 3) := by decide +kernel
theorem dX7_blame_17 : decode cX7_blame 17 = .ok (.return_, 1) := by decide +kernel
theorem dX7_take_0 : decode cX7_take 0 = .ok (.aload_n 0, 1) := by decide +kernel
theorem dX7_take_1 : decode cX7_take 1 = .ok (.getfield 69, 3) := by decide +kernel
theorem dX7_take_4 : decode cX7_take 4 = .ok (.aload_n 0, 1) := by decide +kernel
theorem dX7_take_5 : decode cX7_take 5 = .ok (.getfield 29, 3) := by decide +kernel
theorem dX7_take_8 : decode cX7_take 8 = .ok (.invokevirtual 102, 3) := by decide +kernel
theorem dX7_take_11 : decode cX7_take 11 = .ok (.iload_n 1, 1) := by decide +kernel
theorem dX7_take_12 : decode cX7_take 12 = .ok (.if_icmp .eq 11, 3) := by decide +kernel
theorem dX7_take_15 : decode cX7_take 15 = .ok (.aload_n 0, 1) := by decide +kernel
theorem dX7_take_16 : decode cX7_take 16 = .ok (.iconst 1, 1) := by decide +kernel
theorem dX7_take_17 : decode cX7_take 17 = .ok (.invokevirtual 105, 3) := by decide +kernel
theorem dX7_take_20 : decode cX7_take 20 = .ok (.goto 18, 3) := by decide +kernel
theorem dX7_take_23 : decode cX7_take 23 = .ok (.aload_n 0, 1) := by decide +kernel
theorem dX7_take_24 : decode cX7_take 24 = .ok (.getfield 29, 3) := by decide +kernel
theorem dX7_take_27 : decode cX7_take 27 = .ok (.sipush 400, 3) := by decide +kernel
theorem dX7_take_30 : decode cX7_take 30 = .ok (.if_icmp .lt 8, 3) := by decide +kernel
theorem dX7_take_33 : decode cX7_take 33 = .ok (.aload_n 0, 1) := by decide +kernel
theorem dX7_take_34 : decode cX7_take 34 = .ok (.iconst 2, 1) := by decide +kernel
theorem dX7_take_35 : decode cX7_take 35 = .ok (.invokevirtual 105, 3) := by decide +kernel
theorem dX7_take_38 : decode cX7_take 38 = .ok (.aload_n 0, 1) := by decide +kernel
theorem dX7_take_39 : decode cX7_take 39 = .ok (.getfield 32, 3) := by decide +kernel
theorem dX7_take_42 : decode cX7_take 42 = .ok (.ifCond .ne 13, 3) := by decide +kernel
theorem dX7_take_45 : decode cX7_take 45 = .ok (.aload_n 0, 1) := by decide +kernel
theorem dX7_take_46 : decode cX7_take 46 = .ok (.dup, 1) := by decide +kernel
theorem dX7_take_47 : decode cX7_take 47 = .ok (.getfield 29, 3) := by decide +kernel
theorem dX7_take_50 : decode cX7_take 50 = .ok (.iconst 1, 1) := by decide +kernel
theorem dX7_take_51 : decode cX7_take 51 = .ok (.iadd, 1) := by decide +kernel
theorem dX7_take_52 : decode cX7_take 52 = .ok (.putfield 29, 3) := by decide +kernel
theorem dX7_take_55 : decode cX7_take 55 = .ok (.aload_n 0, 1) := by decide +kernel
theorem dX7_take_56 : decode cX7_take 56 = .ok (.getfield 32, 3) := by decide +kernel
theorem dX7_take_59 : decode cX7_take 59 = .ok (.ifCond .ne 7, 3) := by decide +kernel
theorem dX7_take_62 : decode cX7_take 62 = .ok (.iconst 1, 1) := by decide +kernel
theorem dX7_take_63 : decode cX7_take 63 = .ok (.goto 4, 3) := by decide +kernel
theorem dX7_take_66 : decode cX7_take 66 = .ok (.iconst 0, 1) := by decide +kernel
theorem dX7_take_67 : decode cX7_take 67 = .ok (.ireturn, 1) := by decide +kernel
theorem dX7_readTell_0 : decode cX7_readTell 0 = .ok (.iload_n 1, 1) := by decide +kernel
theorem dX7_readTell_1 : decode cX7_readTell 1 = .ok (.tableswitch 130 9 18 #[55, 62, 69, 76, 130, 130, 130, 130, 83, 106], 55) := by decide +kernel
theorem dX7_readTell_56 : decode cX7_readTell 56 = .ok (.aload_n 0, 1) := by decide +kernel
theorem dX7_readTell_57 : decode cX7_readTell 57 = .ok (.invokevirtual 108, 3) := by decide +kernel
theorem dX7_readTell_60 : decode cX7_readTell 60 = .ok (.goto 103, 3) := by decide +kernel
theorem dX7_readTell_63 : decode cX7_readTell 63 = .ok (.aload_n 0, 1) := by decide +kernel
theorem dX7_readTell_64 : decode cX7_readTell 64 = .ok (.invokevirtual 111, 3) := by decide +kernel
theorem dX7_readTell_67 : decode cX7_readTell 67 = .ok (.goto 96, 3) := by decide +kernel
theorem dX7_readTell_70 : decode cX7_readTell 70 = .ok (.aload_n 0, 1) := by decide +kernel
theorem dX7_readTell_71 : decode cX7_readTell 71 = .ok (.invokevirtual 114, 3) := by decide +kernel
theorem dX7_readTell_74 : decode cX7_readTell 74 = .ok (.goto 89, 3) := by decide +kernel
theorem dX7_readTell_77 : decode cX7_readTell 77 = .ok (.aload_n 0, 1) := by decide +kernel
theorem dX7_readTell_78 : decode cX7_readTell 78 = .ok (.invokevirtual 117, 3) := by decide +kernel
theorem dX7_readTell_81 : decode cX7_readTell 81 = .ok (.goto 82, 3) := by decide +kernel
theorem dX7_readTell_84 : decode cX7_readTell 84 = .ok (.aload_n 0, 1) := by decide +kernel
theorem dX7_readTell_85 : decode cX7_readTell 85 = .ok (.iload_n 1, 1) := by decide +kernel
theorem dX7_readTell_86 : decode cX7_readTell 86 = .ok (.invokevirtual 120, 3) := by decide +kernel
theorem dX7_readTell_89 : decode cX7_readTell 89 = .ok (.pop, 1) := by decide +kernel
theorem dX7_readTell_90 : decode cX7_readTell 90 = .ok (.aload_n 0, 1) := by decide +kernel
theorem dX7_readTell_91 : decode cX7_readTell 91 = .ok (.getfield 12, 3) := by decide +kernel
theorem dX7_readTell_94 : decode cX7_readTell 94 = .ok (.aload_n 0, 1) := by decide +kernel
theorem dX7_readTell_95 : decode cX7_readTell 95 = .ok (.iconst 0, 1) := by decide +kernel
theorem dX7_readTell_96 : decode cX7_readTell 96 = .ok (.bipush 100, 2) := by decide +kernel
theorem dX7_readTell_98 : decode cX7_readTell 98 = .ok (.invokevirtual 124, 3) := by decide +kernel
theorem dX7_readTell_101 : decode cX7_readTell 101 = .ok (.putfield 128, 3) := by decide +kernel
theorem dX7_readTell_104 : decode cX7_readTell 104 = .ok (.goto 59, 3) := by decide +kernel
theorem dX7_readTell_107 : decode cX7_readTell 107 = .ok (.aload_n 0, 1) := by decide +kernel
theorem dX7_readTell_108 : decode cX7_readTell 108 = .ok (.iload_n 1, 1) := by decide +kernel
theorem dX7_readTell_109 : decode cX7_readTell 109 = .ok (.invokevirtual 120, 3) := by decide +kernel
theorem dX7_readTell_112 : decode cX7_readTell 112 = .ok (.pop, 1) := by decide +kernel
theorem dX7_readTell_113 : decode cX7_readTell 113 = .ok (.aload_n 0, 1) := by decide +kernel
theorem dX7_readTell_114 : decode cX7_readTell 114 = .ok (.getfield 12, 3) := by decide +kernel
theorem dX7_readTell_117 : decode cX7_readTell 117 = .ok (.aload_n 0, 1) := by decide +kernel
theorem dX7_readTell_118 : decode cX7_readTell 118 = .ok (.iconst 0, 1) := by decide +kernel
theorem dX7_readTell_119 : decode cX7_readTell 119 = .ok (.sipush 9999, 3) := by decide +kernel
theorem dX7_readTell_122 : decode cX7_readTell 122 = .ok (.invokevirtual 124, 3) := by decide +kernel
theorem dX7_readTell_125 : decode cX7_readTell 125 = .ok (.putfield 131, 3) := by decide +kernel
theorem dX7_readTell_128 : decode cX7_readTell 128 = .ok (.goto 35, 3) := by decide +kernel
theorem dX7_readTell_131 : decode cX7_readTell 131 = .ok (.iload_n 1, 1) := by decide +kernel
theorem dX7_readTell_132 : decode cX7_readTell 132 = .ok (.bipush 13, 2) := by decide +kernel
theorem dX7_readTell_134 : decode cX7_readTell 134 = .ok (.if_icmp .lt 9, 3) := by decide +kernel
theorem dX7_readTell_137 : decode cX7_readTell 137 = .ok (.iload_n 1, 1) := by decide +kernel
theorem dX7_readTell_138 : decode cX7_readTell 138 = .ok (.bipush 16, 2) := by decide +kernel
theorem dX7_readTell_140 : decode cX7_readTell 140 = .ok (.if_icmp .le 9, 3) := by decide +kernel
theorem dX7_readTell_143 : decode cX7_readTell 143 = .ok (.aload_n 0, 1) := by decide +kernel
theorem dX7_readTell_144 : decode cX7_readTell 144 = .ok (.iconst 1, 1) := by decide +kernel
theorem dX7_readTell_145 : decode cX7_readTell 145 = .ok (.invokevirtual 105, 3) := by decide +kernel
theorem dX7_readTell_148 : decode cX7_readTell 148 = .ok (.return_, 1) := by decide +kernel
theorem dX7_readTell_149 : decode cX7_readTell 149 = .ok (.aload_n 0, 1) := by decide +kernel
theorem dX7_readTell_150 : decode cX7_readTell 150 = .ok (.iload_n 1, 1) := by decide +kernel
theorem dX7_readTell_151 : decode cX7_readTell 151 = .ok (.invokevirtual 120, 3) := by decide +kernel
theorem dX7_readTell_154 : decode cX7_readTell 154 = .ok (.pop, 1) := by decide +kernel
theorem dX7_readTell_155 : decode cX7_readTell 155 = .ok (.aload_n 0, 1) := by decide +kernel
theorem dX7_readTell_156 : decode cX7_readTell 156 = .ok (.iload_n 1, 1) := by decide +kernel
theorem dX7_readTell_157 : decode cX7_readTell 157 = .ok (.bipush 13, 2) := by decide +kernel
theorem dX7_readTell_159 : decode cX7_readTell 159 = .ok (.isub, 1) := by decide +kernel
theorem dX7_readTell_160 : decode cX7_readTell 160 = .ok (.invokevirtual 134, 3) := by decide +kernel
theorem dX7_readTell_163 : decode cX7_readTell 163 = .ok (.aload_n 0, 1) := by decide +kernel
theorem dX7_readTell_164 : decode cX7_readTell 164 = .ok (.bipush 59, 2) := by decide +kernel
theorem dX7_readTell_166 : decode cX7_readTell 166 = .ok (.invokevirtual 120, 3) := by decide +kernel
theorem dX7_readTell_169 : decode cX7_readTell 169 = .ok (.pop, 1) := by decide +kernel
theorem dX7_readTell_170 : decode cX7_readTell 170 = .ok (.return_, 1) := by decide +kernel
theorem dX7_takeNumber_0 : decode cX7_takeNumber 0 = .ok (.aload_n 0, 1) := by decide +kernel
theorem dX7_takeNumber_1 : decode cX7_takeNumber 1 = .ok (.getfield 69, 3) := by decide +kernel
theorem dX7_takeNumber_4 : decode cX7_takeNumber 4 = .ok (.aload_n 0, 1) := by decide +kernel
theorem dX7_takeNumber_5 : decode cX7_takeNumber 5 = .ok (.getfield 29, 3) := by decide +kernel
theorem dX7_takeNumber_8 : decode cX7_takeNumber 8 = .ok (.invokevirtual 137, 3) := by decide +kernel
theorem dX7_takeNumber_11 : decode cX7_takeNumber 11 = .ok (.l2i, 1) := by decide +kernel
theorem dX7_takeNumber_12 : decode cX7_takeNumber 12 = .ok (.istore_n 3, 1) := by decide +kernel
theorem dX7_takeNumber_13 : decode cX7_takeNumber 13 = .ok (.aload_n 0, 1) := by decide +kernel
theorem dX7_takeNumber_14 : decode cX7_takeNumber 14 = .ok (.getfield 69, 3) := by decide +kernel
theorem dX7_takeNumber_17 : decode cX7_takeNumber 17 = .ok (.aload_n 0, 1) := by decide +kernel
theorem dX7_takeNumber_18 : decode cX7_takeNumber 18 = .ok (.getfield 29, 3) := by decide +kernel
theorem dX7_takeNumber_21 : decode cX7_takeNumber 21 = .ok (.invokevirtual 87, 3) := by decide +kernel
theorem dX7_takeNumber_24 : decode cX7_takeNumber 24 = .ok (.istore 4, 2) := by decide +kernel
theorem dX7_takeNumber_26 : decode cX7_takeNumber 26 = .ok (.aload_n 0, 1) := by decide +kernel
theorem dX7_takeNumber_27 : decode cX7_takeNumber 27 = .ok (.bipush 30, 2) := by decide +kernel
theorem dX7_takeNumber_29 : decode cX7_takeNumber 29 = .ok (.invokevirtual 120, 3) := by decide +kernel
theorem dX7_takeNumber_32 : decode cX7_takeNumber 32 = .ok (.ifCond .ne 5, 3) := by decide +kernel
theorem dX7_takeNumber_35 : decode cX7_takeNumber 35 = .ok (.iload_n 1, 1) := by decide +kernel
theorem dX7_takeNumber_36 : decode cX7_takeNumber 36 = .ok (.ireturn, 1) := by decide +kernel
theorem dX7_takeNumber_37 : decode cX7_takeNumber 37 = .ok (.iload_n 3, 1) := by decide +kernel
theorem dX7_takeNumber_38 : decode cX7_takeNumber 38 = .ok (.iload_n 1, 1) := by decide +kernel
theorem dX7_takeNumber_39 : decode cX7_takeNumber 39 = .ok (.if_icmp .lt 8, 3) := by decide +kernel
theorem dX7_takeNumber_42 : decode cX7_takeNumber 42 = .ok (.iload_n 3, 1) := by decide +kernel
theorem dX7_takeNumber_43 : decode cX7_takeNumber 43 = .ok (.iload_n 2, 1) := by decide +kernel
theorem dX7_takeNumber_44 : decode cX7_takeNumber 44 = .ok (.if_icmp .le 10, 3) := by decide +kernel
theorem dX7_takeNumber_47 : decode cX7_takeNumber 47 = .ok (.aload_n 0, 1) := by decide +kernel
theorem dX7_takeNumber_48 : decode cX7_takeNumber 48 = .ok (.iconst 5, 1) := by decide +kernel
theorem dX7_takeNumber_49 : decode cX7_takeNumber 49 = .ok (.iload 4, 2) := by decide +kernel
theorem dX7_takeNumber_51 : decode cX7_takeNumber 51 = .ok (.invokevirtual 141, 3) := by decide +kernel
theorem dX7_takeNumber_54 : decode cX7_takeNumber 54 = .ok (.iload_n 1, 1) := by decide +kernel
theorem dX7_takeNumber_55 : decode cX7_takeNumber 55 = .ok (.iload_n 2, 1) := by decide +kernel
theorem dX7_takeNumber_56 : decode cX7_takeNumber 56 = .ok (.iload_n 3, 1) := by decide +kernel
theorem dX7_takeNumber_57 : decode cX7_takeNumber 57 = .ok (.invokestatic 145, 3) := by decide +kernel
theorem dX7_takeNumber_60 : decode cX7_takeNumber 60 = .ok (.invokestatic 150, 3) := by decide +kernel
theorem dX7_takeNumber_63 : decode cX7_takeNumber 63 = .ok (.ireturn, 1) := by decide +kernel
theorem dX7_takeSpot_0 : decode cX7_takeSpot 0 = .ok (.aload_n 0, 1) := by decide +kernel
theorem dX7_takeSpot_1 : decode cX7_takeSpot 1 = .ok (.iconst 0, 1) := by decide +kernel
theorem dX7_takeSpot_2 : decode cX7_takeSpot 2 = .ok (.iconst 4, 1) := by decide +kernel
theorem dX7_takeSpot_3 : decode cX7_takeSpot 3 = .ok (.invokevirtual 124, 3) := by decide +kernel
theorem dX7_takeSpot_6 : decode cX7_takeSpot 6 = .ok (.istore_n 1, 1) := by decide +kernel
theorem dX7_takeSpot_7 : decode cX7_takeSpot 7 = .ok (.iload_n 1, 1) := by decide +kernel
theorem dX7_takeSpot_8 : decode cX7_takeSpot 8 = .ok (.iconst 5, 1) := by decide +kernel
theorem dX7_takeSpot_9 : decode cX7_takeSpot 9 = .ok (.aload_n 0, 1) := by decide +kernel
theorem dX7_takeSpot_10 : decode cX7_takeSpot 10 = .ok (.iconst 0, 1) := by decide +kernel
theorem dX7_takeSpot_11 : decode cX7_takeSpot 11 = .ok (.iconst 4, 1) := by decide +kernel
theorem dX7_takeSpot_12 : decode cX7_takeSpot 12 = .ok (.invokevirtual 124, 3) := by decide +kernel
theorem dX7_takeSpot_15 : decode cX7_takeSpot 15 = .ok (.imul, 1) := by decide +kernel
theorem dX7_takeSpot_16 : decode cX7_takeSpot 16 = .ok (.iadd, 1) := by decide +kernel
theorem dX7_takeSpot_17 : decode cX7_takeSpot 17 = .ok (.ireturn, 1) := by decide +kernel
theorem dX7_readLawn_0 : decode cX7_readLawn 0 = .ok (.aload_n 0, 1) := by decide +kernel
theorem dX7_readLawn_1 : decode cX7_readLawn 1 = .ok (.bipush 9, 2) := by decide +kernel
theorem dX7_readLawn_3 : decode cX7_readLawn 3 = .ok (.invokevirtual 120, 3) := by decide +kernel
theorem dX7_readLawn_6 : decode cX7_readLawn 6 = .ok (.pop, 1) := by decide +kernel
theorem dX7_readLawn_7 : decode cX7_readLawn 7 = .ok (.aload_n 0, 1) := by decide +kernel
theorem dX7_readLawn_8 : decode cX7_readLawn 8 = .ok (.iconst 2, 1) := by decide +kernel
theorem dX7_readLawn_9 : decode cX7_readLawn 9 = .ok (.iconst 5, 1) := by decide +kernel
theorem dX7_readLawn_10 : decode cX7_readLawn 10 = .ok (.invokevirtual 124, 3) := by decide +kernel
theorem dX7_readLawn_13 : decode cX7_readLawn 13 = .ok (.istore_n 1, 1) := by decide +kernel
theorem dX7_readLawn_14 : decode cX7_readLawn 14 = .ok (.aload_n 0, 1) := by decide +kernel
theorem dX7_readLawn_15 : decode cX7_readLawn 15 = .ok (.getfield 12, 3) := by decide +kernel
theorem dX7_readLawn_18 : decode cX7_readLawn 18 = .ok (.getfield 153, 3) := by decide +kernel
theorem dX7_readLawn_21 : decode cX7_readLawn 21 = .ok (.iload_n 1, 1) := by decide +kernel
theorem dX7_readLawn_22 : decode cX7_readLawn 22 = .ok (.aload_n 0, 1) := by decide +kernel
theorem dX7_readLawn_23 : decode cX7_readLawn 23 = .ok (.iconst 2, 1) := by decide +kernel
theorem dX7_readLawn_24 : decode cX7_readLawn 24 = .ok (.iconst 5, 1) := by decide +kernel
theorem dX7_readLawn_25 : decode cX7_readLawn 25 = .ok (.invokevirtual 124, 3) := by decide +kernel
theorem dX7_readLawn_28 : decode cX7_readLawn 28 = .ok (.invokevirtual 157, 3) := by decide +kernel
theorem dX7_readLawn_31 : decode cX7_readLawn 31 = .ok (.return_, 1) := by decide +kernel
theorem dX7_readTune_0 : decode cX7_readTune 0 = .ok (.aload_n 0, 1) := by decide +kernel
theorem dX7_readTune_1 : decode cX7_readTune 1 = .ok (.getfield 58, 3) := by decide +kernel
theorem dX7_readTune_4 : decode cX7_readTune 4 = .ok (.bipush 8, 2) := by decide +kernel
theorem dX7_readTune_6 : decode cX7_readTune 6 = .ok (.if_icmp .lt 8, 3) := by decide +kernel
theorem dX7_readTune_9 : decode cX7_readTune 9 = .ok (.aload_n 0, 1) := by decide +kernel
theorem dX7_readTune_10 : decode cX7_readTune 10 = .ok (.iconst 2, 1) := by decide +kernel
theorem dX7_readTune_11 : decode cX7_readTune 11 = .ok (.invokevirtual 105, 3) := by decide +kernel
theorem dX7_readTune_14 : decode cX7_readTune 14 = .ok (.aload_n 0, 1) := by decide +kernel
theorem dX7_readTune_15 : decode cX7_readTune 15 = .ok (.dup, 1) := by decide +kernel
theorem dX7_readTune_16 : decode cX7_readTune 16 = .ok (.getfield 58, 3) := by decide +kernel
theorem dX7_readTune_19 : decode cX7_readTune 19 = .ok (.iconst 1, 1) := by decide +kernel
theorem dX7_readTune_20 : decode cX7_readTune 20 = .ok (.iadd, 1) := by decide +kernel
theorem dX7_readTune_21 : decode cX7_readTune 21 = .ok (.putfield 58, 3) := by decide +kernel
theorem dX7_readTune_24 : decode cX7_readTune 24 = .ok (.aload_n 0, 1) := by decide +kernel
theorem dX7_readTune_25 : decode cX7_readTune 25 = .ok (.bipush 10, 2) := by decide +kernel
theorem dX7_readTune_27 : decode cX7_readTune 27 = .ok (.invokevirtual 120, 3) := by decide +kernel
theorem dX7_readTune_30 : decode cX7_readTune 30 = .ok (.pop, 1) := by decide +kernel
theorem dX7_readTune_31 : decode cX7_readTune 31 = .ok (.aload_n 0, 1) := by decide +kernel
theorem dX7_readTune_32 : decode cX7_readTune 32 = .ok (.invokevirtual 162, 3) := by decide +kernel
theorem dX7_readTune_35 : decode cX7_readTune 35 = .ok (.istore_n 1, 1) := by decide +kernel
theorem dX7_readTune_36 : decode cX7_readTune 36 = .ok (.aload_n 0, 1) := by decide +kernel
theorem dX7_readTune_37 : decode cX7_readTune 37 = .ok (.iconst 2, 1) := by decide +kernel
theorem dX7_readTune_38 : decode cX7_readTune 38 = .ok (.bipush 6, 2) := by decide +kernel
theorem dX7_readTune_40 : decode cX7_readTune 40 = .ok (.invokevirtual 124, 3) := by decide +kernel
theorem dX7_readTune_43 : decode cX7_readTune 43 = .ok (.istore_n 2, 1) := by decide +kernel
theorem dX7_readTune_44 : decode cX7_readTune 44 = .ok (.aload_n 0, 1) := by decide +kernel
theorem dX7_readTune_45 : decode cX7_readTune 45 = .ok (.iconst 0, 1) := by decide +kernel
theorem dX7_readTune_46 : decode cX7_readTune 46 = .ok (.iload_n 2, 1) := by decide +kernel
theorem dX7_readTune_47 : decode cX7_readTune 47 = .ok (.iconst 1, 1) := by decide +kernel
theorem dX7_readTune_48 : decode cX7_readTune 48 = .ok (.isub, 1) := by decide +kernel
theorem dX7_readTune_49 : decode cX7_readTune 49 = .ok (.invokevirtual 124, 3) := by decide +kernel
theorem dX7_readTune_52 : decode cX7_readTune 52 = .ok (.istore_n 3, 1) := by decide +kernel
theorem dX7_readTune_53 : decode cX7_readTune 53 = .ok (.iload_n 1, 1) := by decide +kernel
theorem dX7_readTune_54 : decode cX7_readTune 54 = .ok (.ifCond .lt 23, 3) := by decide +kernel
theorem dX7_readTune_57 : decode cX7_readTune 57 = .ok (.iload_n 1, 1) := by decide +kernel
theorem dX7_readTune_58 : decode cX7_readTune 58 = .ok (.bipush 25, 2) := by decide +kernel
theorem dX7_readTune_60 : decode cX7_readTune 60 = .ok (.if_icmp .ge 17, 3) := by decide +kernel
theorem dX7_readTune_63 : decode cX7_readTune 63 = .ok (.aload_n 0, 1) := by decide +kernel
theorem dX7_readTune_64 : decode cX7_readTune 64 = .ok (.getfield 49, 3) := by decide +kernel
theorem dX7_readTune_67 : decode cX7_readTune 67 = .ok (.iload_n 1, 1) := by decide +kernel
theorem dX7_readTune_68 : decode cX7_readTune 68 = .ok (.iload_n 2, 1) := by decide +kernel
theorem dX7_readTune_69 : decode cX7_readTune 69 = .ok (.iastore, 1) := by decide +kernel
theorem dX7_readTune_70 : decode cX7_readTune 70 = .ok (.aload_n 0, 1) := by decide +kernel
theorem dX7_readTune_71 : decode cX7_readTune 71 = .ok (.getfield 52, 3) := by decide +kernel
theorem dX7_readTune_74 : decode cX7_readTune 74 = .ok (.iload_n 1, 1) := by decide +kernel
theorem dX7_readTune_75 : decode cX7_readTune 75 = .ok (.iload_n 3, 1) := by decide +kernel
theorem dX7_readTune_76 : decode cX7_readTune 76 = .ok (.iastore, 1) := by decide +kernel
theorem dX7_readTune_77 : decode cX7_readTune 77 = .ok (.return_, 1) := by decide +kernel
theorem dX7_readGoer_0 : decode cX7_readGoer 0 = .ok (.aload_n 0, 1) := by decide +kernel
theorem dX7_readGoer_1 : decode cX7_readGoer 1 = .ok (.getfield 12, 3) := by decide +kernel
theorem dX7_readGoer_4 : decode cX7_readGoer 4 = .ok (.getfield 165, 3) := by decide +kernel
theorem dX7_readGoer_7 : decode cX7_readGoer 7 = .ok (.istore_n 1, 1) := by decide +kernel
theorem dX7_readGoer_8 : decode cX7_readGoer 8 = .ok (.iload_n 1, 1) := by decide +kernel
theorem dX7_readGoer_9 : decode cX7_readGoer 9 = .ok (.iconst 5, 1) := by decide +kernel
theorem dX7_readGoer_10 : decode cX7_readGoer 10 = .ok (.if_icmp .lt 9, 3) := by decide +kernel
theorem dX7_readGoer_13 : decode cX7_readGoer 13 = .ok (.aload_n 0, 1) := by decide +kernel
theorem dX7_readGoer_14 : decode cX7_readGoer 14 = .ok (.iconst 2, 1) := by decide +kernel
theorem dX7_readGoer_15 : decode cX7_readGoer 15 = .ok (.invokevirtual 105, 3) := by decide +kernel
theorem dX7_readGoer_18 : decode cX7_readGoer 18 = .ok (.return_, 1) := by decide +kernel
theorem dX7_readGoer_19 : decode cX7_readGoer 19 = .ok (.aload_n 0, 1) := by decide +kernel
theorem dX7_readGoer_20 : decode cX7_readGoer 20 = .ok (.bipush 11, 2) := by decide +kernel
theorem dX7_readGoer_22 : decode cX7_readGoer 22 = .ok (.invokevirtual 120, 3) := by decide +kernel
theorem dX7_readGoer_25 : decode cX7_readGoer 25 = .ok (.pop, 1) := by decide +kernel
theorem dX7_readGoer_26 : decode cX7_readGoer 26 = .ok (.aload_n 0, 1) := by decide +kernel
theorem dX7_readGoer_27 : decode cX7_readGoer 27 = .ok (.getfield 41, 3) := by decide +kernel
theorem dX7_readGoer_30 : decode cX7_readGoer 30 = .ok (.iload_n 1, 1) := by decide +kernel
theorem dX7_readGoer_31 : decode cX7_readGoer 31 = .ok (.aload_n 0, 1) := by decide +kernel
theorem dX7_readGoer_32 : decode cX7_readGoer 32 = .ok (.getfield 69, 3) := by decide +kernel
theorem dX7_readGoer_35 : decode cX7_readGoer 35 = .ok (.aload_n 0, 1) := by decide +kernel
theorem dX7_readGoer_36 : decode cX7_readGoer 36 = .ok (.getfield 29, 3) := by decide +kernel
theorem dX7_readGoer_39 : decode cX7_readGoer 39 = .ok (.invokevirtual 137, 3) := by decide +kernel
theorem dX7_readGoer_42 : decode cX7_readGoer 42 = .ok (.lastore, 1) := by decide +kernel
theorem dX7_readGoer_43 : decode cX7_readGoer 43 = .ok (.aload_n 0, 1) := by decide +kernel
theorem dX7_readGoer_44 : decode cX7_readGoer 44 = .ok (.getfield 69, 3) := by decide +kernel
theorem dX7_readGoer_47 : decode cX7_readGoer 47 = .ok (.aload_n 0, 1) := by decide +kernel
theorem dX7_readGoer_48 : decode cX7_readGoer 48 = .ok (.getfield 29, 3) := by decide +kernel
theorem dX7_readGoer_51 : decode cX7_readGoer 51 = .ok (.invokevirtual 87, 3) := by decide +kernel
theorem dX7_readGoer_54 : decode cX7_readGoer 54 = .ok (.istore_n 2, 1) := by decide +kernel
theorem dX7_readGoer_55 : decode cX7_readGoer 55 = .ok (.aload_n 0, 1) := by decide +kernel
theorem dX7_readGoer_56 : decode cX7_readGoer 56 = .ok (.bipush 31, 2) := by decide +kernel
theorem dX7_readGoer_58 : decode cX7_readGoer 58 = .ok (.invokevirtual 120, 3) := by decide +kernel
theorem dX7_readGoer_61 : decode cX7_readGoer 61 = .ok (.pop, 1) := by decide +kernel
theorem dX7_readGoer_62 : decode cX7_readGoer 62 = .ok (.iconst 0, 1) := by decide +kernel
theorem dX7_readGoer_63 : decode cX7_readGoer 63 = .ok (.istore_n 3, 1) := by decide +kernel
theorem dX7_readGoer_64 : decode cX7_readGoer 64 = .ok (.iload_n 3, 1) := by decide +kernel
theorem dX7_readGoer_65 : decode cX7_readGoer 65 = .ok (.iload_n 1, 1) := by decide +kernel
theorem dX7_readGoer_66 : decode cX7_readGoer 66 = .ok (.if_icmp .ge 31, 3) := by decide +kernel
theorem dX7_readGoer_69 : decode cX7_readGoer 69 = .ok (.aload_n 0, 1) := by decide +kernel
theorem dX7_readGoer_70 : decode cX7_readGoer 70 = .ok (.getfield 41, 3) := by decide +kernel
theorem dX7_readGoer_73 : decode cX7_readGoer 73 = .ok (.iload_n 3, 1) := by decide +kernel
theorem dX7_readGoer_74 : decode cX7_readGoer 74 = .ok (.laload, 1) := by decide +kernel
theorem dX7_readGoer_75 : decode cX7_readGoer 75 = .ok (.aload_n 0, 1) := by decide +kernel
theorem dX7_readGoer_76 : decode cX7_readGoer 76 = .ok (.getfield 41, 3) := by decide +kernel
theorem dX7_readGoer_79 : decode cX7_readGoer 79 = .ok (.iload_n 1, 1) := by decide +kernel
theorem dX7_readGoer_80 : decode cX7_readGoer 80 = .ok (.laload, 1) := by decide +kernel
theorem dX7_readGoer_81 : decode cX7_readGoer 81 = .ok (.lcmp, 1) := by decide +kernel
theorem dX7_readGoer_82 : decode cX7_readGoer 82 = .ok (.ifCond .ne 9, 3) := by decide +kernel
theorem dX7_readGoer_85 : decode cX7_readGoer 85 = .ok (.aload_n 0, 1) := by decide +kernel
theorem dX7_readGoer_86 : decode cX7_readGoer 86 = .ok (.iconst 3, 1) := by decide +kernel
theorem dX7_readGoer_87 : decode cX7_readGoer 87 = .ok (.iload_n 2, 1) := by decide +kernel
theorem dX7_readGoer_88 : decode cX7_readGoer 88 = .ok (.invokevirtual 141, 3) := by decide +kernel
theorem dX7_readGoer_91 : decode cX7_readGoer 91 = .ok (.iinc 3 1, 3) := by decide +kernel
theorem dX7_readGoer_94 : decode cX7_readGoer 94 = .ok (.goto (-30), 3) := by decide +kernel
theorem dX7_readGoer_97 : decode cX7_readGoer 97 = .ok (.aload_n 0, 1) := by decide +kernel
theorem dX7_readGoer_98 : decode cX7_readGoer 98 = .ok (.getfield 45, 3) := by decide +kernel
theorem dX7_readGoer_101 : decode cX7_readGoer 101 = .ok (.iload_n 1, 1) := by decide +kernel
theorem dX7_readGoer_102 : decode cX7_readGoer 102 = .ok (.aload_n 0, 1) := by decide +kernel
theorem dX7_readGoer_103 : decode cX7_readGoer 103 = .ok (.invokevirtual 162, 3) := by decide +kernel
theorem dX7_readGoer_106 : decode cX7_readGoer 106 = .ok (.iastore, 1) := by decide +kernel
theorem dX7_readGoer_107 : decode cX7_readGoer 107 = .ok (.aload_n 0, 1) := by decide +kernel
theorem dX7_readGoer_108 : decode cX7_readGoer 108 = .ok (.getfield 12, 3) := by decide +kernel
theorem dX7_readGoer_111 : decode cX7_readGoer 111 = .ok (.dup, 1) := by decide +kernel
theorem dX7_readGoer_112 : decode cX7_readGoer 112 = .ok (.getfield 165, 3) := by decide +kernel
theorem dX7_readGoer_115 : decode cX7_readGoer 115 = .ok (.iconst 1, 1) := by decide +kernel
theorem dX7_readGoer_116 : decode cX7_readGoer 116 = .ok (.iadd, 1) := by decide +kernel
theorem dX7_readGoer_117 : decode cX7_readGoer 117 = .ok (.putfield 165, 3) := by decide +kernel
theorem dX7_readGoer_120 : decode cX7_readGoer 120 = .ok (.return_, 1) := by decide +kernel
theorem dX7_readRope_0 : decode cX7_readRope 0 = .ok (.aload_n 0, 1) := by decide +kernel
theorem dX7_readRope_1 : decode cX7_readRope 1 = .ok (.getfield 61, 3) := by decide +kernel
theorem dX7_readRope_4 : decode cX7_readRope 4 = .ok (.bipush 8, 2) := by decide +kernel
theorem dX7_readRope_6 : decode cX7_readRope 6 = .ok (.if_icmp .lt 8, 3) := by decide +kernel
theorem dX7_readRope_9 : decode cX7_readRope 9 = .ok (.aload_n 0, 1) := by decide +kernel
theorem dX7_readRope_10 : decode cX7_readRope 10 = .ok (.iconst 2, 1) := by decide +kernel
theorem dX7_readRope_11 : decode cX7_readRope 11 = .ok (.invokevirtual 105, 3) := by decide +kernel
theorem dX7_readRope_14 : decode cX7_readRope 14 = .ok (.aload_n 0, 1) := by decide +kernel
theorem dX7_readRope_15 : decode cX7_readRope 15 = .ok (.dup, 1) := by decide +kernel
theorem dX7_readRope_16 : decode cX7_readRope 16 = .ok (.getfield 61, 3) := by decide +kernel
theorem dX7_readRope_19 : decode cX7_readRope 19 = .ok (.iconst 1, 1) := by decide +kernel
theorem dX7_readRope_20 : decode cX7_readRope 20 = .ok (.iadd, 1) := by decide +kernel
theorem dX7_readRope_21 : decode cX7_readRope 21 = .ok (.putfield 61, 3) := by decide +kernel
theorem dX7_readRope_24 : decode cX7_readRope 24 = .ok (.aload_n 0, 1) := by decide +kernel
theorem dX7_readRope_25 : decode cX7_readRope 25 = .ok (.bipush 12, 2) := by decide +kernel
theorem dX7_readRope_27 : decode cX7_readRope 27 = .ok (.invokevirtual 120, 3) := by decide +kernel
theorem dX7_readRope_30 : decode cX7_readRope 30 = .ok (.pop, 1) := by decide +kernel
theorem dX7_readRope_31 : decode cX7_readRope 31 = .ok (.aload_n 0, 1) := by decide +kernel
theorem dX7_readRope_32 : decode cX7_readRope 32 = .ok (.dup, 1) := by decide +kernel
theorem dX7_readRope_33 : decode cX7_readRope 33 = .ok (.getfield 55, 3) := by decide +kernel
theorem dX7_readRope_36 : decode cX7_readRope 36 = .ok (.iconst 1, 1) := by decide +kernel
theorem dX7_readRope_37 : decode cX7_readRope 37 = .ok (.aload_n 0, 1) := by decide +kernel
theorem dX7_readRope_38 : decode cX7_readRope 38 = .ok (.invokevirtual 162, 3) := by decide +kernel
theorem dX7_readRope_41 : decode cX7_readRope 41 = .ok (.ishl, 1) := by decide +kernel
theorem dX7_readRope_42 : decode cX7_readRope 42 = .ok (.ior, 1) := by decide +kernel
theorem dX7_readRope_43 : decode cX7_readRope 43 = .ok (.putfield 55, 3) := by decide +kernel
theorem dX7_readRope_46 : decode cX7_readRope 46 = .ok (.return_, 1) := by decide +kernel
theorem dX7_readLaw_0 : decode cX7_readLaw 0 = .ok (.aload_n 0, 1) := by decide +kernel
theorem dX7_readLaw_1 : decode cX7_readLaw 1 = .ok (.bipush 61, 2) := by decide +kernel
theorem dX7_readLaw_3 : decode cX7_readLaw 3 = .ok (.invokevirtual 120, 3) := by decide +kernel
theorem dX7_readLaw_6 : decode cX7_readLaw 6 = .ok (.pop, 1) := by decide +kernel
theorem dX7_readLaw_7 : decode cX7_readLaw 7 = .ok (.aload_n 0, 1) := by decide +kernel
theorem dX7_readLaw_8 : decode cX7_readLaw 8 = .ok (.getfield 12, 3) := by decide +kernel
theorem dX7_readLaw_11 : decode cX7_readLaw 11 = .ok (.getfield 168, 3) := by decide +kernel
theorem dX7_readLaw_14 : decode cX7_readLaw 14 = .ok (.iload_n 1, 1) := by decide +kernel
theorem dX7_readLaw_15 : decode cX7_readLaw 15 = .ok (.invokevirtual 172, 3) := by decide +kernel
theorem dX7_readLaw_18 : decode cX7_readLaw 18 = .ok (.iconst 0, 1) := by decide +kernel
theorem dX7_readLaw_19 : decode cX7_readLaw 19 = .ok (.istore_n 2, 1) := by decide +kernel
theorem dX7_readLaw_20 : decode cX7_readLaw 20 = .ok (.aload_n 0, 1) := by decide +kernel
theorem dX7_readLaw_21 : decode cX7_readLaw 21 = .ok (.getfield 32, 3) := by decide +kernel
theorem dX7_readLaw_24 : decode cX7_readLaw 24 = .ok (.ifCond .ne 110, 3) := by decide +kernel
theorem dX7_readLaw_27 : decode cX7_readLaw 27 = .ok (.aload_n 0, 1) := by decide +kernel
theorem dX7_readLaw_28 : decode cX7_readLaw 28 = .ok (.invokevirtual 80, 3) := by decide +kernel
theorem dX7_readLaw_31 : decode cX7_readLaw 31 = .ok (.bipush 19, 2) := by decide +kernel
theorem dX7_readLaw_33 : decode cX7_readLaw 33 = .ok (.if_icmp .ne 101, 3) := by decide +kernel
theorem dX7_readLaw_36 : decode cX7_readLaw 36 = .ok (.iload_n 2, 1) := by decide +kernel
theorem dX7_readLaw_37 : decode cX7_readLaw 37 = .ok (.iconst 4, 1) := by decide +kernel
theorem dX7_readLaw_38 : decode cX7_readLaw 38 = .ok (.if_icmp .gt 96, 3) := by decide +kernel
theorem dX7_readLaw_41 : decode cX7_readLaw 41 = .ok (.iload_n 2, 1) := by decide +kernel
theorem dX7_readLaw_42 : decode cX7_readLaw 42 = .ok (.iconst 4, 1) := by decide +kernel
theorem dX7_readLaw_43 : decode cX7_readLaw 43 = .ok (.if_icmp .lt 8, 3) := by decide +kernel
theorem dX7_readLaw_46 : decode cX7_readLaw 46 = .ok (.aload_n 0, 1) := by decide +kernel
theorem dX7_readLaw_47 : decode cX7_readLaw 47 = .ok (.iconst 2, 1) := by decide +kernel
theorem dX7_readLaw_48 : decode cX7_readLaw 48 = .ok (.invokevirtual 105, 3) := by decide +kernel
theorem dX7_readLaw_51 : decode cX7_readLaw 51 = .ok (.aload_n 0, 1) := by decide +kernel
theorem dX7_readLaw_52 : decode cX7_readLaw 52 = .ok (.bipush 19, 2) := by decide +kernel
theorem dX7_readLaw_54 : decode cX7_readLaw 54 = .ok (.invokevirtual 120, 3) := by decide +kernel
theorem dX7_readLaw_57 : decode cX7_readLaw 57 = .ok (.pop, 1) := by decide +kernel
theorem dX7_readLaw_58 : decode cX7_readLaw 58 = .ok (.aload_n 0, 1) := by decide +kernel
theorem dX7_readLaw_59 : decode cX7_readLaw 59 = .ok (.iconst 0, 1) := by decide +kernel
theorem dX7_readLaw_60 : decode cX7_readLaw 60 = .ok (.invokevirtual 177, 3) := by decide +kernel
theorem dX7_readLaw_63 : decode cX7_readLaw 63 = .ok (.aload_n 0, 1) := by decide +kernel
theorem dX7_readLaw_64 : decode cX7_readLaw 64 = .ok (.bipush 60, 2) := by decide +kernel
theorem dX7_readLaw_66 : decode cX7_readLaw 66 = .ok (.invokevirtual 120, 3) := by decide +kernel
theorem dX7_readLaw_69 : decode cX7_readLaw 69 = .ok (.pop, 1) := by decide +kernel
theorem dX7_readLaw_70 : decode cX7_readLaw 70 = .ok (.aload_n 0, 1) := by decide +kernel
theorem dX7_readLaw_71 : decode cX7_readLaw 71 = .ok (.iconst 0, 1) := by decide +kernel
theorem dX7_readLaw_72 : decode cX7_readLaw 72 = .ok (.invokevirtual 177, 3) := by decide +kernel
theorem dX7_readLaw_75 : decode cX7_readLaw 75 = .ok (.aload_n 0, 1) := by decide +kernel
theorem dX7_readLaw_76 : decode cX7_readLaw 76 = .ok (.bipush 20, 2) := by decide +kernel
theorem dX7_readLaw_78 : decode cX7_readLaw 78 = .ok (.invokevirtual 120, 3) := by decide +kernel
theorem dX7_readLaw_81 : decode cX7_readLaw 81 = .ok (.pop, 1) := by decide +kernel
theorem dX7_readLaw_82 : decode cX7_readLaw 82 = .ok (.aload_n 0, 1) := by decide +kernel
theorem dX7_readLaw_83 : decode cX7_readLaw 83 = .ok (.getfield 12, 3) := by decide +kernel
theorem dX7_readLaw_86 : decode cX7_readLaw 86 = .ok (.getfield 168, 3) := by decide +kernel
theorem dX7_readLaw_89 : decode cX7_readLaw 89 = .ok (.invokevirtual 180, 3) := by decide +kernel
theorem dX7_readLaw_92 : decode cX7_readLaw 92 = .ok (.istore_n 3, 1) := by decide +kernel
theorem dX7_readLaw_93 : decode cX7_readLaw 93 = .ok (.aload_n 0, 1) := by decide +kernel
theorem dX7_readLaw_94 : decode cX7_readLaw 94 = .ok (.iconst 0, 1) := by decide +kernel
theorem dX7_readLaw_95 : decode cX7_readLaw 95 = .ok (.invokevirtual 177, 3) := by decide +kernel
theorem dX7_readLaw_98 : decode cX7_readLaw 98 = .ok (.aload_n 0, 1) := by decide +kernel
theorem dX7_readLaw_99 : decode cX7_readLaw 99 = .ok (.bipush 21, 2) := by decide +kernel
theorem dX7_readLaw_101 : decode cX7_readLaw 101 = .ok (.invokevirtual 120, 3) := by decide +kernel
theorem dX7_readLaw_104 : decode cX7_readLaw 104 = .ok (.pop, 1) := by decide +kernel
theorem dX7_readLaw_105 : decode cX7_readLaw 105 = .ok (.aload_n 0, 1) := by decide +kernel
theorem dX7_readLaw_106 : decode cX7_readLaw 106 = .ok (.getfield 12, 3) := by decide +kernel
theorem dX7_readLaw_109 : decode cX7_readLaw 109 = .ok (.getfield 168, 3) := by decide +kernel
theorem dX7_readLaw_112 : decode cX7_readLaw 112 = .ok (.bipush (-15), 2) := by decide +kernel
theorem dX7_readLaw_114 : decode cX7_readLaw 114 = .ok (.invokevirtual 183, 3) := by decide +kernel
theorem dX7_readLaw_117 : decode cX7_readLaw 117 = .ok (.aload_n 0, 1) := by decide +kernel
theorem dX7_readLaw_118 : decode cX7_readLaw 118 = .ok (.getfield 12, 3) := by decide +kernel
theorem dX7_readLaw_121 : decode cX7_readLaw 121 = .ok (.getfield 168, 3) := by decide +kernel
theorem dX7_readLaw_124 : decode cX7_readLaw 124 = .ok (.iload_n 3, 1) := by decide +kernel
theorem dX7_readLaw_125 : decode cX7_readLaw 125 = .ok (.invokevirtual 186, 3) := by decide +kernel
theorem dX7_readLaw_128 : decode cX7_readLaw 128 = .ok (.iinc 2 1, 3) := by decide +kernel
theorem dX7_readLaw_131 : decode cX7_readLaw 131 = .ok (.goto (-111), 3) := by decide +kernel
theorem dX7_readLaw_134 : decode cX7_readLaw 134 = .ok (.aload_n 0, 1) := by decide +kernel
theorem dX7_readLaw_135 : decode cX7_readLaw 135 = .ok (.iconst 0, 1) := by decide +kernel
theorem dX7_readLaw_136 : decode cX7_readLaw 136 = .ok (.invokevirtual 177, 3) := by decide +kernel
theorem dX7_readLaw_139 : decode cX7_readLaw 139 = .ok (.aload_n 0, 1) := by decide +kernel
theorem dX7_readLaw_140 : decode cX7_readLaw 140 = .ok (.getfield 12, 3) := by decide +kernel
theorem dX7_readLaw_143 : decode cX7_readLaw 143 = .ok (.getfield 168, 3) := by decide +kernel
theorem dX7_readLaw_146 : decode cX7_readLaw 146 = .ok (.bipush (-15), 2) := by decide +kernel
theorem dX7_readLaw_148 : decode cX7_readLaw 148 = .ok (.invokevirtual 183, 3) := by decide +kernel
theorem dX7_readLaw_151 : decode cX7_readLaw 151 = .ok (.return_, 1) := by decide +kernel
theorem dX7_readSum_0 : decode cX7_readSum 0 = .ok (.iconst 0, 1) := by decide +kernel
theorem dX7_readSum_1 : decode cX7_readSum 1 = .ok (.istore_n 2, 1) := by decide +kernel
theorem dX7_readSum_2 : decode cX7_readSum 2 = .ok (.aload_n 0, 1) := by decide +kernel
theorem dX7_readSum_3 : decode cX7_readSum 3 = .ok (.iload_n 1, 1) := by decide +kernel
theorem dX7_readSum_4 : decode cX7_readSum 4 = .ok (.invokevirtual 189, 3) := by decide +kernel
theorem dX7_readSum_7 : decode cX7_readSum 7 = .ok (.iconst 0, 1) := by decide +kernel
theorem dX7_readSum_8 : decode cX7_readSum 8 = .ok (.istore_n 3, 1) := by decide +kernel
theorem dX7_readSum_9 : decode cX7_readSum 9 = .ok (.iload_n 3, 1) := by decide +kernel
theorem dX7_readSum_10 : decode cX7_readSum 10 = .ok (.sipush 400, 3) := by decide +kernel
theorem dX7_readSum_13 : decode cX7_readSum 13 = .ok (.if_icmp .gt 132, 3) := by decide +kernel
theorem dX7_readSum_16 : decode cX7_readSum 16 = .ok (.aload_n 0, 1) := by decide +kernel
theorem dX7_readSum_17 : decode cX7_readSum 17 = .ok (.getfield 32, 3) := by decide +kernel
theorem dX7_readSum_20 : decode cX7_readSum 20 = .ok (.ifCond .ne 125, 3) := by decide +kernel
theorem dX7_readSum_23 : decode cX7_readSum 23 = .ok (.aload_n 0, 1) := by decide +kernel
theorem dX7_readSum_24 : decode cX7_readSum 24 = .ok (.invokevirtual 80, 3) := by decide +kernel
theorem dX7_readSum_27 : decode cX7_readSum 27 = .ok (.istore 4, 2) := by decide +kernel
theorem dX7_readSum_29 : decode cX7_readSum 29 = .ok (.iload 4, 2) := by decide +kernel
theorem dX7_readSum_31 : decode cX7_readSum 31 = .ok (.bipush 42, 2) := by decide +kernel
theorem dX7_readSum_33 : decode cX7_readSum 33 = .ok (.if_icmp .eq 10, 3) := by decide +kernel
theorem dX7_readSum_36 : decode cX7_readSum 36 = .ok (.iload 4, 2) := by decide +kernel
theorem dX7_readSum_38 : decode cX7_readSum 38 = .ok (.bipush 47, 2) := by decide +kernel
theorem dX7_readSum_40 : decode cX7_readSum 40 = .ok (.if_icmp .ne 42, 3) := by decide +kernel
theorem dX7_readSum_43 : decode cX7_readSum 43 = .ok (.aload_n 0, 1) := by decide +kernel
theorem dX7_readSum_44 : decode cX7_readSum 44 = .ok (.iload 4, 2) := by decide +kernel
theorem dX7_readSum_46 : decode cX7_readSum 46 = .ok (.invokevirtual 120, 3) := by decide +kernel
theorem dX7_readSum_49 : decode cX7_readSum 49 = .ok (.pop, 1) := by decide +kernel
theorem dX7_readSum_50 : decode cX7_readSum 50 = .ok (.aload_n 0, 1) := by decide +kernel
theorem dX7_readSum_51 : decode cX7_readSum 51 = .ok (.iload_n 1, 1) := by decide +kernel
theorem dX7_readSum_52 : decode cX7_readSum 52 = .ok (.invokevirtual 189, 3) := by decide +kernel
theorem dX7_readSum_55 : decode cX7_readSum 55 = .ok (.aload_n 0, 1) := by decide +kernel
theorem dX7_readSum_56 : decode cX7_readSum 56 = .ok (.getfield 12, 3) := by decide +kernel
theorem dX7_readSum_59 : decode cX7_readSum 59 = .ok (.getfield 168, 3) := by decide +kernel
theorem dX7_readSum_62 : decode cX7_readSum 62 = .ok (.iload 4, 2) := by decide +kernel
theorem dX7_readSum_64 : decode cX7_readSum 64 = .ok (.bipush 42, 2) := by decide +kernel
theorem dX7_readSum_66 : decode cX7_readSum 66 = .ok (.if_icmp .ne 8, 3) := by decide +kernel
theorem dX7_readSum_69 : decode cX7_readSum 69 = .ok (.bipush (-12), 2) := by decide +kernel
theorem dX7_readSum_71 : decode cX7_readSum 71 = .ok (.goto 5, 3) := by decide +kernel
theorem dX7_readSum_74 : decode cX7_readSum 74 = .ok (.bipush (-13), 2) := by decide +kernel
theorem dX7_readSum_76 : decode cX7_readSum 76 = .ok (.invokevirtual 183, 3) := by decide +kernel
theorem dX7_readSum_79 : decode cX7_readSum 79 = .ok (.goto 60, 3) := by decide +kernel
theorem dX7_readSum_82 : decode cX7_readSum 82 = .ok (.iload_n 2, 1) := by decide +kernel
theorem dX7_readSum_83 : decode cX7_readSum 83 = .ok (.ifCond .eq 26, 3) := by decide +kernel
theorem dX7_readSum_86 : decode cX7_readSum 86 = .ok (.aload_n 0, 1) := by decide +kernel
theorem dX7_readSum_87 : decode cX7_readSum 87 = .ok (.getfield 12, 3) := by decide +kernel
theorem dX7_readSum_90 : decode cX7_readSum 90 = .ok (.getfield 168, 3) := by decide +kernel
theorem dX7_readSum_93 : decode cX7_readSum 93 = .ok (.iload_n 2, 1) := by decide +kernel
theorem dX7_readSum_94 : decode cX7_readSum 94 = .ok (.bipush 43, 2) := by decide +kernel
theorem dX7_readSum_96 : decode cX7_readSum 96 = .ok (.if_icmp .ne 8, 3) := by decide +kernel
theorem dX7_readSum_99 : decode cX7_readSum 99 = .ok (.bipush (-10), 2) := by decide +kernel
theorem dX7_readSum_101 : decode cX7_readSum 101 = .ok (.goto 5, 3) := by decide +kernel
theorem dX7_readSum_104 : decode cX7_readSum 104 = .ok (.bipush (-11), 2) := by decide +kernel
theorem dX7_readSum_106 : decode cX7_readSum 106 = .ok (.invokevirtual 183, 3) := by decide +kernel
theorem dX7_readSum_109 : decode cX7_readSum 109 = .ok (.iload 4, 2) := by decide +kernel
theorem dX7_readSum_111 : decode cX7_readSum 111 = .ok (.bipush 43, 2) := by decide +kernel
theorem dX7_readSum_113 : decode cX7_readSum 113 = .ok (.if_icmp .eq 11, 3) := by decide +kernel
theorem dX7_readSum_116 : decode cX7_readSum 116 = .ok (.iload 4, 2) := by decide +kernel
theorem dX7_readSum_118 : decode cX7_readSum 118 = .ok (.bipush 45, 2) := by decide +kernel
theorem dX7_readSum_120 : decode cX7_readSum 120 = .ok (.if_icmp .eq 4, 3) := by decide +kernel
theorem dX7_readSum_123 : decode cX7_readSum 123 = .ok (.return_, 1) := by decide +kernel
theorem dX7_readSum_124 : decode cX7_readSum 124 = .ok (.iload 4, 2) := by decide +kernel
theorem dX7_readSum_126 : decode cX7_readSum 126 = .ok (.istore_n 2, 1) := by decide +kernel
theorem dX7_readSum_127 : decode cX7_readSum 127 = .ok (.aload_n 0, 1) := by decide +kernel
theorem dX7_readSum_128 : decode cX7_readSum 128 = .ok (.iload 4, 2) := by decide +kernel
theorem dX7_readSum_130 : decode cX7_readSum 130 = .ok (.invokevirtual 120, 3) := by decide +kernel
theorem dX7_readSum_133 : decode cX7_readSum 133 = .ok (.pop, 1) := by decide +kernel
theorem dX7_readSum_134 : decode cX7_readSum 134 = .ok (.aload_n 0, 1) := by decide +kernel
theorem dX7_readSum_135 : decode cX7_readSum 135 = .ok (.iload_n 1, 1) := by decide +kernel
theorem dX7_readSum_136 : decode cX7_readSum 136 = .ok (.invokevirtual 189, 3) := by decide +kernel
theorem dX7_readSum_139 : decode cX7_readSum 139 = .ok (.iinc 3 1, 3) := by decide +kernel
theorem dX7_readSum_142 : decode cX7_readSum 142 = .ok (.goto (-133), 3) := by decide +kernel
theorem dX7_readSum_145 : decode cX7_readSum 145 = .ok (.return_, 1) := by decide +kernel
theorem dX7_readUnit_0 : decode cX7_readUnit 0 = .ok (.aload_n 0, 1) := by decide +kernel
theorem dX7_readUnit_1 : decode cX7_readUnit 1 = .ok (.invokevirtual 80, 3) := by decide +kernel
theorem dX7_readUnit_4 : decode cX7_readUnit 4 = .ok (.istore_n 2, 1) := by decide +kernel
theorem dX7_readUnit_5 : decode cX7_readUnit 5 = .ok (.iload_n 2, 1) := by decide +kernel
theorem dX7_readUnit_6 : decode cX7_readUnit 6 = .ok (.bipush 30, 2) := by decide +kernel
theorem dX7_readUnit_8 : decode cX7_readUnit 8 = .ok (.if_icmp .ne 34, 3) := by decide +kernel
theorem dX7_readUnit_11 : decode cX7_readUnit 11 = .ok (.aload_n 0, 1) := by decide +kernel
theorem dX7_readUnit_12 : decode cX7_readUnit 12 = .ok (.getfield 12, 3) := by decide +kernel
theorem dX7_readUnit_15 : decode cX7_readUnit 15 = .ok (.getfield 168, 3) := by decide +kernel
theorem dX7_readUnit_18 : decode cX7_readUnit 18 = .ok (.aload_n 0, 1) := by decide +kernel
theorem dX7_readUnit_19 : decode cX7_readUnit 19 = .ok (.getfield 69, 3) := by decide +kernel
theorem dX7_readUnit_22 : decode cX7_readUnit 22 = .ok (.aload_n 0, 1) := by decide +kernel
theorem dX7_readUnit_23 : decode cX7_readUnit 23 = .ok (.getfield 29, 3) := by decide +kernel
theorem dX7_readUnit_26 : decode cX7_readUnit 26 = .ok (.invokevirtual 137, 3) := by decide +kernel
theorem dX7_readUnit_29 : decode cX7_readUnit 29 = .ok (.l2i, 1) := by decide +kernel
theorem dX7_readUnit_30 : decode cX7_readUnit 30 = .ok (.invokevirtual 183, 3) := by decide +kernel
theorem dX7_readUnit_33 : decode cX7_readUnit 33 = .ok (.aload_n 0, 1) := by decide +kernel
theorem dX7_readUnit_34 : decode cX7_readUnit 34 = .ok (.iload_n 2, 1) := by decide +kernel
theorem dX7_readUnit_35 : decode cX7_readUnit 35 = .ok (.invokevirtual 120, 3) := by decide +kernel
theorem dX7_readUnit_38 : decode cX7_readUnit 38 = .ok (.pop, 1) := by decide +kernel
theorem dX7_readUnit_39 : decode cX7_readUnit 39 = .ok (.goto 82, 3) := by decide +kernel
theorem dX7_readUnit_42 : decode cX7_readUnit 42 = .ok (.iload_n 2, 1) := by decide +kernel
theorem dX7_readUnit_43 : decode cX7_readUnit 43 = .ok (.ifCond .lt 31, 3) := by decide +kernel
theorem dX7_readUnit_46 : decode cX7_readUnit 46 = .ok (.iload_n 2, 1) := by decide +kernel
theorem dX7_readUnit_47 : decode cX7_readUnit 47 = .ok (.bipush 9, 2) := by decide +kernel
theorem dX7_readUnit_49 : decode cX7_readUnit 49 = .ok (.if_icmp .ge 25, 3) := by decide +kernel
theorem dX7_readUnit_52 : decode cX7_readUnit 52 = .ok (.aload_n 0, 1) := by decide +kernel
theorem dX7_readUnit_53 : decode cX7_readUnit 53 = .ok (.getfield 12, 3) := by decide +kernel
theorem dX7_readUnit_56 : decode cX7_readUnit 56 = .ok (.getfield 168, 3) := by decide +kernel
theorem dX7_readUnit_59 : decode cX7_readUnit 59 = .ok (.iconst (-1), 1) := by decide +kernel
theorem dX7_readUnit_60 : decode cX7_readUnit 60 = .ok (.iload_n 2, 1) := by decide +kernel
theorem dX7_readUnit_61 : decode cX7_readUnit 61 = .ok (.isub, 1) := by decide +kernel
theorem dX7_readUnit_62 : decode cX7_readUnit 62 = .ok (.invokevirtual 183, 3) := by decide +kernel
theorem dX7_readUnit_65 : decode cX7_readUnit 65 = .ok (.aload_n 0, 1) := by decide +kernel
theorem dX7_readUnit_66 : decode cX7_readUnit 66 = .ok (.iload_n 2, 1) := by decide +kernel
theorem dX7_readUnit_67 : decode cX7_readUnit 67 = .ok (.invokevirtual 120, 3) := by decide +kernel
theorem dX7_readUnit_70 : decode cX7_readUnit 70 = .ok (.pop, 1) := by decide +kernel
theorem dX7_readUnit_71 : decode cX7_readUnit 71 = .ok (.goto 50, 3) := by decide +kernel
theorem dX7_readUnit_74 : decode cX7_readUnit 74 = .ok (.iload_n 2, 1) := by decide +kernel
theorem dX7_readUnit_75 : decode cX7_readUnit 75 = .ok (.bipush 40, 2) := by decide +kernel
theorem dX7_readUnit_77 : decode cX7_readUnit 77 = .ok (.if_icmp .eq 11, 3) := by decide +kernel
theorem dX7_readUnit_80 : decode cX7_readUnit 80 = .ok (.aload_n 0, 1) := by decide +kernel
theorem dX7_readUnit_81 : decode cX7_readUnit 81 = .ok (.iconst 1, 1) := by decide +kernel
theorem dX7_readUnit_82 : decode cX7_readUnit 82 = .ok (.invokevirtual 105, 3) := by decide +kernel
theorem dX7_readUnit_85 : decode cX7_readUnit 85 = .ok (.goto 36, 3) := by decide +kernel
theorem dX7_readUnit_88 : decode cX7_readUnit 88 = .ok (.iload_n 1, 1) := by decide +kernel
theorem dX7_readUnit_89 : decode cX7_readUnit 89 = .ok (.bipush 6, 2) := by decide +kernel
theorem dX7_readUnit_91 : decode cX7_readUnit 91 = .ok (.if_icmp .lt 8, 3) := by decide +kernel
theorem dX7_readUnit_94 : decode cX7_readUnit 94 = .ok (.aload_n 0, 1) := by decide +kernel
theorem dX7_readUnit_95 : decode cX7_readUnit 95 = .ok (.iconst 2, 1) := by decide +kernel
theorem dX7_readUnit_96 : decode cX7_readUnit 96 = .ok (.invokevirtual 105, 3) := by decide +kernel
theorem dX7_readUnit_99 : decode cX7_readUnit 99 = .ok (.aload_n 0, 1) := by decide +kernel
theorem dX7_readUnit_100 : decode cX7_readUnit 100 = .ok (.iload_n 2, 1) := by decide +kernel
theorem dX7_readUnit_101 : decode cX7_readUnit 101 = .ok (.invokevirtual 120, 3) := by decide +kernel
theorem dX7_readUnit_104 : decode cX7_readUnit 104 = .ok (.ifCond .eq 17, 3) := by decide +kernel
theorem dX7_readUnit_107 : decode cX7_readUnit 107 = .ok (.aload_n 0, 1) := by decide +kernel
theorem dX7_readUnit_108 : decode cX7_readUnit 108 = .ok (.iload_n 1, 1) := by decide +kernel
theorem dX7_readUnit_109 : decode cX7_readUnit 109 = .ok (.iconst 1, 1) := by decide +kernel
theorem dX7_readUnit_110 : decode cX7_readUnit 110 = .ok (.iadd, 1) := by decide +kernel
theorem dX7_readUnit_111 : decode cX7_readUnit 111 = .ok (.invokevirtual 177, 3) := by decide +kernel
theorem dX7_readUnit_114 : decode cX7_readUnit 114 = .ok (.aload_n 0, 1) := by decide +kernel
theorem dX7_readUnit_115 : decode cX7_readUnit 115 = .ok (.bipush 41, 2) := by decide +kernel
theorem dX7_readUnit_117 : decode cX7_readUnit 117 = .ok (.invokevirtual 120, 3) := by decide +kernel
theorem dX7_readUnit_120 : decode cX7_readUnit 120 = .ok (.pop, 1) := by decide +kernel
theorem dX7_readUnit_121 : decode cX7_readUnit 121 = .ok (.return_, 1) := by decide +kernel
theorem dX7_layOut_0 : decode cX7_layOut 0 = .ok (.iconst 0, 1) := by decide +kernel
theorem dX7_layOut_1 : decode cX7_layOut 1 = .ok (.istore_n 2, 1) := by decide +kernel
theorem dX7_layOut_2 : decode cX7_layOut 2 = .ok (.iload_n 2, 1) := by decide +kernel
theorem dX7_layOut_3 : decode cX7_layOut 3 = .ok (.bipush 25, 2) := by decide +kernel
theorem dX7_layOut_5 : decode cX7_layOut 5 = .ok (.if_icmp .ge 121, 3) := by decide +kernel
theorem dX7_layOut_8 : decode cX7_layOut 8 = .ok (.aload_n 0, 1) := by decide +kernel
theorem dX7_layOut_9 : decode cX7_layOut 9 = .ok (.getfield 55, 3) := by decide +kernel
theorem dX7_layOut_12 : decode cX7_layOut 12 = .ok (.iload_n 2, 1) := by decide +kernel
theorem dX7_layOut_13 : decode cX7_layOut 13 = .ok (.iushr, 1) := by decide +kernel
theorem dX7_layOut_14 : decode cX7_layOut 14 = .ok (.iconst 1, 1) := by decide +kernel
theorem dX7_layOut_15 : decode cX7_layOut 15 = .ok (.iand, 1) := by decide +kernel
theorem dX7_layOut_16 : decode cX7_layOut 16 = .ok (.ifCond .eq 7, 3) := by decide +kernel
theorem dX7_layOut_19 : decode cX7_layOut 19 = .ok (.iconst 1, 1) := by decide +kernel
theorem dX7_layOut_20 : decode cX7_layOut 20 = .ok (.goto 4, 3) := by decide +kernel
theorem dX7_layOut_23 : decode cX7_layOut 23 = .ok (.iconst 0, 1) := by decide +kernel
theorem dX7_layOut_24 : decode cX7_layOut 24 = .ok (.istore_n 3, 1) := by decide +kernel
theorem dX7_layOut_25 : decode cX7_layOut 25 = .ok (.aload_n 0, 1) := by decide +kernel
theorem dX7_layOut_26 : decode cX7_layOut 26 = .ok (.getfield 49, 3) := by decide +kernel
theorem dX7_layOut_29 : decode cX7_layOut 29 = .ok (.iload_n 2, 1) := by decide +kernel
theorem dX7_layOut_30 : decode cX7_layOut 30 = .ok (.iaload, 1) := by decide +kernel
theorem dX7_layOut_31 : decode cX7_layOut 31 = .ok (.ifCond .le 7, 3) := by decide +kernel
theorem dX7_layOut_34 : decode cX7_layOut 34 = .ok (.iconst 1, 1) := by decide +kernel
theorem dX7_layOut_35 : decode cX7_layOut 35 = .ok (.goto 4, 3) := by decide +kernel
theorem dX7_layOut_38 : decode cX7_layOut 38 = .ok (.iconst 0, 1) := by decide +kernel
theorem dX7_layOut_39 : decode cX7_layOut 39 = .ok (.istore 4, 2) := by decide +kernel
theorem dX7_layOut_41 : decode cX7_layOut 41 = .ok (.iload_n 3, 1) := by decide +kernel
theorem dX7_layOut_42 : decode cX7_layOut 42 = .ok (.ifCond .ne 8, 3) := by decide +kernel
theorem dX7_layOut_45 : decode cX7_layOut 45 = .ok (.iload 4, 2) := by decide +kernel
theorem dX7_layOut_47 : decode cX7_layOut 47 = .ok (.ifCond .eq 21, 3) := by decide +kernel
theorem dX7_layOut_50 : decode cX7_layOut 50 = .ok (.aload_n 0, 1) := by decide +kernel
theorem dX7_layOut_51 : decode cX7_layOut 51 = .ok (.iload_n 2, 1) := by decide +kernel
theorem dX7_layOut_52 : decode cX7_layOut 52 = .ok (.invokevirtual 192, 3) := by decide +kernel
theorem dX7_layOut_55 : decode cX7_layOut 55 = .ok (.ifCond .ne 13, 3) := by decide +kernel
theorem dX7_layOut_58 : decode cX7_layOut 58 = .ok (.aload_n 0, 1) := by decide +kernel
theorem dX7_layOut_59 : decode cX7_layOut 59 = .ok (.bipush 6, 2) := by decide +kernel
theorem dX7_layOut_61 : decode cX7_layOut 61 = .ok (.iload_n 1, 1) := by decide +kernel
theorem dX7_layOut_62 : decode cX7_layOut 62 = .ok (.invokevirtual 141, 3) := by decide +kernel
theorem dX7_layOut_65 : decode cX7_layOut 65 = .ok (.goto 26, 3) := by decide +kernel
theorem dX7_layOut_68 : decode cX7_layOut 68 = .ok (.iload_n 3, 1) := by decide +kernel
theorem dX7_layOut_69 : decode cX7_layOut 69 = .ok (.ifCond .eq 22, 3) := by decide +kernel
theorem dX7_layOut_72 : decode cX7_layOut 72 = .ok (.aload_n 0, 1) := by decide +kernel
theorem dX7_layOut_73 : decode cX7_layOut 73 = .ok (.getfield 21, 3) := by decide +kernel
theorem dX7_layOut_76 : decode cX7_layOut 76 = .ok (.dup, 1) := by decide +kernel
theorem dX7_layOut_77 : decode cX7_layOut 77 = .ok (.getfield 195, 3) := by decide +kernel
theorem dX7_layOut_80 : decode cX7_layOut 80 = .ok (.iconst 1, 1) := by decide +kernel
theorem dX7_layOut_81 : decode cX7_layOut 81 = .ok (.aload_n 0, 1) := by decide +kernel
theorem dX7_layOut_82 : decode cX7_layOut 82 = .ok (.iload_n 2, 1) := by decide +kernel
theorem dX7_layOut_83 : decode cX7_layOut 83 = .ok (.invokevirtual 198, 3) := by decide +kernel
theorem dX7_layOut_86 : decode cX7_layOut 86 = .ok (.ishl, 1) := by decide +kernel
theorem dX7_layOut_87 : decode cX7_layOut 87 = .ok (.ior, 1) := by decide +kernel
theorem dX7_layOut_88 : decode cX7_layOut 88 = .ok (.putfield 195, 3) := by decide +kernel
theorem dX7_layOut_91 : decode cX7_layOut 91 = .ok (.iload 4, 2) := by decide +kernel
theorem dX7_layOut_93 : decode cX7_layOut 93 = .ok (.ifCond .eq 27, 3) := by decide +kernel
theorem dX7_layOut_96 : decode cX7_layOut 96 = .ok (.aload_n 0, 1) := by decide +kernel
theorem dX7_layOut_97 : decode cX7_layOut 97 = .ok (.getfield 21, 3) := by decide +kernel
theorem dX7_layOut_100 : decode cX7_layOut 100 = .ok (.aload_n 0, 1) := by decide +kernel
theorem dX7_layOut_101 : decode cX7_layOut 101 = .ok (.iload_n 2, 1) := by decide +kernel
theorem dX7_layOut_102 : decode cX7_layOut 102 = .ok (.invokevirtual 198, 3) := by decide +kernel
theorem dX7_layOut_105 : decode cX7_layOut 105 = .ok (.aload_n 0, 1) := by decide +kernel
theorem dX7_layOut_106 : decode cX7_layOut 106 = .ok (.getfield 49, 3) := by decide +kernel
theorem dX7_layOut_109 : decode cX7_layOut 109 = .ok (.iload_n 2, 1) := by decide +kernel
theorem dX7_layOut_110 : decode cX7_layOut 110 = .ok (.iaload, 1) := by decide +kernel
theorem dX7_layOut_111 : decode cX7_layOut 111 = .ok (.aload_n 0, 1) := by decide +kernel
theorem dX7_layOut_112 : decode cX7_layOut 112 = .ok (.getfield 52, 3) := by decide +kernel
theorem dX7_layOut_115 : decode cX7_layOut 115 = .ok (.iload_n 2, 1) := by decide +kernel
theorem dX7_layOut_116 : decode cX7_layOut 116 = .ok (.iaload, 1) := by decide +kernel
theorem dX7_layOut_117 : decode cX7_layOut 117 = .ok (.invokevirtual 201, 3) := by decide +kernel
theorem dX7_layOut_120 : decode cX7_layOut 120 = .ok (.iinc 2 1, 3) := by decide +kernel
theorem dX7_layOut_123 : decode cX7_layOut 123 = .ok (.goto (-121), 3) := by decide +kernel
theorem dX7_layOut_126 : decode cX7_layOut 126 = .ok (.iconst 0, 1) := by decide +kernel
theorem dX7_layOut_127 : decode cX7_layOut 127 = .ok (.istore_n 2, 1) := by decide +kernel
theorem dX7_layOut_128 : decode cX7_layOut 128 = .ok (.iload_n 2, 1) := by decide +kernel
theorem dX7_layOut_129 : decode cX7_layOut 129 = .ok (.aload_n 0, 1) := by decide +kernel
theorem dX7_layOut_130 : decode cX7_layOut 130 = .ok (.getfield 12, 3) := by decide +kernel
theorem dX7_layOut_133 : decode cX7_layOut 133 = .ok (.getfield 165, 3) := by decide +kernel
theorem dX7_layOut_136 : decode cX7_layOut 136 = .ok (.if_icmp .ge 61, 3) := by decide +kernel
theorem dX7_layOut_139 : decode cX7_layOut 139 = .ok (.iload_n 2, 1) := by decide +kernel
theorem dX7_layOut_140 : decode cX7_layOut 140 = .ok (.iconst 5, 1) := by decide +kernel
theorem dX7_layOut_141 : decode cX7_layOut 141 = .ok (.if_icmp .ge 56, 3) := by decide +kernel
theorem dX7_layOut_144 : decode cX7_layOut 144 = .ok (.aload_n 0, 1) := by decide +kernel
theorem dX7_layOut_145 : decode cX7_layOut 145 = .ok (.getfield 45, 3) := by decide +kernel
theorem dX7_layOut_148 : decode cX7_layOut 148 = .ok (.iload_n 2, 1) := by decide +kernel
theorem dX7_layOut_149 : decode cX7_layOut 149 = .ok (.iaload, 1) := by decide +kernel
theorem dX7_layOut_150 : decode cX7_layOut 150 = .ok (.istore_n 3, 1) := by decide +kernel
theorem dX7_layOut_151 : decode cX7_layOut 151 = .ok (.aload_n 0, 1) := by decide +kernel
theorem dX7_layOut_152 : decode cX7_layOut 152 = .ok (.iload_n 3, 1) := by decide +kernel
theorem dX7_layOut_153 : decode cX7_layOut 153 = .ok (.invokevirtual 192, 3) := by decide +kernel
theorem dX7_layOut_156 : decode cX7_layOut 156 = .ok (.ifCond .eq 14, 3) := by decide +kernel
theorem dX7_layOut_159 : decode cX7_layOut 159 = .ok (.aload_n 0, 1) := by decide +kernel
theorem dX7_layOut_160 : decode cX7_layOut 160 = .ok (.getfield 55, 3) := by decide +kernel
theorem dX7_layOut_163 : decode cX7_layOut 163 = .ok (.iload_n 3, 1) := by decide +kernel
theorem dX7_layOut_164 : decode cX7_layOut 164 = .ok (.iushr, 1) := by decide +kernel
theorem dX7_layOut_165 : decode cX7_layOut 165 = .ok (.iconst 1, 1) := by decide +kernel
theorem dX7_layOut_166 : decode cX7_layOut 166 = .ok (.iand, 1) := by decide +kernel
theorem dX7_layOut_167 : decode cX7_layOut 167 = .ok (.ifCond .eq 10, 3) := by decide +kernel
theorem dX7_layOut_170 : decode cX7_layOut 170 = .ok (.aload_n 0, 1) := by decide +kernel
theorem dX7_layOut_171 : decode cX7_layOut 171 = .ok (.bipush 6, 2) := by decide +kernel
theorem dX7_layOut_173 : decode cX7_layOut 173 = .ok (.iload_n 1, 1) := by decide +kernel
theorem dX7_layOut_174 : decode cX7_layOut 174 = .ok (.invokevirtual 141, 3) := by decide +kernel
theorem dX7_layOut_177 : decode cX7_layOut 177 = .ok (.aload_n 0, 1) := by decide +kernel
theorem dX7_layOut_178 : decode cX7_layOut 178 = .ok (.getfield 21, 3) := by decide +kernel
theorem dX7_layOut_181 : decode cX7_layOut 181 = .ok (.getfield 205, 3) := by decide +kernel
theorem dX7_layOut_184 : decode cX7_layOut 184 = .ok (.iload_n 2, 1) := by decide +kernel
theorem dX7_layOut_185 : decode cX7_layOut 185 = .ok (.aload_n 0, 1) := by decide +kernel
theorem dX7_layOut_186 : decode cX7_layOut 186 = .ok (.iload_n 3, 1) := by decide +kernel
theorem dX7_layOut_187 : decode cX7_layOut 187 = .ok (.invokevirtual 198, 3) := by decide +kernel
theorem dX7_layOut_190 : decode cX7_layOut 190 = .ok (.iastore, 1) := by decide +kernel
theorem dX7_layOut_191 : decode cX7_layOut 191 = .ok (.iinc 2 1, 3) := by decide +kernel
theorem dX7_layOut_194 : decode cX7_layOut 194 = .ok (.goto (-66), 3) := by decide +kernel
theorem dX7_layOut_197 : decode cX7_layOut 197 = .ok (.return_, 1) := by decide +kernel
theorem dX7_onLawn_0 : decode cX7_onLawn 0 = .ok (.iload_n 1, 1) := by decide +kernel
theorem dX7_onLawn_1 : decode cX7_onLawn 1 = .ok (.iconst 5, 1) := by decide +kernel
theorem dX7_onLawn_2 : decode cX7_onLawn 2 = .ok (.irem, 1) := by decide +kernel
theorem dX7_onLawn_3 : decode cX7_onLawn 3 = .ok (.aload_n 0, 1) := by decide +kernel
theorem dX7_onLawn_4 : decode cX7_onLawn 4 = .ok (.getfield 12, 3) := by decide +kernel
theorem dX7_onLawn_7 : decode cX7_onLawn 7 = .ok (.getfield 153, 3) := by decide +kernel
theorem dX7_onLawn_10 : decode cX7_onLawn 10 = .ok (.getfield 208, 3) := by decide +kernel
theorem dX7_onLawn_13 : decode cX7_onLawn 13 = .ok (.if_icmp .ge 23, 3) := by decide +kernel
theorem dX7_onLawn_16 : decode cX7_onLawn 16 = .ok (.iload_n 1, 1) := by decide +kernel
theorem dX7_onLawn_17 : decode cX7_onLawn 17 = .ok (.iconst 5, 1) := by decide +kernel
theorem dX7_onLawn_18 : decode cX7_onLawn 18 = .ok (.idiv, 1) := by decide +kernel
theorem dX7_onLawn_19 : decode cX7_onLawn 19 = .ok (.aload_n 0, 1) := by decide +kernel
theorem dX7_onLawn_20 : decode cX7_onLawn 20 = .ok (.getfield 12, 3) := by decide +kernel
theorem dX7_onLawn_23 : decode cX7_onLawn 23 = .ok (.getfield 153, 3) := by decide +kernel
theorem dX7_onLawn_26 : decode cX7_onLawn 26 = .ok (.getfield 211, 3) := by decide +kernel
theorem dX7_onLawn_29 : decode cX7_onLawn 29 = .ok (.if_icmp .ge 7, 3) := by decide +kernel
theorem dX7_onLawn_32 : decode cX7_onLawn 32 = .ok (.iconst 1, 1) := by decide +kernel
theorem dX7_onLawn_33 : decode cX7_onLawn 33 = .ok (.goto 4, 3) := by decide +kernel
theorem dX7_onLawn_36 : decode cX7_onLawn 36 = .ok (.iconst 0, 1) := by decide +kernel
theorem dX7_onLawn_37 : decode cX7_onLawn 37 = .ok (.ireturn, 1) := by decide +kernel
theorem dX7_cellOf_0 : decode cX7_cellOf 0 = .ok (.aload_n 0, 1) := by decide +kernel
theorem dX7_cellOf_1 : decode cX7_cellOf 1 = .ok (.getfield 12, 3) := by decide +kernel
theorem dX7_cellOf_4 : decode cX7_cellOf 4 = .ok (.getfield 153, 3) := by decide +kernel
theorem dX7_cellOf_7 : decode cX7_cellOf 7 = .ok (.getfield 208, 3) := by decide +kernel
theorem dX7_cellOf_10 : decode cX7_cellOf 10 = .ok (.iload_n 1, 1) := by decide +kernel
theorem dX7_cellOf_11 : decode cX7_cellOf 11 = .ok (.iconst 5, 1) := by decide +kernel
theorem dX7_cellOf_12 : decode cX7_cellOf 12 = .ok (.idiv, 1) := by decide +kernel
theorem dX7_cellOf_13 : decode cX7_cellOf 13 = .ok (.imul, 1) := by decide +kernel
theorem dX7_cellOf_14 : decode cX7_cellOf 14 = .ok (.iload_n 1, 1) := by decide +kernel
theorem dX7_cellOf_15 : decode cX7_cellOf 15 = .ok (.iconst 5, 1) := by decide +kernel
theorem dX7_cellOf_16 : decode cX7_cellOf 16 = .ok (.irem, 1) := by decide +kernel
theorem dX7_cellOf_17 : decode cX7_cellOf 17 = .ok (.iadd, 1) := by decide +kernel
theorem dX7_cellOf_18 : decode cX7_cellOf 18 = .ok (.ireturn, 1) := by decide +kernel
