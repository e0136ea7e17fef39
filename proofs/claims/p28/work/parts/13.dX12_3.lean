theorem dX12_together_2 : decode cX12_together 2 = .ok (.invokevirtual 403, 3) := by decide +kernel
theorem dX12_together_5 : decode cX12_together 5 = .ok (.ifCond .eq 11, 3) := by decide +kernel
theorem dX12_together_8 : decode cX12_together 8 = .ok (.aload_n 0, 1) := by decide +kernel
theorem dX12_together_9 : decode cX12_together 9 = .ok (.iload_n 2, 1) := by decide +kernel
theorem dX12_together_10 : decode cX12_together 10 = .ok (.invokevirtual 403, 3) := by decide +kernel
theorem dX12_together_13 : decode cX12_together 13 = .ok (.ifCond .ne 5, 3) := by decide +kernel
theorem dX12_together_16 : decode cX12_together 16 = .ok (.iconst (-1), 1) := by decide +kernel
theorem dX12_together_17 : decode cX12_together 17 = .ok (.ireturn, 1) := by decide +kernel
theorem dX12_together_18 : decode cX12_together 18 = .ok (.aload_n 0, 1) := by decide +kernel
theorem dX12_together_19 : decode cX12_together 19 = .ok (.invokevirtual 346, 3) := by decide +kernel
theorem dX12_together_22 : decode cX12_together 22 = .ok (.iconst 0, 1) := by decide +kernel
theorem dX12_together_23 : decode cX12_together 23 = .ok (.istore_n 3, 1) := by decide +kernel
theorem dX12_together_24 : decode cX12_together 24 = .ok (.iload_n 3, 1) := by decide +kernel
theorem dX12_together_25 : decode cX12_together 25 = .ok (.bipush 60, 2) := by decide +kernel
theorem dX12_together_27 : decode cX12_together 27 = .ok (.if_icmp .ge 45, 3) := by decide +kernel
theorem dX12_together_30 : decode cX12_together 30 = .ok (.aload_n 0, 1) := by decide +kernel
theorem dX12_together_31 : decode cX12_together 31 = .ok (.iload_n 1, 1) := by decide +kernel
theorem dX12_together_32 : decode cX12_together 32 = .ok (.aload_n 0, 1) := by decide +kernel
theorem dX12_together_33 : decode cX12_together 33 = .ok (.getfield 128, 3) := by decide +kernel
theorem dX12_together_36 : decode cX12_together 36 = .ok (.bipush 61, 2) := by decide +kernel
theorem dX12_together_38 : decode cX12_together 38 = .ok (.iaload, 1) := by decide +kernel
theorem dX12_together_39 : decode cX12_together 39 = .ok (.iload_n 3, 1) := by decide +kernel
theorem dX12_together_40 : decode cX12_together 40 = .ok (.iadd, 1) := by decide +kernel
theorem dX12_together_41 : decode cX12_together 41 = .ok (.invokevirtual 353, 3) := by decide +kernel
theorem dX12_together_44 : decode cX12_together 44 = .ok (.ifCond .eq 22, 3) := by decide +kernel
theorem dX12_together_47 : decode cX12_together 47 = .ok (.aload_n 0, 1) := by decide +kernel
theorem dX12_together_48 : decode cX12_together 48 = .ok (.iload_n 2, 1) := by decide +kernel
theorem dX12_together_49 : decode cX12_together 49 = .ok (.aload_n 0, 1) := by decide +kernel
theorem dX12_together_50 : decode cX12_together 50 = .ok (.getfield 128, 3) := by decide +kernel
theorem dX12_together_53 : decode cX12_together 53 = .ok (.bipush 61, 2) := by decide +kernel
theorem dX12_together_55 : decode cX12_together 55 = .ok (.iaload, 1) := by decide +kernel
theorem dX12_together_56 : decode cX12_together 56 = .ok (.iload_n 3, 1) := by decide +kernel
theorem dX12_together_57 : decode cX12_together 57 = .ok (.iadd, 1) := by decide +kernel
theorem dX12_together_58 : decode cX12_together 58 = .ok (.invokevirtual 353, 3) := by decide +kernel
theorem dX12_together_61 : decode cX12_together 61 = .ok (.ifCond .eq 5, 3) := by decide +kernel
theorem dX12_together_64 : decode cX12_together 64 = .ok (.iload_n 3, 1) := by decide +kernel
theorem dX12_together_65 : decode cX12_together 65 = .ok (.ireturn, 1) := by decide +kernel
theorem dX12_together_66 : decode cX12_together 66 = .ok (.iinc 3 1, 3) := by decide +kernel
theorem dX12_together_69 : decode cX12_together 69 = .ok (.goto (-45), 3) := by decide +kernel
theorem dX12_together_72 : decode cX12_together 72 = .ok (.bipush (-2), 2) := by decide +kernel
theorem dX12_together_74 : decode cX12_together 74 = .ok (.ireturn, 1) := by decide +kernel
theorem dX12_loud_0 : decode cX12_loud 0 = .ok (.iload_n 1, 1) := by decide +kernel
theorem dX12_loud_1 : decode cX12_loud 1 = .ok (.invokestatic 415, 3) := by decide +kernel
theorem dX12_loud_4 : decode cX12_loud 4 = .ok (.ifCond .ne 5, 3) := by decide +kernel
theorem dX12_loud_7 : decode cX12_loud 7 = .ok (.iconst (-1), 1) := by decide +kernel
theorem dX12_loud_8 : decode cX12_loud 8 = .ok (.ireturn, 1) := by decide +kernel
theorem dX12_loud_9 : decode cX12_loud 9 = .ok (.aload_n 0, 1) := by decide +kernel
theorem dX12_loud_10 : decode cX12_loud 10 = .ok (.invokevirtual 346, 3) := by decide +kernel
theorem dX12_loud_13 : decode cX12_loud 13 = .ok (.aload_n 0, 1) := by decide +kernel
theorem dX12_loud_14 : decode cX12_loud 14 = .ok (.aload_n 0, 1) := by decide +kernel
theorem dX12_loud_15 : decode cX12_loud 15 = .ok (.getfield 128, 3) := by decide +kernel
theorem dX12_loud_18 : decode cX12_loud 18 = .ok (.bipush 61, 2) := by decide +kernel
theorem dX12_loud_20 : decode cX12_loud 20 = .ok (.iaload, 1) := by decide +kernel
theorem dX12_loud_21 : decode cX12_loud 21 = .ok (.iload_n 1, 1) := by decide +kernel
theorem dX12_loud_22 : decode cX12_loud 22 = .ok (.iadd, 1) := by decide +kernel
theorem dX12_loud_23 : decode cX12_loud 23 = .ok (.invokevirtual 421, 3) := by decide +kernel
theorem dX12_loud_26 : decode cX12_loud 26 = .ok (.ireturn, 1) := by decide +kernel
theorem dX12_silence_0 : decode cX12_silence 0 = .ok (.iload_n 1, 1) := by decide +kernel
theorem dX12_silence_1 : decode cX12_silence 1 = .ok (.iconst 0, 1) := by decide +kernel
theorem dX12_silence_2 : decode cX12_silence 2 = .ok (.iconst 1, 1) := by decide +kernel
theorem dX12_silence_3 : decode cX12_silence 3 = .ok (.invokestatic 330, 3) := by decide +kernel
theorem dX12_silence_6 : decode cX12_silence 6 = .ok (.ifCond .ne 5, 3) := by decide +kernel
theorem dX12_silence_9 : decode cX12_silence 9 = .ok (.iconst (-1), 1) := by decide +kernel
theorem dX12_silence_10 : decode cX12_silence 10 = .ok (.ireturn, 1) := by decide +kernel
theorem dX12_silence_11 : decode cX12_silence 11 = .ok (.aload_n 0, 1) := by decide +kernel
theorem dX12_silence_12 : decode cX12_silence 12 = .ok (.invokevirtual 346, 3) := by decide +kernel
theorem dX12_silence_15 : decode cX12_silence 15 = .ok (.iconst 0, 1) := by decide +kernel
theorem dX12_silence_16 : decode cX12_silence 16 = .ok (.istore_n 2, 1) := by decide +kernel
theorem dX12_silence_17 : decode cX12_silence 17 = .ok (.bipush (-2), 2) := by decide +kernel
theorem dX12_silence_19 : decode cX12_silence 19 = .ok (.istore_n 3, 1) := by decide +kernel
theorem dX12_silence_20 : decode cX12_silence 20 = .ok (.iconst 0, 1) := by decide +kernel
theorem dX12_silence_21 : decode cX12_silence 21 = .ok (.istore 4, 2) := by decide +kernel
theorem dX12_silence_23 : decode cX12_silence 23 = .ok (.iconst 0, 1) := by decide +kernel
theorem dX12_silence_24 : decode cX12_silence 24 = .ok (.istore 5, 2) := by decide +kernel
theorem dX12_silence_26 : decode cX12_silence 26 = .ok (.iload 5, 2) := by decide +kernel
theorem dX12_silence_28 : decode cX12_silence 28 = .ok (.bipush 60, 2) := by decide +kernel
theorem dX12_silence_30 : decode cX12_silence 30 = .ok (.if_icmp .ge 56, 3) := by decide +kernel
theorem dX12_silence_33 : decode cX12_silence 33 = .ok (.aload_n 0, 1) := by decide +kernel
theorem dX12_silence_34 : decode cX12_silence 34 = .ok (.aload_n 0, 1) := by decide +kernel
theorem dX12_silence_35 : decode cX12_silence 35 = .ok (.getfield 128, 3) := by decide +kernel
theorem dX12_silence_38 : decode cX12_silence 38 = .ok (.bipush 61, 2) := by decide +kernel
theorem dX12_silence_40 : decode cX12_silence 40 = .ok (.iaload, 1) := by decide +kernel
theorem dX12_silence_41 : decode cX12_silence 41 = .ok (.iload 5, 2) := by decide +kernel
theorem dX12_silence_43 : decode cX12_silence 43 = .ok (.iadd, 1) := by decide +kernel
theorem dX12_silence_44 : decode cX12_silence 44 = .ok (.invokevirtual 421, 3) := by decide +kernel
theorem dX12_silence_47 : decode cX12_silence 47 = .ok (.ifCond .ne 10, 3) := by decide +kernel
theorem dX12_silence_50 : decode cX12_silence 50 = .ok (.iload 4, 2) := by decide +kernel
theorem dX12_silence_52 : decode cX12_silence 52 = .ok (.iconst 1, 1) := by decide +kernel
theorem dX12_silence_53 : decode cX12_silence 53 = .ok (.iadd, 1) := by decide +kernel
theorem dX12_silence_54 : decode cX12_silence 54 = .ok (.goto 4, 3) := by decide +kernel
theorem dX12_silence_57 : decode cX12_silence 57 = .ok (.iconst 0, 1) := by decide +kernel
theorem dX12_silence_58 : decode cX12_silence 58 = .ok (.istore 4, 2) := by decide +kernel
theorem dX12_silence_60 : decode cX12_silence 60 = .ok (.iload 4, 2) := by decide +kernel
theorem dX12_silence_62 : decode cX12_silence 62 = .ok (.iload_n 2, 1) := by decide +kernel
theorem dX12_silence_63 : decode cX12_silence 63 = .ok (.if_icmp .gt 6, 3) := by decide +kernel
theorem dX12_silence_66 : decode cX12_silence 66 = .ok (.goto 14, 3) := by decide +kernel
theorem dX12_silence_69 : decode cX12_silence 69 = .ok (.iload 4, 2) := by decide +kernel
theorem dX12_silence_71 : decode cX12_silence 71 = .ok (.istore_n 2, 1) := by decide +kernel
theorem dX12_silence_72 : decode cX12_silence 72 = .ok (.iload 5, 2) := by decide +kernel
theorem dX12_silence_74 : decode cX12_silence 74 = .ok (.iload 4, 2) := by decide +kernel
theorem dX12_silence_76 : decode cX12_silence 76 = .ok (.isub, 1) := by decide +kernel
theorem dX12_silence_77 : decode cX12_silence 77 = .ok (.iconst 1, 1) := by decide +kernel
theorem dX12_silence_78 : decode cX12_silence 78 = .ok (.iadd, 1) := by decide +kernel
theorem dX12_silence_79 : decode cX12_silence 79 = .ok (.istore_n 3, 1) := by decide +kernel
theorem dX12_silence_80 : decode cX12_silence 80 = .ok (.iinc 5 1, 3) := by decide +kernel
theorem dX12_silence_83 : decode cX12_silence 83 = .ok (.goto (-57), 3) := by decide +kernel
theorem dX12_silence_86 : decode cX12_silence 86 = .ok (.iload_n 1, 1) := by decide +kernel
theorem dX12_silence_87 : decode cX12_silence 87 = .ok (.ifCond .ne 7, 3) := by decide +kernel
theorem dX12_silence_90 : decode cX12_silence 90 = .ok (.iload_n 2, 1) := by decide +kernel
theorem dX12_silence_91 : decode cX12_silence 91 = .ok (.goto 4, 3) := by decide +kernel
theorem dX12_silence_94 : decode cX12_silence 94 = .ok (.iload_n 3, 1) := by decide +kernel
theorem dX12_silence_95 : decode cX12_silence 95 = .ok (.ireturn, 1) := by decide +kernel
theorem dX12_chorus_0 : decode cX12_chorus 0 = .ok (.iload_n 1, 1) := by decide +kernel
theorem dX12_chorus_1 : decode cX12_chorus 1 = .ok (.iconst 0, 1) := by decide +kernel
theorem dX12_chorus_2 : decode cX12_chorus 2 = .ok (.iconst 1, 1) := by decide +kernel
theorem dX12_chorus_3 : decode cX12_chorus 3 = .ok (.invokestatic 330, 3) := by decide +kernel
theorem dX12_chorus_6 : decode cX12_chorus 6 = .ok (.ifCond .ne 5, 3) := by decide +kernel
theorem dX12_chorus_9 : decode cX12_chorus 9 = .ok (.iconst (-1), 1) := by decide +kernel
theorem dX12_chorus_10 : decode cX12_chorus 10 = .ok (.ireturn, 1) := by decide +kernel
theorem dX12_chorus_11 : decode cX12_chorus 11 = .ok (.aload_n 0, 1) := by decide +kernel
theorem dX12_chorus_12 : decode cX12_chorus 12 = .ok (.invokevirtual 346, 3) := by decide +kernel
theorem dX12_chorus_15 : decode cX12_chorus 15 = .ok (.iconst (-1), 1) := by decide +kernel
theorem dX12_chorus_16 : decode cX12_chorus 16 = .ok (.istore_n 2, 1) := by decide +kernel
theorem dX12_chorus_17 : decode cX12_chorus 17 = .ok (.iconst 0, 1) := by decide +kernel
theorem dX12_chorus_18 : decode cX12_chorus 18 = .ok (.istore_n 3, 1) := by decide +kernel
theorem dX12_chorus_19 : decode cX12_chorus 19 = .ok (.iconst 0, 1) := by decide +kernel
theorem dX12_chorus_20 : decode cX12_chorus 20 = .ok (.istore 4, 2) := by decide +kernel
theorem dX12_chorus_22 : decode cX12_chorus 22 = .ok (.iload 4, 2) := by decide +kernel
theorem dX12_chorus_24 : decode cX12_chorus 24 = .ok (.bipush 60, 2) := by decide +kernel
theorem dX12_chorus_26 : decode cX12_chorus 26 = .ok (.if_icmp .ge 43, 3) := by decide +kernel
theorem dX12_chorus_29 : decode cX12_chorus 29 = .ok (.aload_n 0, 1) := by decide +kernel
theorem dX12_chorus_30 : decode cX12_chorus 30 = .ok (.aload_n 0, 1) := by decide +kernel
theorem dX12_chorus_31 : decode cX12_chorus 31 = .ok (.getfield 128, 3) := by decide +kernel
theorem dX12_chorus_34 : decode cX12_chorus 34 = .ok (.bipush 61, 2) := by decide +kernel
theorem dX12_chorus_36 : decode cX12_chorus 36 = .ok (.iaload, 1) := by decide +kernel
theorem dX12_chorus_37 : decode cX12_chorus 37 = .ok (.iload 4, 2) := by decide +kernel
theorem dX12_chorus_39 : decode cX12_chorus 39 = .ok (.iadd, 1) := by decide +kernel
theorem dX12_chorus_40 : decode cX12_chorus 40 = .ok (.invokevirtual 421, 3) := by decide +kernel
theorem dX12_chorus_43 : decode cX12_chorus 43 = .ok (.invokestatic 362, 3) := by decide +kernel
theorem dX12_chorus_46 : decode cX12_chorus 46 = .ok (.istore 5, 2) := by decide +kernel
theorem dX12_chorus_48 : decode cX12_chorus 48 = .ok (.iload 5, 2) := by decide +kernel
theorem dX12_chorus_50 : decode cX12_chorus 50 = .ok (.iload_n 2, 1) := by decide +kernel
theorem dX12_chorus_51 : decode cX12_chorus 51 = .ok (.if_icmp .gt 6, 3) := by decide +kernel
theorem dX12_chorus_54 : decode cX12_chorus 54 = .ok (.goto 9, 3) := by decide +kernel
theorem dX12_chorus_57 : decode cX12_chorus 57 = .ok (.iload 5, 2) := by decide +kernel
theorem dX12_chorus_59 : decode cX12_chorus 59 = .ok (.istore_n 2, 1) := by decide +kernel
theorem dX12_chorus_60 : decode cX12_chorus 60 = .ok (.iload 4, 2) := by decide +kernel
theorem dX12_chorus_62 : decode cX12_chorus 62 = .ok (.istore_n 3, 1) := by decide +kernel
theorem dX12_chorus_63 : decode cX12_chorus 63 = .ok (.iinc 4 1, 3) := by decide +kernel
theorem dX12_chorus_66 : decode cX12_chorus 66 = .ok (.goto (-44), 3) := by decide +kernel
theorem dX12_chorus_69 : decode cX12_chorus 69 = .ok (.iload_n 1, 1) := by decide +kernel
theorem dX12_chorus_70 : decode cX12_chorus 70 = .ok (.ifCond .ne 7, 3) := by decide +kernel
theorem dX12_chorus_73 : decode cX12_chorus 73 = .ok (.iload_n 3, 1) := by decide +kernel
theorem dX12_chorus_74 : decode cX12_chorus 74 = .ok (.goto 4, 3) := by decide +kernel
theorem dX12_chorus_77 : decode cX12_chorus 77 = .ok (.iload_n 2, 1) := by decide +kernel
theorem dX12_chorus_78 : decode cX12_chorus 78 = .ok (.ireturn, 1) := by decide +kernel
theorem dX12_greatest_0 : decode cX12_greatest 0 = .ok (.iload_n 0, 1) := by decide +kernel
theorem dX12_greatest_1 : decode cX12_greatest 1 = .ok (.istore_n 2, 1) := by decide +kernel
theorem dX12_greatest_2 : decode cX12_greatest 2 = .ok (.iload_n 1, 1) := by decide +kernel
theorem dX12_greatest_3 : decode cX12_greatest 3 = .ok (.istore_n 3, 1) := by decide +kernel
theorem dX12_greatest_4 : decode cX12_greatest 4 = .ok (.iload_n 3, 1) := by decide +kernel
theorem dX12_greatest_5 : decode cX12_greatest 5 = .ok (.ifCond .eq 16, 3) := by decide +kernel
theorem dX12_greatest_8 : decode cX12_greatest 8 = .ok (.iload_n 2, 1) := by decide +kernel
theorem dX12_greatest_9 : decode cX12_greatest 9 = .ok (.iload_n 3, 1) := by decide +kernel
theorem dX12_greatest_10 : decode cX12_greatest 10 = .ok (.irem, 1) := by decide +kernel
theorem dX12_greatest_11 : decode cX12_greatest 11 = .ok (.istore 4, 2) := by decide +kernel
theorem dX12_greatest_13 : decode cX12_greatest 13 = .ok (.iload_n 3, 1) := by decide +kernel
theorem dX12_greatest_14 : decode cX12_greatest 14 = .ok (.istore_n 2, 1) := by decide +kernel
theorem dX12_greatest_15 : decode cX12_greatest 15 = .ok (.iload 4, 2) := by decide +kernel
theorem dX12_greatest_17 : decode cX12_greatest 17 = .ok (.istore_n 3, 1) := by decide +kernel
theorem dX12_greatest_18 : decode cX12_greatest 18 = .ok (.goto (-14), 3) := by decide +kernel
theorem dX12_greatest_21 : decode cX12_greatest 21 = .ok (.iload_n 2, 1) := by decide +kernel
theorem dX12_greatest_22 : decode cX12_greatest 22 = .ok (.ireturn, 1) := by decide +kernel
theorem dX12_period_0 : decode cX12_period 0 = .ok (.iconst 1, 1) := by decide +kernel
theorem dX12_period_1 : decode cX12_period 1 = .ok (.istore_n 1, 1) := by decide +kernel
theorem dX12_period_2 : decode cX12_period 2 = .ok (.iconst 0, 1) := by decide +kernel
theorem dX12_period_3 : decode cX12_period 3 = .ok (.istore_n 2, 1) := by decide +kernel
theorem dX12_period_4 : decode cX12_period 4 = .ok (.iload_n 2, 1) := by decide +kernel
theorem dX12_period_5 : decode cX12_period 5 = .ok (.aload_n 0, 1) := by decide +kernel
theorem dX12_period_6 : decode cX12_period 6 = .ok (.invokevirtual 326, 3) := by decide +kernel
theorem dX12_period_9 : decode cX12_period 9 = .ok (.if_icmp .ge 38, 3) := by decide +kernel
theorem dX12_period_12 : decode cX12_period 12 = .ok (.aload_n 0, 1) := by decide +kernel
theorem dX12_period_13 : decode cX12_period 13 = .ok (.getfield 125, 3) := by decide +kernel
theorem dX12_period_16 : decode cX12_period 16 = .ok (.iload_n 2, 1) := by decide +kernel
theorem dX12_period_17 : decode cX12_period 17 = .ok (.iaload, 1) := by decide +kernel
theorem dX12_period_18 : decode cX12_period 18 = .ok (.ifCond .le 23, 3) := by decide +kernel
theorem dX12_period_21 : decode cX12_period 21 = .ok (.iload_n 1, 1) := by decide +kernel
theorem dX12_period_22 : decode cX12_period 22 = .ok (.iload_n 1, 1) := by decide +kernel
theorem dX12_period_23 : decode cX12_period 23 = .ok (.aload_n 0, 1) := by decide +kernel
theorem dX12_period_24 : decode cX12_period 24 = .ok (.getfield 125, 3) := by decide +kernel
theorem dX12_period_27 : decode cX12_period 27 = .ok (.iload_n 2, 1) := by decide +kernel
theorem dX12_period_28 : decode cX12_period 28 = .ok (.iaload, 1) := by decide +kernel
theorem dX12_period_29 : decode cX12_period 29 = .ok (.invokestatic 424, 3) := by decide +kernel
theorem dX12_period_32 : decode cX12_period 32 = .ok (.idiv, 1) := by decide +kernel
theorem dX12_period_33 : decode cX12_period 33 = .ok (.aload_n 0, 1) := by decide +kernel
theorem dX12_period_34 : decode cX12_period 34 = .ok (.getfield 125, 3) := by decide +kernel
theorem dX12_period_37 : decode cX12_period 37 = .ok (.iload_n 2, 1) := by decide +kernel
theorem dX12_period_38 : decode cX12_period 38 = .ok (.iaload, 1) := by decide +kernel
theorem dX12_period_39 : decode cX12_period 39 = .ok (.imul, 1) := by decide +kernel
theorem dX12_period_40 : decode cX12_period 40 = .ok (.istore_n 1, 1) := by decide +kernel
theorem dX12_period_41 : decode cX12_period 41 = .ok (.iinc 2 1, 3) := by decide +kernel
theorem dX12_period_44 : decode cX12_period 44 = .ok (.goto (-40), 3) := by decide +kernel
theorem dX12_period_47 : decode cX12_period 47 = .ok (.iload_n 1, 1) := by decide +kernel
theorem dX12_period_48 : decode cX12_period 48 = .ok (.ireturn, 1) := by decide +kernel
theorem dX12_nearBits_0 : decode cX12_nearBits 0 = .ok (.iconst 0, 1) := by decide +kernel
theorem dX12_nearBits_1 : decode cX12_nearBits 1 = .ok (.istore_n 2, 1) := by decide +kernel
theorem dX12_nearBits_2 : decode cX12_nearBits 2 = .ok (.iconst 0, 1) := by decide +kernel
theorem dX12_nearBits_3 : decode cX12_nearBits 3 = .ok (.istore_n 3, 1) := by decide +kernel
theorem dX12_nearBits_4 : decode cX12_nearBits 4 = .ok (.iload_n 3, 1) := by decide +kernel
theorem dX12_nearBits_5 : decode cX12_nearBits 5 = .ok (.aload_n 0, 1) := by decide +kernel
theorem dX12_nearBits_6 : decode cX12_nearBits 6 = .ok (.invokevirtual 326, 3) := by decide +kernel
theorem dX12_nearBits_9 : decode cX12_nearBits 9 = .ok (.if_icmp .ge 51, 3) := by decide +kernel
theorem dX12_nearBits_12 : decode cX12_nearBits 12 = .ok (.iload_n 1, 1) := by decide +kernel
theorem dX12_nearBits_13 : decode cX12_nearBits 13 = .ok (.iload_n 3, 1) := by decide +kernel
theorem dX12_nearBits_14 : decode cX12_nearBits 14 = .ok (.ishr, 1) := by decide +kernel
theorem dX12_nearBits_15 : decode cX12_nearBits 15 = .ok (.iconst 1, 1) := by decide +kernel
theorem dX12_nearBits_16 : decode cX12_nearBits 16 = .ok (.iand, 1) := by decide +kernel
theorem dX12_nearBits_17 : decode cX12_nearBits 17 = .ok (.ifCond .ne 6, 3) := by decide +kernel
theorem dX12_nearBits_20 : decode cX12_nearBits 20 = .ok (.goto 34, 3) := by decide +kernel
theorem dX12_nearBits_23 : decode cX12_nearBits 23 = .ok (.iconst 0, 1) := by decide +kernel
theorem dX12_nearBits_24 : decode cX12_nearBits 24 = .ok (.istore 4, 2) := by decide +kernel
theorem dX12_nearBits_26 : decode cX12_nearBits 26 = .ok (.iload 4, 2) := by decide +kernel
theorem dX12_nearBits_28 : decode cX12_nearBits 28 = .ok (.iconst 5, 1) := by decide +kernel
theorem dX12_nearBits_29 : decode cX12_nearBits 29 = .ok (.if_icmp .ge 25, 3) := by decide +kernel
theorem dX12_nearBits_32 : decode cX12_nearBits 32 = .ok (.iload_n 2, 1) := by decide +kernel
theorem dX12_nearBits_33 : decode cX12_nearBits 33 = .ok (.iconst 1, 1) := by decide +kernel
theorem dX12_nearBits_34 : decode cX12_nearBits 34 = .ok (.aload_n 0, 1) := by decide +kernel
theorem dX12_nearBits_35 : decode cX12_nearBits 35 = .ok (.getfield 131, 3) := by decide +kernel
theorem dX12_nearBits_38 : decode cX12_nearBits 38 = .ok (.iconst 5, 1) := by decide +kernel
theorem dX12_nearBits_39 : decode cX12_nearBits 39 = .ok (.iload_n 3, 1) := by decide +kernel
theorem dX12_nearBits_40 : decode cX12_nearBits 40 = .ok (.imul, 1) := by decide +kernel
theorem dX12_nearBits_41 : decode cX12_nearBits 41 = .ok (.iload 4, 2) := by decide +kernel
theorem dX12_nearBits_43 : decode cX12_nearBits 43 = .ok (.iadd, 1) := by decide +kernel
theorem dX12_nearBits_44 : decode cX12_nearBits 44 = .ok (.iaload, 1) := by decide +kernel
theorem dX12_nearBits_45 : decode cX12_nearBits 45 = .ok (.ishl, 1) := by decide +kernel
theorem dX12_nearBits_46 : decode cX12_nearBits 46 = .ok (.ior, 1) := by decide +kernel
theorem dX12_nearBits_47 : decode cX12_nearBits 47 = .ok (.istore_n 2, 1) := by decide +kernel
theorem dX12_nearBits_48 : decode cX12_nearBits 48 = .ok (.iinc 4 1, 3) := by decide +kernel
theorem dX12_nearBits_51 : decode cX12_nearBits 51 = .ok (.goto (-25), 3) := by decide +kernel
theorem dX12_nearBits_54 : decode cX12_nearBits 54 = .ok (.iinc 3 1, 3) := by decide +kernel
theorem dX12_nearBits_57 : decode cX12_nearBits 57 = .ok (.goto (-53), 3) := by decide +kernel
theorem dX12_nearBits_60 : decode cX12_nearBits 60 = .ok (.iload_n 2, 1) := by decide +kernel
theorem dX12_nearBits_61 : decode cX12_nearBits 61 = .ok (.ireturn, 1) := by decide +kernel
theorem dX12_freeBits_0 : decode cX12_freeBits 0 = .ok (.iconst 1, 1) := by decide +kernel
theorem dX12_freeBits_1 : decode cX12_freeBits 1 = .ok (.aload_n 0, 1) := by decide +kernel
theorem dX12_freeBits_2 : decode cX12_freeBits 2 = .ok (.invokevirtual 326, 3) := by decide +kernel
theorem dX12_freeBits_5 : decode cX12_freeBits 5 = .ok (.ishl, 1) := by decide +kernel
theorem dX12_freeBits_6 : decode cX12_freeBits 6 = .ok (.iconst 1, 1) := by decide +kernel
theorem dX12_freeBits_7 : decode cX12_freeBits 7 = .ok (.isub, 1) := by decide +kernel
theorem dX12_freeBits_8 : decode cX12_freeBits 8 = .ok (.aload_n 0, 1) := by decide +kernel
theorem dX12_freeBits_9 : decode cX12_freeBits 9 = .ok (.getfield 128, 3) := by decide +kernel
theorem dX12_freeBits_12 : decode cX12_freeBits 12 = .ok (.bipush 50, 2) := by decide +kernel
theorem dX12_freeBits_14 : decode cX12_freeBits 14 = .ok (.iaload, 1) := by decide +kernel
theorem dX12_freeBits_15 : decode cX12_freeBits 15 = .ok (.iconst (-1), 1) := by decide +kernel
theorem dX12_freeBits_16 : decode cX12_freeBits 16 = .ok (.ixor, 1) := by decide +kernel
theorem dX12_freeBits_17 : decode cX12_freeBits 17 = .ok (.iand, 1) := by decide +kernel
theorem dX12_freeBits_18 : decode cX12_freeBits 18 = .ok (.ireturn, 1) := by decide +kernel
theorem dX12_safeBits_0 : decode cX12_safeBits 0 = .ok (.aload_n 0, 1) := by decide +kernel
theorem dX12_safeBits_1 : decode cX12_safeBits 1 = .ok (.invokevirtual 427, 3) := by decide +kernel
theorem dX12_safeBits_4 : decode cX12_safeBits 4 = .ok (.aload_n 0, 1) := by decide +kernel
theorem dX12_safeBits_5 : decode cX12_safeBits 5 = .ok (.iload_n 1, 1) := by decide +kernel
theorem dX12_safeBits_6 : decode cX12_safeBits 6 = .ok (.invokevirtual 421, 3) := by decide +kernel
theorem dX12_safeBits_9 : decode cX12_safeBits 9 = .ok (.iconst (-1), 1) := by decide +kernel
theorem dX12_safeBits_10 : decode cX12_safeBits 10 = .ok (.ixor, 1) := by decide +kernel
theorem dX12_safeBits_11 : decode cX12_safeBits 11 = .ok (.iand, 1) := by decide +kernel
theorem dX12_safeBits_12 : decode cX12_safeBits 12 = .ok (.ireturn, 1) := by decide +kernel
theorem dX12_fillsReach_0 : decode cX12_fillsReach 0 = .ok (.aload_n 1, 1) := by decide +kernel
theorem dX12_fillsReach_1 : decode cX12_fillsReach 1 = .ok (.iconst 0, 1) := by decide +kernel
theorem dX12_fillsReach_2 : decode cX12_fillsReach 2 = .ok (.iconst 1, 1) := by decide +kernel
theorem dX12_fillsReach_3 : decode cX12_fillsReach 3 = .ok (.iload_n 2, 1) := by decide +kernel
theorem dX12_fillsReach_4 : decode cX12_fillsReach 4 = .ok (.ishl, 1) := by decide +kernel
theorem dX12_fillsReach_5 : decode cX12_fillsReach 5 = .ok (.iastore, 1) := by decide +kernel
theorem dX12_fillsReach_6 : decode cX12_fillsReach 6 = .ok (.iconst 1, 1) := by decide +kernel
theorem dX12_fillsReach_7 : decode cX12_fillsReach 7 = .ok (.istore 4, 2) := by decide +kernel
theorem dX12_fillsReach_9 : decode cX12_fillsReach 9 = .ok (.iload 4, 2) := by decide +kernel
theorem dX12_fillsReach_11 : decode cX12_fillsReach 11 = .ok (.bipush 100, 2) := by decide +kernel
theorem dX12_fillsReach_13 : decode cX12_fillsReach 13 = .ok (.if_icmp .gt 32, 3) := by decide +kernel
theorem dX12_fillsReach_16 : decode cX12_fillsReach 16 = .ok (.aload_n 1, 1) := by decide +kernel
theorem dX12_fillsReach_17 : decode cX12_fillsReach 17 = .ok (.iload 4, 2) := by decide +kernel
theorem dX12_fillsReach_19 : decode cX12_fillsReach 19 = .ok (.aload_n 0, 1) := by decide +kernel
theorem dX12_fillsReach_20 : decode cX12_fillsReach 20 = .ok (.aload_n 1, 1) := by decide +kernel
theorem dX12_fillsReach_21 : decode cX12_fillsReach 21 = .ok (.iload 4, 2) := by decide +kernel
theorem dX12_fillsReach_23 : decode cX12_fillsReach 23 = .ok (.iconst 1, 1) := by decide +kernel
theorem dX12_fillsReach_24 : decode cX12_fillsReach 24 = .ok (.isub, 1) := by decide +kernel
theorem dX12_fillsReach_25 : decode cX12_fillsReach 25 = .ok (.iaload, 1) := by decide +kernel
theorem dX12_fillsReach_26 : decode cX12_fillsReach 26 = .ok (.invokevirtual 430, 3) := by decide +kernel
theorem dX12_fillsReach_29 : decode cX12_fillsReach 29 = .ok (.aload_n 0, 1) := by decide +kernel
theorem dX12_fillsReach_30 : decode cX12_fillsReach 30 = .ok (.iload_n 3, 1) := by decide +kernel
theorem dX12_fillsReach_31 : decode cX12_fillsReach 31 = .ok (.iload 4, 2) := by decide +kernel
theorem dX12_fillsReach_33 : decode cX12_fillsReach 33 = .ok (.iadd, 1) := by decide +kernel
theorem dX12_fillsReach_34 : decode cX12_fillsReach 34 = .ok (.invokevirtual 433, 3) := by decide +kernel
theorem dX12_fillsReach_37 : decode cX12_fillsReach 37 = .ok (.iand, 1) := by decide +kernel
theorem dX12_fillsReach_38 : decode cX12_fillsReach 38 = .ok (.iastore, 1) := by decide +kernel
theorem dX12_fillsReach_39 : decode cX12_fillsReach 39 = .ok (.iinc 4 1, 3) := by decide +kernel
theorem dX12_fillsReach_42 : decode cX12_fillsReach 42 = .ok (.goto (-33), 3) := by decide +kernel
theorem dX12_fillsReach_45 : decode cX12_fillsReach 45 = .ok (.return_, 1) := by decide +kernel
theorem dX12_firstAt_0 : decode cX12_firstAt 0 = .ok (.iconst 0, 1) := by decide +kernel
theorem dX12_firstAt_1 : decode cX12_firstAt 1 = .ok (.istore_n 3, 1) := by decide +kernel
theorem dX12_firstAt_2 : decode cX12_firstAt 2 = .ok (.iload_n 3, 1) := by decide +kernel
theorem dX12_firstAt_3 : decode cX12_firstAt 3 = .ok (.iload_n 2, 1) := by decide +kernel
theorem dX12_firstAt_4 : decode cX12_firstAt 4 = .ok (.if_icmp .gt 25, 3) := by decide +kernel
theorem dX12_firstAt_7 : decode cX12_firstAt 7 = .ok (.aload_n 0, 1) := by decide +kernel
theorem dX12_firstAt_8 : decode cX12_firstAt 8 = .ok (.getfield 140, 3) := by decide +kernel
theorem dX12_firstAt_11 : decode cX12_firstAt 11 = .ok (.iload_n 3, 1) := by decide +kernel
theorem dX12_firstAt_12 : decode cX12_firstAt 12 = .ok (.iaload, 1) := by decide +kernel
theorem dX12_firstAt_13 : decode cX12_firstAt 13 = .ok (.iload_n 1, 1) := by decide +kernel
theorem dX12_firstAt_14 : decode cX12_firstAt 14 = .ok (.ishr, 1) := by decide +kernel
theorem dX12_firstAt_15 : decode cX12_firstAt 15 = .ok (.iconst 1, 1) := by decide +kernel
theorem dX12_firstAt_16 : decode cX12_firstAt 16 = .ok (.iand, 1) := by decide +kernel
theorem dX12_firstAt_17 : decode cX12_firstAt 17 = .ok (.iconst 1, 1) := by decide +kernel
theorem dX12_firstAt_18 : decode cX12_firstAt 18 = .ok (.if_icmp .ne 5, 3) := by decide +kernel
theorem dX12_firstAt_21 : decode cX12_firstAt 21 = .ok (.iload_n 3, 1) := by decide +kernel
theorem dX12_firstAt_22 : decode cX12_firstAt 22 = .ok (.ireturn, 1) := by decide +kernel
theorem dX12_firstAt_23 : decode cX12_firstAt 23 = .ok (.iinc 3 1, 3) := by decide +kernel
theorem dX12_firstAt_26 : decode cX12_firstAt 26 = .ok (.goto (-24), 3) := by decide +kernel
theorem dX12_firstAt_29 : decode cX12_firstAt 29 = .ok (.bipush (-2), 2) := by decide +kernel
theorem dX12_firstAt_31 : decode cX12_firstAt 31 = .ok (.ireturn, 1) := by decide +kernel
theorem dX12_areFree_0 : decode cX12_areFree 0 = .ok (.aload_n 0, 1) := by decide +kernel
theorem dX12_areFree_1 : decode cX12_areFree 1 = .ok (.iload_n 1, 1) := by decide +kernel
theorem dX12_areFree_2 : decode cX12_areFree 2 = .ok (.invokevirtual 403, 3) := by decide +kernel
theorem dX12_areFree_5 : decode cX12_areFree 5 = .ok (.ifCond .eq 43, 3) := by decide +kernel
theorem dX12_areFree_8 : decode cX12_areFree 8 = .ok (.aload_n 0, 1) := by decide +kernel
theorem dX12_areFree_9 : decode cX12_areFree 9 = .ok (.iload_n 2, 1) := by decide +kernel
theorem dX12_areFree_10 : decode cX12_areFree 10 = .ok (.invokevirtual 403, 3) := by decide +kernel
theorem dX12_areFree_13 : decode cX12_areFree 13 = .ok (.ifCond .eq 35, 3) := by decide +kernel
theorem dX12_areFree_16 : decode cX12_areFree 16 = .ok (.aload_n 0, 1) := by decide +kernel
theorem dX12_areFree_17 : decode cX12_areFree 17 = .ok (.getfield 125, 3) := by decide +kernel
theorem dX12_areFree_20 : decode cX12_areFree 20 = .ok (.bipush 50, 2) := by decide +kernel
theorem dX12_areFree_22 : decode cX12_areFree 22 = .ok (.iaload, 1) := by decide +kernel
theorem dX12_areFree_23 : decode cX12_areFree 23 = .ok (.iload_n 1, 1) := by decide +kernel
theorem dX12_areFree_24 : decode cX12_areFree 24 = .ok (.ishr, 1) := by decide +kernel
theorem dX12_areFree_25 : decode cX12_areFree 25 = .ok (.iconst 1, 1) := by decide +kernel
theorem dX12_areFree_26 : decode cX12_areFree 26 = .ok (.iand, 1) := by decide +kernel
theorem dX12_areFree_27 : decode cX12_areFree 27 = .ok (.ifCond .ne 21, 3) := by decide +kernel
theorem dX12_areFree_30 : decode cX12_areFree 30 = .ok (.aload_n 0, 1) := by decide +kernel
theorem dX12_areFree_31 : decode cX12_areFree 31 = .ok (.getfield 125, 3) := by decide +kernel
theorem dX12_areFree_34 : decode cX12_areFree 34 = .ok (.bipush 50, 2) := by decide +kernel
theorem dX12_areFree_36 : decode cX12_areFree 36 = .ok (.iaload, 1) := by decide +kernel
theorem dX12_areFree_37 : decode cX12_areFree 37 = .ok (.iload_n 2, 1) := by decide +kernel
theorem dX12_areFree_38 : decode cX12_areFree 38 = .ok (.ishr, 1) := by decide +kernel
theorem dX12_areFree_39 : decode cX12_areFree 39 = .ok (.iconst 1, 1) := by decide +kernel
theorem dX12_areFree_40 : decode cX12_areFree 40 = .ok (.iand, 1) := by decide +kernel
theorem dX12_areFree_41 : decode cX12_areFree 41 = .ok (.ifCond .ne 7, 3) := by decide +kernel
theorem dX12_areFree_44 : decode cX12_areFree 44 = .ok (.iconst 1, 1) := by decide +kernel
theorem dX12_areFree_45 : decode cX12_areFree 45 = .ok (.goto 4, 3) := by decide +kernel
theorem dX12_areFree_48 : decode cX12_areFree 48 = .ok (.iconst 0, 1) := by decide +kernel
theorem dX12_areFree_49 : decode cX12_areFree 49 = .ok (.ireturn, 1) := by decide +kernel
theorem dX12_lowestOf_0 : decode cX12_lowestOf 0 = .ok (.iconst 0, 1) := by decide +kernel
theorem dX12_lowestOf_1 : decode cX12_lowestOf 1 = .ok (.istore_n 1, 1) := by decide +kernel
theorem dX12_lowestOf_2 : decode cX12_lowestOf 2 = .ok (.iload_n 0, 1) := by decide +kernel
theorem dX12_lowestOf_3 : decode cX12_lowestOf 3 = .ok (.iload_n 1, 1) := by decide +kernel
theorem dX12_lowestOf_4 : decode cX12_lowestOf 4 = .ok (.ishr, 1) := by decide +kernel
theorem dX12_lowestOf_5 : decode cX12_lowestOf 5 = .ok (.iconst 1, 1) := by decide +kernel
theorem dX12_lowestOf_6 : decode cX12_lowestOf 6 = .ok (.iand, 1) := by decide +kernel
theorem dX12_lowestOf_7 : decode cX12_lowestOf 7 = .ok (.ifCond .ne 9, 3) := by decide +kernel
theorem dX12_lowestOf_10 : decode cX12_lowestOf 10 = .ok (.iinc 1 1, 3) := by decide +kernel
theorem dX12_lowestOf_13 : decode cX12_lowestOf 13 = .ok (.goto (-11), 3) := by decide +kernel
theorem dX12_lowestOf_16 : decode cX12_lowestOf 16 = .ok (.iload_n 1, 1) := by decide +kernel
theorem dX12_lowestOf_17 : decode cX12_lowestOf 17 = .ok (.ireturn, 1) := by decide +kernel
theorem dX12_cellBehind_0 : decode cX12_cellBehind 0 = .ok (.aload_n 0, 1) := by decide +kernel
theorem dX12_cellBehind_1 : decode cX12_cellBehind 1 = .ok (.getfield 146, 3) := by decide +kernel
theorem dX12_cellBehind_4 : decode cX12_cellBehind 4 = .ok (.iload_n 3, 1) := by decide +kernel
theorem dX12_cellBehind_5 : decode cX12_cellBehind 5 = .ok (.iconst 1, 1) := by decide +kernel
theorem dX12_cellBehind_6 : decode cX12_cellBehind 6 = .ok (.iload_n 2, 1) := by decide +kernel
theorem dX12_cellBehind_7 : decode cX12_cellBehind 7 = .ok (.ishl, 1) := by decide +kernel
theorem dX12_cellBehind_8 : decode cX12_cellBehind 8 = .ok (.iastore, 1) := by decide +kernel
theorem dX12_cellBehind_9 : decode cX12_cellBehind 9 = .ok (.iload_n 3, 1) := by decide +kernel
theorem dX12_cellBehind_10 : decode cX12_cellBehind 10 = .ok (.iconst 1, 1) := by decide +kernel
theorem dX12_cellBehind_11 : decode cX12_cellBehind 11 = .ok (.isub, 1) := by decide +kernel
theorem dX12_cellBehind_12 : decode cX12_cellBehind 12 = .ok (.istore 5, 2) := by decide +kernel
theorem dX12_cellBehind_14 : decode cX12_cellBehind 14 = .ok (.iload 5, 2) := by decide +kernel
theorem dX12_cellBehind_16 : decode cX12_cellBehind 16 = .ok (.ifCond .lt 37, 3) := by decide +kernel
theorem dX12_cellBehind_19 : decode cX12_cellBehind 19 = .ok (.aload_n 0, 1) := by decide +kernel
theorem dX12_cellBehind_20 : decode cX12_cellBehind 20 = .ok (.getfield 146, 3) := by decide +kernel
theorem dX12_cellBehind_23 : decode cX12_cellBehind 23 = .ok (.iload 5, 2) := by decide +kernel
theorem dX12_cellBehind_25 : decode cX12_cellBehind 25 = .ok (.aload_n 0, 1) := by decide +kernel
theorem dX12_cellBehind_26 : decode cX12_cellBehind 26 = .ok (.aload_n 0, 1) := by decide +kernel
theorem dX12_cellBehind_27 : decode cX12_cellBehind 27 = .ok (.getfield 146, 3) := by decide +kernel
theorem dX12_cellBehind_30 : decode cX12_cellBehind 30 = .ok (.iload 5, 2) := by decide +kernel
theorem dX12_cellBehind_32 : decode cX12_cellBehind 32 = .ok (.iconst 1, 1) := by decide +kernel
theorem dX12_cellBehind_33 : decode cX12_cellBehind 33 = .ok (.iadd, 1) := by decide +kernel
theorem dX12_cellBehind_34 : decode cX12_cellBehind 34 = .ok (.iaload, 1) := by decide +kernel
theorem dX12_cellBehind_35 : decode cX12_cellBehind 35 = .ok (.invokevirtual 430, 3) := by decide +kernel
theorem dX12_cellBehind_38 : decode cX12_cellBehind 38 = .ok (.aload_n 0, 1) := by decide +kernel
theorem dX12_cellBehind_39 : decode cX12_cellBehind 39 = .ok (.getfield 140, 3) := by decide +kernel
theorem dX12_cellBehind_42 : decode cX12_cellBehind 42 = .ok (.iload 5, 2) := by decide +kernel
theorem dX12_cellBehind_44 : decode cX12_cellBehind 44 = .ok (.iaload, 1) := by decide +kernel
theorem dX12_cellBehind_45 : decode cX12_cellBehind 45 = .ok (.iand, 1) := by decide +kernel
theorem dX12_cellBehind_46 : decode cX12_cellBehind 46 = .ok (.iastore, 1) := by decide +kernel
theorem dX12_cellBehind_47 : decode cX12_cellBehind 47 = .ok (.iinc 5 (-1), 3) := by decide +kernel
theorem dX12_cellBehind_50 : decode cX12_cellBehind 50 = .ok (.goto (-36), 3) := by decide +kernel
theorem dX12_cellBehind_53 : decode cX12_cellBehind 53 = .ok (.iload_n 1, 1) := by decide +kernel
theorem dX12_cellBehind_54 : decode cX12_cellBehind 54 = .ok (.istore 5, 2) := by decide +kernel
theorem dX12_cellBehind_56 : decode cX12_cellBehind 56 = .ok (.iconst 1, 1) := by decide +kernel
theorem dX12_cellBehind_57 : decode cX12_cellBehind 57 = .ok (.istore 6, 2) := by decide +kernel
theorem dX12_cellBehind_59 : decode cX12_cellBehind 59 = .ok (.iload 6, 2) := by decide +kernel
theorem dX12_cellBehind_61 : decode cX12_cellBehind 61 = .ok (.iload 4, 2) := by decide +kernel
theorem dX12_cellBehind_63 : decode cX12_cellBehind 63 = .ok (.if_icmp .gt 30, 3) := by decide +kernel
theorem dX12_cellBehind_66 : decode cX12_cellBehind 66 = .ok (.aload_n 0, 1) := by decide +kernel
theorem dX12_cellBehind_67 : decode cX12_cellBehind 67 = .ok (.iconst 1, 1) := by decide +kernel
theorem dX12_cellBehind_68 : decode cX12_cellBehind 68 = .ok (.iload 5, 2) := by decide +kernel
theorem dX12_cellBehind_70 : decode cX12_cellBehind 70 = .ok (.ishl, 1) := by decide +kernel
theorem dX12_cellBehind_71 : decode cX12_cellBehind 71 = .ok (.invokevirtual 430, 3) := by decide +kernel
theorem dX12_cellBehind_74 : decode cX12_cellBehind 74 = .ok (.aload_n 0, 1) := by decide +kernel
theorem dX12_cellBehind_75 : decode cX12_cellBehind 75 = .ok (.getfield 146, 3) := by decide +kernel
theorem dX12_cellBehind_78 : decode cX12_cellBehind 78 = .ok (.iload 6, 2) := by decide +kernel
theorem dX12_cellBehind_80 : decode cX12_cellBehind 80 = .ok (.iaload, 1) := by decide +kernel
theorem dX12_cellBehind_81 : decode cX12_cellBehind 81 = .ok (.iand, 1) := by decide +kernel
theorem dX12_cellBehind_82 : decode cX12_cellBehind 82 = .ok (.invokestatic 436, 3) := by decide +kernel
theorem dX12_cellBehind_85 : decode cX12_cellBehind 85 = .ok (.istore 5, 2) := by decide +kernel
theorem dX12_cellBehind_87 : decode cX12_cellBehind 87 = .ok (.iinc 6 1, 3) := by decide +kernel
theorem dX12_cellBehind_90 : decode cX12_cellBehind 90 = .ok (.goto (-31), 3) := by decide +kernel
theorem dX12_cellBehind_93 : decode cX12_cellBehind 93 = .ok (.iload 5, 2) := by decide +kernel
theorem dX12_cellBehind_95 : decode cX12_cellBehind 95 = .ok (.ireturn, 1) := by decide +kernel
theorem dX12_way_0 : decode cX12_way 0 = .ok (.aload_n 0, 1) := by decide +kernel
theorem dX12_way_1 : decode cX12_way 1 = .ok (.iload_n 1, 1) := by decide +kernel
theorem dX12_way_2 : decode cX12_way 2 = .ok (.iload_n 2, 1) := by decide +kernel
theorem dX12_way_3 : decode cX12_way 3 = .ok (.invokevirtual 439, 3) := by decide +kernel
theorem dX12_way_6 : decode cX12_way 6 = .ok (.ifCond .eq 8, 3) := by decide +kernel
theorem dX12_way_9 : decode cX12_way 9 = .ok (.iload_n 3, 1) := by decide +kernel
theorem dX12_way_10 : decode cX12_way 10 = .ok (.iconst (-1), 1) := by decide +kernel
theorem dX12_way_11 : decode cX12_way 11 = .ok (.if_icmp .ge 5, 3) := by decide +kernel
theorem dX12_way_14 : decode cX12_way 14 = .ok (.iconst (-1), 1) := by decide +kernel
theorem dX12_way_15 : decode cX12_way 15 = .ok (.ireturn, 1) := by decide +kernel
theorem dX12_way_16 : decode cX12_way 16 = .ok (.aload_n 0, 1) := by decide +kernel
theorem dX12_way_17 : decode cX12_way 17 = .ok (.invokevirtual 346, 3) := by decide +kernel
theorem dX12_way_20 : decode cX12_way 20 = .ok (.aload_n 0, 1) := by decide +kernel
theorem dX12_way_21 : decode cX12_way 21 = .ok (.aload_n 0, 1) := by decide +kernel
theorem dX12_way_22 : decode cX12_way 22 = .ok (.getfield 140, 3) := by decide +kernel
theorem dX12_way_25 : decode cX12_way 25 = .ok (.iload_n 1, 1) := by decide +kernel
theorem dX12_way_26 : decode cX12_way 26 = .ok (.aload_n 0, 1) := by decide +kernel
theorem dX12_way_27 : decode cX12_way 27 = .ok (.getfield 128, 3) := by decide +kernel
theorem dX12_way_30 : decode cX12_way 30 = .ok (.bipush 61, 2) := by decide +kernel
theorem dX12_way_32 : decode cX12_way 32 = .ok (.iaload, 1) := by decide +kernel
theorem dX12_way_33 : decode cX12_way 33 = .ok (.invokevirtual 442, 3) := by decide +kernel
theorem dX12_way_36 : decode cX12_way 36 = .ok (.aload_n 0, 1) := by decide +kernel
theorem dX12_way_37 : decode cX12_way 37 = .ok (.iload_n 2, 1) := by decide +kernel
theorem dX12_way_38 : decode cX12_way 38 = .ok (.bipush 100, 2) := by decide +kernel
theorem dX12_way_40 : decode cX12_way 40 = .ok (.invokevirtual 446, 3) := by decide +kernel
theorem dX12_way_43 : decode cX12_way 43 = .ok (.istore 4, 2) := by decide +kernel
theorem dX12_way_45 : decode cX12_way 45 = .ok (.iload 4, 2) := by decide +kernel
theorem dX12_way_47 : decode cX12_way 47 = .ok (.ifCond .lt 8, 3) := by decide +kernel
theorem dX12_way_50 : decode cX12_way 50 = .ok (.iload_n 3, 1) := by decide +kernel
theorem dX12_way_51 : decode cX12_way 51 = .ok (.iconst (-1), 1) := by decide +kernel
theorem dX12_way_52 : decode cX12_way 52 = .ok (.if_icmp .ne 6, 3) := by decide +kernel
theorem dX12_way_55 : decode cX12_way 55 = .ok (.iload 4, 2) := by decide +kernel
theorem dX12_way_57 : decode cX12_way 57 = .ok (.ireturn, 1) := by decide +kernel
theorem dX12_way_58 : decode cX12_way 58 = .ok (.iload_n 3, 1) := by decide +kernel
theorem dX12_way_59 : decode cX12_way 59 = .ok (.iload 4, 2) := by decide +kernel
theorem dX12_way_61 : decode cX12_way 61 = .ok (.if_icmp .le 7, 3) := by decide +kernel
theorem dX12_way_64 : decode cX12_way 64 = .ok (.iconst (-1), 1) := by decide +kernel
theorem dX12_way_65 : decode cX12_way 65 = .ok (.goto 12, 3) := by decide +kernel
theorem dX12_way_68 : decode cX12_way 68 = .ok (.aload_n 0, 1) := by decide +kernel
theorem dX12_way_69 : decode cX12_way 69 = .ok (.iload_n 1, 1) := by decide +kernel
theorem dX12_way_70 : decode cX12_way 70 = .ok (.iload_n 2, 1) := by decide +kernel
theorem dX12_way_71 : decode cX12_way 71 = .ok (.iload 4, 2) := by decide +kernel
theorem dX12_way_73 : decode cX12_way 73 = .ok (.iload_n 3, 1) := by decide +kernel
theorem dX12_way_74 : decode cX12_way 74 = .ok (.invokevirtual 449, 3) := by decide +kernel
theorem dX12_way_77 : decode cX12_way 77 = .ok (.ireturn, 1) := by decide +kernel
theorem dX12_leave_0 : decode cX12_leave 0 = .ok (.aload_n 0, 1) := by decide +kernel
theorem dX12_leave_1 : decode cX12_leave 1 = .ok (.iload_n 1, 1) := by decide +kernel
theorem dX12_leave_2 : decode cX12_leave 2 = .ok (.iload_n 2, 1) := by decide +kernel
theorem dX12_leave_3 : decode cX12_leave 3 = .ok (.invokevirtual 439, 3) := by decide +kernel
theorem dX12_leave_6 : decode cX12_leave 6 = .ok (.ifCond .eq 12, 3) := by decide +kernel
theorem dX12_leave_9 : decode cX12_leave 9 = .ok (.iload_n 3, 1) := by decide +kernel
theorem dX12_leave_10 : decode cX12_leave 10 = .ok (.iconst 0, 1) := by decide +kernel
theorem dX12_leave_11 : decode cX12_leave 11 = .ok (.iconst 1, 1) := by decide +kernel
theorem dX12_leave_12 : decode cX12_leave 12 = .ok (.invokestatic 330, 3) := by decide +kernel
theorem dX12_leave_15 : decode cX12_leave 15 = .ok (.ifCond .ne 5, 3) := by decide +kernel
theorem dX12_leave_18 : decode cX12_leave 18 = .ok (.iconst (-1), 1) := by decide +kernel
theorem dX12_leave_19 : decode cX12_leave 19 = .ok (.ireturn, 1) := by decide +kernel
theorem dX12_leave_20 : decode cX12_leave 20 = .ok (.aload_n 0, 1) := by decide +kernel
theorem dX12_leave_21 : decode cX12_leave 21 = .ok (.invokevirtual 346, 3) := by decide +kernel
theorem dX12_leave_24 : decode cX12_leave 24 = .ok (.bipush (-2), 2) := by decide +kernel
theorem dX12_leave_26 : decode cX12_leave 26 = .ok (.istore 4, 2) := by decide +kernel
theorem dX12_leave_28 : decode cX12_leave 28 = .ok (.bipush (-2), 2) := by decide +kernel
theorem dX12_leave_30 : decode cX12_leave 30 = .ok (.istore 5, 2) := by decide +kernel
theorem dX12_leave_32 : decode cX12_leave 32 = .ok (.iconst 0, 1) := by decide +kernel
theorem dX12_leave_33 : decode cX12_leave 33 = .ok (.istore 6, 2) := by decide +kernel
theorem dX12_leave_35 : decode cX12_leave 35 = .ok (.iload 6, 2) := by decide +kernel
theorem dX12_leave_37 : decode cX12_leave 37 = .ok (.bipush 60, 2) := by decide +kernel
theorem dX12_leave_39 : decode cX12_leave 39 = .ok (.if_icmp .ge 65, 3) := by decide +kernel
theorem dX12_leave_42 : decode cX12_leave 42 = .ok (.aload_n 0, 1) := by decide +kernel
theorem dX12_leave_43 : decode cX12_leave 43 = .ok (.aload_n 0, 1) := by decide +kernel
theorem dX12_leave_44 : decode cX12_leave 44 = .ok (.getfield 140, 3) := by decide +kernel
theorem dX12_leave_47 : decode cX12_leave 47 = .ok (.iload_n 1, 1) := by decide +kernel
theorem dX12_leave_48 : decode cX12_leave 48 = .ok (.aload_n 0, 1) := by decide +kernel
theorem dX12_leave_49 : decode cX12_leave 49 = .ok (.getfield 128, 3) := by decide +kernel
theorem dX12_leave_52 : decode cX12_leave 52 = .ok (.bipush 61, 2) := by decide +kernel
theorem dX12_leave_54 : decode cX12_leave 54 = .ok (.iaload, 1) := by decide +kernel
theorem dX12_leave_55 : decode cX12_leave 55 = .ok (.iload 6, 2) := by decide +kernel
theorem dX12_leave_57 : decode cX12_leave 57 = .ok (.iadd, 1) := by decide +kernel
theorem dX12_leave_58 : decode cX12_leave 58 = .ok (.invokevirtual 442, 3) := by decide +kernel
theorem dX12_leave_61 : decode cX12_leave 61 = .ok (.aload_n 0, 1) := by decide +kernel
theorem dX12_leave_62 : decode cX12_leave 62 = .ok (.iload_n 2, 1) := by decide +kernel
theorem dX12_leave_63 : decode cX12_leave 63 = .ok (.bipush 100, 2) := by decide +kernel
theorem dX12_leave_65 : decode cX12_leave 65 = .ok (.invokevirtual 446, 3) := by decide +kernel
theorem dX12_leave_68 : decode cX12_leave 68 = .ok (.istore 7, 2) := by decide +kernel
theorem dX12_leave_70 : decode cX12_leave 70 = .ok (.iload 7, 2) := by decide +kernel
theorem dX12_leave_72 : decode cX12_leave 72 = .ok (.ifCond .lt 26, 3) := by decide +kernel
theorem dX12_leave_75 : decode cX12_leave 75 = .ok (.iload 4, 2) := by decide +kernel
theorem dX12_leave_77 : decode cX12_leave 77 = .ok (.ifCond .lt 13, 3) := by decide +kernel
theorem dX12_leave_80 : decode cX12_leave 80 = .ok (.iload 7, 2) := by decide +kernel
theorem dX12_leave_82 : decode cX12_leave 82 = .ok (.iload 5, 2) := by decide +kernel
theorem dX12_leave_84 : decode cX12_leave 84 = .ok (.if_icmp .lt 6, 3) := by decide +kernel
theorem dX12_leave_87 : decode cX12_leave 87 = .ok (.goto 11, 3) := by decide +kernel
theorem dX12_leave_90 : decode cX12_leave 90 = .ok (.iload 6, 2) := by decide +kernel
theorem dX12_leave_92 : decode cX12_leave 92 = .ok (.istore 4, 2) := by decide +kernel
theorem dX12_leave_94 : decode cX12_leave 94 = .ok (.iload 7, 2) := by decide +kernel
theorem dX12_leave_96 : decode cX12_leave 96 = .ok (.istore 5, 2) := by decide +kernel
theorem dX12_leave_98 : decode cX12_leave 98 = .ok (.iinc 6 1, 3) := by decide +kernel
theorem dX12_leave_101 : decode cX12_leave 101 = .ok (.goto (-66), 3) := by decide +kernel
theorem dX12_leave_104 : decode cX12_leave 104 = .ok (.iload_n 3, 1) := by decide +kernel
theorem dX12_leave_105 : decode cX12_leave 105 = .ok (.ifCond .ne 8, 3) := by decide +kernel
theorem dX12_leave_108 : decode cX12_leave 108 = .ok (.iload 4, 2) := by decide +kernel
theorem dX12_leave_110 : decode cX12_leave 110 = .ok (.goto 5, 3) := by decide +kernel
theorem dX12_leave_113 : decode cX12_leave 113 = .ok (.iload 5, 2) := by decide +kernel
theorem dX12_leave_115 : decode cX12_leave 115 = .ok (.ireturn, 1) := by decide +kernel
theorem dX12_isWayWithout_0 : decode cX12_isWayWithout 0 = .ok (.aload_n 0, 1) := by decide +kernel
theorem dX12_isWayWithout_1 : decode cX12_isWayWithout 1 = .ok (.invokevirtual 346, 3) := by decide +kernel
theorem dX12_isWayWithout_4 : decode cX12_isWayWithout 4 = .ok (.iconst 0, 1) := by decide +kernel
theorem dX12_isWayWithout_5 : decode cX12_isWayWithout 5 = .ok (.istore 5, 2) := by decide +kernel
theorem dX12_isWayWithout_7 : decode cX12_isWayWithout 7 = .ok (.iload 5, 2) := by decide +kernel
theorem dX12_isWayWithout_9 : decode cX12_isWayWithout 9 = .ok (.aload_n 0, 1) := by decide +kernel
theorem dX12_isWayWithout_10 : decode cX12_isWayWithout 10 = .ok (.invokevirtual 326, 3) := by decide +kernel
theorem dX12_isWayWithout_13 : decode cX12_isWayWithout 13 = .ok (.if_icmp .ge 28, 3) := by decide +kernel
theorem dX12_isWayWithout_16 : decode cX12_isWayWithout 16 = .ok (.iload 4, 2) := by decide +kernel
theorem dX12_isWayWithout_18 : decode cX12_isWayWithout 18 = .ok (.iload 5, 2) := by decide +kernel
theorem dX12_isWayWithout_20 : decode cX12_isWayWithout 20 = .ok (.ishr, 1) := by decide +kernel
theorem dX12_isWayWithout_21 : decode cX12_isWayWithout 21 = .ok (.iconst 1, 1) := by decide +kernel
theorem dX12_isWayWithout_22 : decode cX12_isWayWithout 22 = .ok (.iand, 1) := by decide +kernel
theorem dX12_isWayWithout_23 : decode cX12_isWayWithout 23 = .ok (.iconst 1, 1) := by decide +kernel
theorem dX12_isWayWithout_24 : decode cX12_isWayWithout 24 = .ok (.if_icmp .ne 11, 3) := by decide +kernel
theorem dX12_isWayWithout_27 : decode cX12_isWayWithout 27 = .ok (.aload_n 0, 1) := by decide +kernel
theorem dX12_isWayWithout_28 : decode cX12_isWayWithout 28 = .ok (.getfield 128, 3) := by decide +kernel
theorem dX12_isWayWithout_31 : decode cX12_isWayWithout 31 = .ok (.iload 5, 2) := by decide +kernel
theorem dX12_isWayWithout_33 : decode cX12_isWayWithout 33 = .ok (.iconst 0, 1) := by decide +kernel
theorem dX12_isWayWithout_34 : decode cX12_isWayWithout 34 = .ok (.iastore, 1) := by decide +kernel
theorem dX12_isWayWithout_35 : decode cX12_isWayWithout 35 = .ok (.iinc 5 1, 3) := by decide +kernel
theorem dX12_isWayWithout_38 : decode cX12_isWayWithout 38 = .ok (.goto (-31), 3) := by decide +kernel
theorem dX12_isWayWithout_41 : decode cX12_isWayWithout 41 = .ok (.aload_n 0, 1) := by decide +kernel
theorem dX12_isWayWithout_42 : decode cX12_isWayWithout 42 = .ok (.aload_n 0, 1) := by decide +kernel
theorem dX12_isWayWithout_43 : decode cX12_isWayWithout 43 = .ok (.getfield 140, 3) := by decide +kernel
theorem dX12_isWayWithout_46 : decode cX12_isWayWithout 46 = .ok (.iload_n 1, 1) := by decide +kernel
theorem dX12_isWayWithout_47 : decode cX12_isWayWithout 47 = .ok (.aload_n 0, 1) := by decide +kernel
theorem dX12_isWayWithout_48 : decode cX12_isWayWithout 48 = .ok (.getfield 128, 3) := by decide +kernel
theorem dX12_isWayWithout_51 : decode cX12_isWayWithout 51 = .ok (.bipush 61, 2) := by decide +kernel
theorem dX12_isWayWithout_53 : decode cX12_isWayWithout 53 = .ok (.iaload, 1) := by decide +kernel
theorem dX12_isWayWithout_54 : decode cX12_isWayWithout 54 = .ok (.invokevirtual 442, 3) := by decide +kernel
theorem dX12_isWayWithout_57 : decode cX12_isWayWithout 57 = .ok (.aload_n 0, 1) := by decide +kernel
theorem dX12_isWayWithout_58 : decode cX12_isWayWithout 58 = .ok (.iload_n 2, 1) := by decide +kernel
theorem dX12_isWayWithout_59 : decode cX12_isWayWithout 59 = .ok (.iload_n 3, 1) := by decide +kernel
theorem dX12_isWayWithout_60 : decode cX12_isWayWithout 60 = .ok (.invokevirtual 446, 3) := by decide +kernel
theorem dX12_isWayWithout_63 : decode cX12_isWayWithout 63 = .ok (.ifCond .lt 7, 3) := by decide +kernel
theorem dX12_isWayWithout_66 : decode cX12_isWayWithout 66 = .ok (.iconst 1, 1) := by decide +kernel
theorem dX12_isWayWithout_67 : decode cX12_isWayWithout 67 = .ok (.goto 4, 3) := by decide +kernel
theorem dX12_isWayWithout_70 : decode cX12_isWayWithout 70 = .ok (.iconst 0, 1) := by decide +kernel
theorem dX12_isWayWithout_71 : decode cX12_isWayWithout 71 = .ok (.ireturn, 1) := by decide +kernel
theorem dX12_tunesBy_0 : decode cX12_tunesBy 0 = .ok (.iload_n 1, 1) := by decide +kernel
theorem dX12_tunesBy_1 : decode cX12_tunesBy 1 = .ok (.istore_n 2, 1) := by decide +kernel
theorem dX12_tunesBy_2 : decode cX12_tunesBy 2 = .ok (.iconst 0, 1) := by decide +kernel
theorem dX12_tunesBy_3 : decode cX12_tunesBy 3 = .ok (.istore_n 3, 1) := by decide +kernel
theorem dX12_tunesBy_4 : decode cX12_tunesBy 4 = .ok (.iconst 0, 1) := by decide +kernel
theorem dX12_tunesBy_5 : decode cX12_tunesBy 5 = .ok (.istore 4, 2) := by decide +kernel
theorem dX12_tunesBy_7 : decode cX12_tunesBy 7 = .ok (.iload 4, 2) := by decide +kernel
theorem dX12_tunesBy_9 : decode cX12_tunesBy 9 = .ok (.aload_n 0, 1) := by decide +kernel
theorem dX12_tunesBy_10 : decode cX12_tunesBy 10 = .ok (.invokevirtual 326, 3) := by decide +kernel
theorem dX12_tunesBy_13 : decode cX12_tunesBy 13 = .ok (.if_icmp .ge 35, 3) := by decide +kernel
theorem dX12_tunesBy_16 : decode cX12_tunesBy 16 = .ok (.aload_n 0, 1) := by decide +kernel
theorem dX12_tunesBy_17 : decode cX12_tunesBy 17 = .ok (.getfield 125, 3) := by decide +kernel
theorem dX12_tunesBy_20 : decode cX12_tunesBy 20 = .ok (.iload 4, 2) := by decide +kernel
theorem dX12_tunesBy_22 : decode cX12_tunesBy 22 = .ok (.iaload, 1) := by decide +kernel
theorem dX12_tunesBy_23 : decode cX12_tunesBy 23 = .ok (.ifCond .ne 6, 3) := by decide +kernel
theorem dX12_tunesBy_26 : decode cX12_tunesBy 26 = .ok (.goto 16, 3) := by decide +kernel
theorem dX12_tunesBy_29 : decode cX12_tunesBy 29 = .ok (.iload_n 3, 1) := by decide +kernel
theorem dX12_tunesBy_30 : decode cX12_tunesBy 30 = .ok (.iload_n 2, 1) := by decide +kernel
theorem dX12_tunesBy_31 : decode cX12_tunesBy 31 = .ok (.iconst 1, 1) := by decide +kernel
theorem dX12_tunesBy_32 : decode cX12_tunesBy 32 = .ok (.iand, 1) := by decide +kernel
theorem dX12_tunesBy_33 : decode cX12_tunesBy 33 = .ok (.iload 4, 2) := by decide +kernel
theorem dX12_tunesBy_35 : decode cX12_tunesBy 35 = .ok (.ishl, 1) := by decide +kernel
theorem dX12_tunesBy_36 : decode cX12_tunesBy 36 = .ok (.ior, 1) := by decide +kernel
theorem dX12_tunesBy_37 : decode cX12_tunesBy 37 = .ok (.istore_n 3, 1) := by decide +kernel
theorem dX12_tunesBy_38 : decode cX12_tunesBy 38 = .ok (.iload_n 2, 1) := by decide +kernel
theorem dX12_tunesBy_39 : decode cX12_tunesBy 39 = .ok (.iconst 1, 1) := by decide +kernel
theorem dX12_tunesBy_40 : decode cX12_tunesBy 40 = .ok (.ishr, 1) := by decide +kernel
theorem dX12_tunesBy_41 : decode cX12_tunesBy 41 = .ok (.istore_n 2, 1) := by decide +kernel
theorem dX12_tunesBy_42 : decode cX12_tunesBy 42 = .ok (.iinc 4 1, 3) := by decide +kernel
theorem dX12_tunesBy_45 : decode cX12_tunesBy 45 = .ok (.goto (-38), 3) := by decide +kernel
theorem dX12_tunesBy_48 : decode cX12_tunesBy 48 = .ok (.iload_n 3, 1) := by decide +kernel
theorem dX12_tunesBy_49 : decode cX12_tunesBy 49 = .ok (.ireturn, 1) := by decide +kernel
theorem dX12_fewestMown_0 : decode cX12_fewestMown 0 = .ok (.aload_n 0, 1) := by decide +kernel
theorem dX12_fewestMown_1 : decode cX12_fewestMown 1 = .ok (.invokevirtual 346, 3) := by decide +kernel
theorem dX12_fewestMown_4 : decode cX12_fewestMown 4 = .ok (.aload_n 0, 1) := by decide +kernel
theorem dX12_fewestMown_5 : decode cX12_fewestMown 5 = .ok (.invokevirtual 359, 3) := by decide +kernel
theorem dX12_fewestMown_8 : decode cX12_fewestMown 8 = .ok (.invokestatic 362, 3) := by decide +kernel
theorem dX12_fewestMown_11 : decode cX12_fewestMown 11 = .ok (.istore 4, 2) := by decide +kernel
theorem dX12_fewestMown_13 : decode cX12_fewestMown 13 = .ok (.bipush (-2), 2) := by decide +kernel
theorem dX12_fewestMown_15 : decode cX12_fewestMown 15 = .ok (.istore 5, 2) := by decide +kernel
theorem dX12_fewestMown_17 : decode cX12_fewestMown 17 = .ok (.iconst 0, 1) := by decide +kernel
theorem dX12_fewestMown_18 : decode cX12_fewestMown 18 = .ok (.istore 6, 2) := by decide +kernel
theorem dX12_fewestMown_20 : decode cX12_fewestMown 20 = .ok (.iload 6, 2) := by decide +kernel
theorem dX12_fewestMown_22 : decode cX12_fewestMown 22 = .ok (.iconst 1, 1) := by decide +kernel
theorem dX12_fewestMown_23 : decode cX12_fewestMown 23 = .ok (.iload 4, 2) := by decide +kernel
theorem dX12_fewestMown_25 : decode cX12_fewestMown 25 = .ok (.ishl, 1) := by decide +kernel
theorem dX12_fewestMown_26 : decode cX12_fewestMown 26 = .ok (.if_icmp .ge 51, 3) := by decide +kernel
theorem dX12_fewestMown_29 : decode cX12_fewestMown 29 = .ok (.aload_n 0, 1) := by decide +kernel
theorem dX12_fewestMown_30 : decode cX12_fewestMown 30 = .ok (.iload 6, 2) := by decide +kernel
theorem dX12_fewestMown_32 : decode cX12_fewestMown 32 = .ok (.invokevirtual 452, 3) := by decide +kernel
theorem dX12_fewestMown_35 : decode cX12_fewestMown 35 = .ok (.istore 7, 2) := by decide +kernel
theorem dX12_fewestMown_37 : decode cX12_fewestMown 37 = .ok (.iload 5, 2) := by decide +kernel
theorem dX12_fewestMown_39 : decode cX12_fewestMown 39 = .ok (.ifCond .lt 16, 3) := by decide +kernel
theorem dX12_fewestMown_42 : decode cX12_fewestMown 42 = .ok (.iload 7, 2) := by decide +kernel
theorem dX12_fewestMown_44 : decode cX12_fewestMown 44 = .ok (.invokestatic 362, 3) := by decide +kernel
theorem dX12_fewestMown_47 : decode cX12_fewestMown 47 = .ok (.iload 5, 2) := by decide +kernel
theorem dX12_fewestMown_49 : decode cX12_fewestMown 49 = .ok (.invokestatic 362, 3) := by decide +kernel
theorem dX12_fewestMown_52 : decode cX12_fewestMown 52 = .ok (.if_icmp .ge 19, 3) := by decide +kernel
theorem dX12_fewestMown_55 : decode cX12_fewestMown 55 = .ok (.aload_n 0, 1) := by decide +kernel
theorem dX12_fewestMown_56 : decode cX12_fewestMown 56 = .ok (.iload_n 1, 1) := by decide +kernel
theorem dX12_fewestMown_57 : decode cX12_fewestMown 57 = .ok (.iload_n 2, 1) := by decide +kernel
theorem dX12_fewestMown_58 : decode cX12_fewestMown 58 = .ok (.iload_n 3, 1) := by decide +kernel
theorem dX12_fewestMown_59 : decode cX12_fewestMown 59 = .ok (.iload 7, 2) := by decide +kernel
theorem dX12_fewestMown_61 : decode cX12_fewestMown 61 = .ok (.invokevirtual 455, 3) := by decide +kernel
theorem dX12_fewestMown_64 : decode cX12_fewestMown 64 = .ok (.ifCond .eq 7, 3) := by decide +kernel
theorem dX12_fewestMown_67 : decode cX12_fewestMown 67 = .ok (.iload 7, 2) := by decide +kernel
theorem dX12_fewestMown_69 : decode cX12_fewestMown 69 = .ok (.istore 5, 2) := by decide +kernel
theorem dX12_fewestMown_71 : decode cX12_fewestMown 71 = .ok (.iinc 6 1, 3) := by decide +kernel
theorem dX12_fewestMown_74 : decode cX12_fewestMown 74 = .ok (.goto (-54), 3) := by decide +kernel
theorem dX12_fewestMown_77 : decode cX12_fewestMown 77 = .ok (.iload 5, 2) := by decide +kernel
theorem dX12_fewestMown_79 : decode cX12_fewestMown 79 = .ok (.ireturn, 1) := by decide +kernel
theorem dX12_mows_0 : decode cX12_mows 0 = .ok (.aload_n 0, 1) := by decide +kernel
theorem dX12_mows_1 : decode cX12_mows 1 = .ok (.iload_n 1, 1) := by decide +kernel
theorem dX12_mows_2 : decode cX12_mows 2 = .ok (.iload_n 2, 1) := by decide +kernel
theorem dX12_mows_3 : decode cX12_mows 3 = .ok (.invokevirtual 439, 3) := by decide +kernel
theorem dX12_mows_6 : decode cX12_mows 6 = .ok (.ifCond .eq 20, 3) := by decide +kernel
theorem dX12_mows_9 : decode cX12_mows 9 = .ok (.iload_n 3, 1) := by decide +kernel
theorem dX12_mows_10 : decode cX12_mows 10 = .ok (.invokestatic 415, 3) := by decide +kernel
theorem dX12_mows_13 : decode cX12_mows 13 = .ok (.ifCond .eq 13, 3) := by decide +kernel
theorem dX12_mows_16 : decode cX12_mows 16 = .ok (.iload 4, 2) := by decide +kernel
theorem dX12_mows_18 : decode cX12_mows 18 = .ok (.iconst 0, 1) := by decide +kernel
theorem dX12_mows_19 : decode cX12_mows 19 = .ok (.iconst 1, 1) := by decide +kernel
theorem dX12_mows_20 : decode cX12_mows 20 = .ok (.invokestatic 330, 3) := by decide +kernel
theorem dX12_mows_23 : decode cX12_mows 23 = .ok (.ifCond .ne 5, 3) := by decide +kernel
theorem dX12_mows_26 : decode cX12_mows 26 = .ok (.iconst (-1), 1) := by decide +kernel
theorem dX12_mows_27 : decode cX12_mows 27 = .ok (.ireturn, 1) := by decide +kernel
theorem dX12_mows_28 : decode cX12_mows 28 = .ok (.aload_n 0, 1) := by decide +kernel
theorem dX12_mows_29 : decode cX12_mows 29 = .ok (.iload_n 1, 1) := by decide +kernel
theorem dX12_mows_30 : decode cX12_mows 30 = .ok (.iload_n 2, 1) := by decide +kernel
theorem dX12_mows_31 : decode cX12_mows 31 = .ok (.iload_n 3, 1) := by decide +kernel
theorem dX12_mows_32 : decode cX12_mows 32 = .ok (.invokevirtual 459, 3) := by decide +kernel
theorem dX12_mows_35 : decode cX12_mows 35 = .ok (.istore 5, 2) := by decide +kernel
theorem dX12_mows_37 : decode cX12_mows 37 = .ok (.iload 5, 2) := by decide +kernel
theorem dX12_mows_39 : decode cX12_mows 39 = .ok (.ifCond .lt 9, 3) := by decide +kernel
theorem dX12_mows_42 : decode cX12_mows 42 = .ok (.iload 4, 2) := by decide +kernel
theorem dX12_mows_44 : decode cX12_mows 44 = .ok (.iconst 1, 1) := by decide +kernel
theorem dX12_mows_45 : decode cX12_mows 45 = .ok (.if_icmp .ne 8, 3) := by decide +kernel
theorem dX12_mows_48 : decode cX12_mows 48 = .ok (.iload 5, 2) := by decide +kernel
theorem dX12_mows_50 : decode cX12_mows 50 = .ok (.goto 8, 3) := by decide +kernel
theorem dX12_mows_53 : decode cX12_mows 53 = .ok (.iload 5, 2) := by decide +kernel
theorem dX12_mows_55 : decode cX12_mows 55 = .ok (.invokestatic 362, 3) := by decide +kernel
theorem dX12_mows_58 : decode cX12_mows 58 = .ok (.ireturn, 1) := by decide +kernel
theorem dX12_isParted_0 : decode cX12_isParted 0 = .ok (.iconst 1, 1) := by decide +kernel
theorem dX12_isParted_1 : decode cX12_isParted 1 = .ok (.iload_n 1, 1) := by decide +kernel
theorem dX12_isParted_2 : decode cX12_isParted 2 = .ok (.ishl, 1) := by decide +kernel
theorem dX12_isParted_3 : decode cX12_isParted 3 = .ok (.istore 4, 2) := by decide +kernel
theorem dX12_isParted_5 : decode cX12_isParted 5 = .ok (.iconst 0, 1) := by decide +kernel
theorem dX12_isParted_6 : decode cX12_isParted 6 = .ok (.istore 5, 2) := by decide +kernel
theorem dX12_isParted_8 : decode cX12_isParted 8 = .ok (.iload 4, 2) := by decide +kernel
theorem dX12_isParted_10 : decode cX12_isParted 10 = .ok (.iload 5, 2) := by decide +kernel
theorem dX12_isParted_12 : decode cX12_isParted 12 = .ok (.if_icmp .eq 27, 3) := by decide +kernel
theorem dX12_isParted_15 : decode cX12_isParted 15 = .ok (.iload 4, 2) := by decide +kernel
theorem dX12_isParted_17 : decode cX12_isParted 17 = .ok (.istore 5, 2) := by decide +kernel
theorem dX12_isParted_19 : decode cX12_isParted 19 = .ok (.aload_n 0, 1) := by decide +kernel
theorem dX12_isParted_20 : decode cX12_isParted 20 = .ok (.iload 4, 2) := by decide +kernel
theorem dX12_isParted_22 : decode cX12_isParted 22 = .ok (.invokevirtual 430, 3) := by decide +kernel
theorem dX12_isParted_25 : decode cX12_isParted 25 = .ok (.aload_n 0, 1) := by decide +kernel
theorem dX12_isParted_26 : decode cX12_isParted 26 = .ok (.invokevirtual 427, 3) := by decide +kernel
theorem dX12_isParted_29 : decode cX12_isParted 29 = .ok (.iand, 1) := by decide +kernel
theorem dX12_isParted_30 : decode cX12_isParted 30 = .ok (.iload_n 3, 1) := by decide +kernel
theorem dX12_isParted_31 : decode cX12_isParted 31 = .ok (.iconst (-1), 1) := by decide +kernel
theorem dX12_isParted_32 : decode cX12_isParted 32 = .ok (.ixor, 1) := by decide +kernel
theorem dX12_isParted_33 : decode cX12_isParted 33 = .ok (.iand, 1) := by decide +kernel
theorem dX12_isParted_34 : decode cX12_isParted 34 = .ok (.istore 4, 2) := by decide +kernel
theorem dX12_isParted_36 : decode cX12_isParted 36 = .ok (.goto (-28), 3) := by decide +kernel
theorem dX12_isParted_39 : decode cX12_isParted 39 = .ok (.iload 4, 2) := by decide +kernel
theorem dX12_isParted_41 : decode cX12_isParted 41 = .ok (.iload_n 2, 1) := by decide +kernel
theorem dX12_isParted_42 : decode cX12_isParted 42 = .ok (.ishr, 1) := by decide +kernel
theorem dX12_isParted_43 : decode cX12_isParted 43 = .ok (.iconst 1, 1) := by decide +kernel
theorem dX12_isParted_44 : decode cX12_isParted 44 = .ok (.iand, 1) := by decide +kernel
theorem dX12_isParted_45 : decode cX12_isParted 45 = .ok (.ifCond .ne 7, 3) := by decide +kernel
theorem dX12_isParted_48 : decode cX12_isParted 48 = .ok (.iconst 1, 1) := by decide +kernel
theorem dX12_isParted_49 : decode cX12_isParted 49 = .ok (.goto 4, 3) := by decide +kernel
theorem dX12_isParted_52 : decode cX12_isParted 52 = .ok (.iconst 0, 1) := by decide +kernel
theorem dX12_isParted_53 : decode cX12_isParted 53 = .ok (.ireturn, 1) := by decide +kernel
theorem dX12_isOther_0 : decode cX12_isOther 0 = .ok (.iload_n 1, 1) := by decide +kernel
theorem dX12_isOther_1 : decode cX12_isOther 1 = .ok (.iload_n 2, 1) := by decide +kernel
theorem dX12_isOther_2 : decode cX12_isOther 2 = .ok (.if_icmp .eq 20, 3) := by decide +kernel
theorem dX12_isOther_5 : decode cX12_isOther 5 = .ok (.iload_n 1, 1) := by decide +kernel
theorem dX12_isOther_6 : decode cX12_isOther 6 = .ok (.iload_n 3, 1) := by decide +kernel
theorem dX12_isOther_7 : decode cX12_isOther 7 = .ok (.if_icmp .eq 15, 3) := by decide +kernel
theorem dX12_isOther_10 : decode cX12_isOther 10 = .ok (.aload_n 0, 1) := by decide +kernel
theorem dX12_isOther_11 : decode cX12_isOther 11 = .ok (.iload_n 1, 1) := by decide +kernel
theorem dX12_isOther_12 : decode cX12_isOther 12 = .ok (.invokevirtual 372, 3) := by decide +kernel
theorem dX12_isOther_15 : decode cX12_isOther 15 = .ok (.ifCond .ne 7, 3) := by decide +kernel
theorem dX12_isOther_18 : decode cX12_isOther 18 = .ok (.iconst 1, 1) := by decide +kernel
theorem dX12_isOther_19 : decode cX12_isOther 19 = .ok (.goto 4, 3) := by decide +kernel
theorem dX12_isOther_22 : decode cX12_isOther 22 = .ok (.iconst 0, 1) := by decide +kernel
theorem dX12_isOther_23 : decode cX12_isOther 23 = .ok (.ireturn, 1) := by decide +kernel
theorem dX12_part_0 : decode cX12_part 0 = .ok (.aload_n 0, 1) := by decide +kernel
theorem dX12_part_1 : decode cX12_part 1 = .ok (.iload_n 1, 1) := by decide +kernel
theorem dX12_part_2 : decode cX12_part 2 = .ok (.iload_n 2, 1) := by decide +kernel
theorem dX12_part_3 : decode cX12_part 3 = .ok (.invokevirtual 439, 3) := by decide +kernel
theorem dX12_part_6 : decode cX12_part 6 = .ok (.ifCond .ne 5, 3) := by decide +kernel
theorem dX12_part_9 : decode cX12_part 9 = .ok (.iconst (-1), 1) := by decide +kernel
theorem dX12_part_10 : decode cX12_part 10 = .ok (.ireturn, 1) := by decide +kernel
theorem dX12_part_11 : decode cX12_part 11 = .ok (.aload_n 0, 1) := by decide +kernel
theorem dX12_part_12 : decode cX12_part 12 = .ok (.invokevirtual 346, 3) := by decide +kernel
theorem dX12_part_15 : decode cX12_part 15 = .ok (.aload_n 0, 1) := by decide +kernel
theorem dX12_part_16 : decode cX12_part 16 = .ok (.iconst 1, 1) := by decide +kernel
theorem dX12_part_17 : decode cX12_part 17 = .ok (.iload_n 1, 1) := by decide +kernel
theorem dX12_part_18 : decode cX12_part 18 = .ok (.ishl, 1) := by decide +kernel
theorem dX12_part_19 : decode cX12_part 19 = .ok (.invokevirtual 430, 3) := by decide +kernel
theorem dX12_part_22 : decode cX12_part 22 = .ok (.iload_n 2, 1) := by decide +kernel
theorem dX12_part_23 : decode cX12_part 23 = .ok (.ishr, 1) := by decide +kernel
theorem dX12_part_24 : decode cX12_part 24 = .ok (.iconst 1, 1) := by decide +kernel
theorem dX12_part_25 : decode cX12_part 25 = .ok (.iand, 1) := by decide +kernel
theorem dX12_part_26 : decode cX12_part 26 = .ok (.iconst 1, 1) := by decide +kernel
theorem dX12_part_27 : decode cX12_part 27 = .ok (.if_icmp .ne 6, 3) := by decide +kernel
theorem dX12_part_30 : decode cX12_part 30 = .ok (.bipush (-2), 2) := by decide +kernel
theorem dX12_part_32 : decode cX12_part 32 = .ok (.ireturn, 1) := by decide +kernel
theorem dX12_part_33 : decode cX12_part 33 = .ok (.aload_n 0, 1) := by decide +kernel
theorem dX12_part_34 : decode cX12_part 34 = .ok (.iload_n 1, 1) := by decide +kernel
theorem dX12_part_35 : decode cX12_part 35 = .ok (.iload_n 2, 1) := by decide +kernel
theorem dX12_part_36 : decode cX12_part 36 = .ok (.iconst 0, 1) := by decide +kernel
theorem dX12_part_37 : decode cX12_part 37 = .ok (.invokevirtual 462, 3) := by decide +kernel
theorem dX12_part_40 : decode cX12_part 40 = .ok (.ifCond .eq 5, 3) := by decide +kernel
theorem dX12_part_43 : decode cX12_part 43 = .ok (.iconst 0, 1) := by decide +kernel
theorem dX12_part_44 : decode cX12_part 44 = .ok (.ireturn, 1) := by decide +kernel
theorem dX12_part_45 : decode cX12_part 45 = .ok (.iconst 4, 1) := by decide +kernel
theorem dX12_part_46 : decode cX12_part 46 = .ok (.istore_n 3, 1) := by decide +kernel
theorem dX12_part_47 : decode cX12_part 47 = .ok (.iconst 0, 1) := by decide +kernel
theorem dX12_part_48 : decode cX12_part 48 = .ok (.istore 4, 2) := by decide +kernel
theorem dX12_part_50 : decode cX12_part 50 = .ok (.iload 4, 2) := by decide +kernel
theorem dX12_part_52 : decode cX12_part 52 = .ok (.aload_n 0, 1) := by decide +kernel
theorem dX12_part_53 : decode cX12_part 53 = .ok (.invokevirtual 326, 3) := by decide +kernel
theorem dX12_part_56 : decode cX12_part 56 = .ok (.if_icmp .ge 150, 3) := by decide +kernel
theorem dX12_part_59 : decode cX12_part 59 = .ok (.aload_n 0, 1) := by decide +kernel
theorem dX12_part_60 : decode cX12_part 60 = .ok (.iload 4, 2) := by decide +kernel
theorem dX12_part_62 : decode cX12_part 62 = .ok (.iload_n 1, 1) := by decide +kernel
theorem dX12_part_63 : decode cX12_part 63 = .ok (.iload_n 2, 1) := by decide +kernel
theorem dX12_part_64 : decode cX12_part 64 = .ok (.invokevirtual 465, 3) := by decide +kernel
theorem dX12_part_67 : decode cX12_part 67 = .ok (.ifCond .ne 6, 3) := by decide +kernel
theorem dX12_part_70 : decode cX12_part 70 = .ok (.goto 130, 3) := by decide +kernel
theorem dX12_part_73 : decode cX12_part 73 = .ok (.aload_n 0, 1) := by decide +kernel
theorem dX12_part_74 : decode cX12_part 74 = .ok (.iload_n 1, 1) := by decide +kernel
theorem dX12_part_75 : decode cX12_part 75 = .ok (.iload_n 2, 1) := by decide +kernel
theorem dX12_part_76 : decode cX12_part 76 = .ok (.iconst 1, 1) := by decide +kernel
theorem dX12_part_77 : decode cX12_part 77 = .ok (.iload 4, 2) := by decide +kernel
theorem dX12_part_79 : decode cX12_part 79 = .ok (.ishl, 1) := by decide +kernel
theorem dX12_part_80 : decode cX12_part 80 = .ok (.invokevirtual 462, 3) := by decide +kernel
theorem dX12_part_83 : decode cX12_part 83 = .ok (.ifCond .eq 5, 3) := by decide +kernel
theorem dX12_part_86 : decode cX12_part 86 = .ok (.iconst 1, 1) := by decide +kernel
theorem dX12_part_87 : decode cX12_part 87 = .ok (.ireturn, 1) := by decide +kernel
theorem dX12_part_88 : decode cX12_part 88 = .ok (.iconst 0, 1) := by decide +kernel
theorem dX12_part_89 : decode cX12_part 89 = .ok (.istore 5, 2) := by decide +kernel
theorem dX12_part_91 : decode cX12_part 91 = .ok (.iload 5, 2) := by decide +kernel
theorem dX12_part_93 : decode cX12_part 93 = .ok (.iload 4, 2) := by decide +kernel
theorem dX12_part_95 : decode cX12_part 95 = .ok (.if_icmp .ge 105, 3) := by decide +kernel
theorem dX12_part_98 : decode cX12_part 98 = .ok (.aload_n 0, 1) := by decide +kernel
theorem dX12_part_99 : decode cX12_part 99 = .ok (.iload 5, 2) := by decide +kernel
theorem dX12_part_101 : decode cX12_part 101 = .ok (.iload_n 1, 1) := by decide +kernel
theorem dX12_part_102 : decode cX12_part 102 = .ok (.iload_n 2, 1) := by decide +kernel
theorem dX12_part_103 : decode cX12_part 103 = .ok (.invokevirtual 465, 3) := by decide +kernel
theorem dX12_part_106 : decode cX12_part 106 = .ok (.ifCond .ne 6, 3) := by decide +kernel
theorem dX12_part_109 : decode cX12_part 109 = .ok (.goto 85, 3) := by decide +kernel
theorem dX12_part_112 : decode cX12_part 112 = .ok (.iload_n 3, 1) := by decide +kernel
theorem dX12_part_113 : decode cX12_part 113 = .ok (.iconst 2, 1) := by decide +kernel
theorem dX12_part_114 : decode cX12_part 114 = .ok (.if_icmp .le 23, 3) := by decide +kernel
theorem dX12_part_117 : decode cX12_part 117 = .ok (.aload_n 0, 1) := by decide +kernel
theorem dX12_part_118 : decode cX12_part 118 = .ok (.iload_n 1, 1) := by decide +kernel
theorem dX12_part_119 : decode cX12_part 119 = .ok (.iload_n 2, 1) := by decide +kernel
theorem dX12_part_120 : decode cX12_part 120 = .ok (.iconst 1, 1) := by decide +kernel
theorem dX12_part_121 : decode cX12_part 121 = .ok (.iload 4, 2) := by decide +kernel
theorem dX12_part_123 : decode cX12_part 123 = .ok (.ishl, 1) := by decide +kernel
theorem dX12_part_124 : decode cX12_part 124 = .ok (.iconst 1, 1) := by decide +kernel
theorem dX12_part_125 : decode cX12_part 125 = .ok (.iload 5, 2) := by decide +kernel
theorem dX12_part_127 : decode cX12_part 127 = .ok (.ishl, 1) := by decide +kernel
theorem dX12_part_128 : decode cX12_part 128 = .ok (.ior, 1) := by decide +kernel
theorem dX12_part_129 : decode cX12_part 129 = .ok (.invokevirtual 462, 3) := by decide +kernel
theorem dX12_part_132 : decode cX12_part 132 = .ok (.ifCond .eq 5, 3) := by decide +kernel
theorem dX12_part_135 : decode cX12_part 135 = .ok (.iconst 2, 1) := by decide +kernel
theorem dX12_part_136 : decode cX12_part 136 = .ok (.istore_n 3, 1) := by decide +kernel
theorem dX12_part_137 : decode cX12_part 137 = .ok (.iconst 0, 1) := by decide +kernel
theorem dX12_part_138 : decode cX12_part 138 = .ok (.istore 6, 2) := by decide +kernel
theorem dX12_part_140 : decode cX12_part 140 = .ok (.iload 6, 2) := by decide +kernel
theorem dX12_part_142 : decode cX12_part 142 = .ok (.iload 5, 2) := by decide +kernel
theorem dX12_part_144 : decode cX12_part 144 = .ok (.if_icmp .ge 50, 3) := by decide +kernel
theorem dX12_part_147 : decode cX12_part 147 = .ok (.iload_n 3, 1) := by decide +kernel
theorem dX12_part_148 : decode cX12_part 148 = .ok (.iconst 3, 1) := by decide +kernel
theorem dX12_part_149 : decode cX12_part 149 = .ok (.if_icmp .le 45, 3) := by decide +kernel
theorem dX12_part_152 : decode cX12_part 152 = .ok (.aload_n 0, 1) := by decide +kernel
theorem dX12_part_153 : decode cX12_part 153 = .ok (.iload 6, 2) := by decide +kernel
theorem dX12_part_155 : decode cX12_part 155 = .ok (.iload_n 1, 1) := by decide +kernel
theorem dX12_part_156 : decode cX12_part 156 = .ok (.iload_n 2, 1) := by decide +kernel
theorem dX12_part_157 : decode cX12_part 157 = .ok (.invokevirtual 465, 3) := by decide +kernel
theorem dX12_part_160 : decode cX12_part 160 = .ok (.ifCond .eq 28, 3) := by decide +kernel
theorem dX12_part_163 : decode cX12_part 163 = .ok (.aload_n 0, 1) := by decide +kernel
theorem dX12_part_164 : decode cX12_part 164 = .ok (.iload_n 1, 1) := by decide +kernel
theorem dX12_part_165 : decode cX12_part 165 = .ok (.iload_n 2, 1) := by decide +kernel
theorem dX12_part_166 : decode cX12_part 166 = .ok (.iconst 1, 1) := by decide +kernel
theorem dX12_part_167 : decode cX12_part 167 = .ok (.iload 4, 2) := by decide +kernel
theorem dX12_part_169 : decode cX12_part 169 = .ok (.ishl, 1) := by decide +kernel
theorem dX12_part_170 : decode cX12_part 170 = .ok (.iconst 1, 1) := by decide +kernel
theorem dX12_part_171 : decode cX12_part 171 = .ok (.iload 5, 2) := by decide +kernel
theorem dX12_part_173 : decode cX12_part 173 = .ok (.ishl, 1) := by decide +kernel
theorem dX12_part_174 : decode cX12_part 174 = .ok (.ior, 1) := by decide +kernel
theorem dX12_part_175 : decode cX12_part 175 = .ok (.iconst 1, 1) := by decide +kernel
theorem dX12_part_176 : decode cX12_part 176 = .ok (.iload 6, 2) := by decide +kernel
theorem dX12_part_178 : decode cX12_part 178 = .ok (.ishl, 1) := by decide +kernel
theorem dX12_part_179 : decode cX12_part 179 = .ok (.ior, 1) := by decide +kernel
theorem dX12_part_180 : decode cX12_part 180 = .ok (.invokevirtual 462, 3) := by decide +kernel
theorem dX12_part_183 : decode cX12_part 183 = .ok (.ifCond .eq 5, 3) := by decide +kernel
theorem dX12_part_186 : decode cX12_part 186 = .ok (.iconst 3, 1) := by decide +kernel
theorem dX12_part_187 : decode cX12_part 187 = .ok (.istore_n 3, 1) := by decide +kernel
theorem dX12_part_188 : decode cX12_part 188 = .ok (.iinc 6 1, 3) := by decide +kernel
theorem dX12_part_191 : decode cX12_part 191 = .ok (.goto (-51), 3) := by decide +kernel
theorem dX12_part_194 : decode cX12_part 194 = .ok (.iinc 5 1, 3) := by decide +kernel
theorem dX12_part_197 : decode cX12_part 197 = .ok (.goto (-106), 3) := by decide +kernel
theorem dX12_part_200 : decode cX12_part 200 = .ok (.iinc 4 1, 3) := by decide +kernel
theorem dX12_part_203 : decode cX12_part 203 = .ok (.goto (-153), 3) := by decide +kernel
theorem dX12_part_206 : decode cX12_part 206 = .ok (.iload_n 3, 1) := by decide +kernel
theorem dX12_part_207 : decode cX12_part 207 = .ok (.ireturn, 1) := by decide +kernel
theorem dX12_meet_0 : decode cX12_meet 0 = .ok (.aload_n 0, 1) := by decide +kernel
theorem dX12_meet_1 : decode cX12_meet 1 = .ok (.iload_n 1, 1) := by decide +kernel
theorem dX12_meet_2 : decode cX12_meet 2 = .ok (.invokevirtual 409, 3) := by decide +kernel
theorem dX12_meet_5 : decode cX12_meet 5 = .ok (.ifCond .eq 20, 3) := by decide +kernel
theorem dX12_meet_8 : decode cX12_meet 8 = .ok (.aload_n 0, 1) := by decide +kernel
theorem dX12_meet_9 : decode cX12_meet 9 = .ok (.iload_n 2, 1) := by decide +kernel
theorem dX12_meet_10 : decode cX12_meet 10 = .ok (.invokevirtual 409, 3) := by decide +kernel
theorem dX12_meet_13 : decode cX12_meet 13 = .ok (.ifCond .eq 12, 3) := by decide +kernel
theorem dX12_meet_16 : decode cX12_meet 16 = .ok (.iload_n 3, 1) := by decide +kernel
theorem dX12_meet_17 : decode cX12_meet 17 = .ok (.iconst 0, 1) := by decide +kernel
theorem dX12_meet_18 : decode cX12_meet 18 = .ok (.iconst 1, 1) := by decide +kernel
theorem dX12_meet_19 : decode cX12_meet 19 = .ok (.invokestatic 330, 3) := by decide +kernel
theorem dX12_meet_22 : decode cX12_meet 22 = .ok (.ifCond .ne 5, 3) := by decide +kernel
theorem dX12_meet_25 : decode cX12_meet 25 = .ok (.iconst (-1), 1) := by decide +kernel
theorem dX12_meet_26 : decode cX12_meet 26 = .ok (.ireturn, 1) := by decide +kernel
theorem dX12_meet_27 : decode cX12_meet 27 = .ok (.aload_n 0, 1) := by decide +kernel
theorem dX12_meet_28 : decode cX12_meet 28 = .ok (.invokevirtual 346, 3) := by decide +kernel
theorem dX12_meet_31 : decode cX12_meet 31 = .ok (.aload_n 0, 1) := by decide +kernel
theorem dX12_meet_32 : decode cX12_meet 32 = .ok (.aload_n 0, 1) := by decide +kernel
theorem dX12_meet_33 : decode cX12_meet 33 = .ok (.getfield 140, 3) := by decide +kernel
theorem dX12_meet_36 : decode cX12_meet 36 = .ok (.aload_n 0, 1) := by decide +kernel
theorem dX12_meet_37 : decode cX12_meet 37 = .ok (.getfield 128, 3) := by decide +kernel
theorem dX12_meet_40 : decode cX12_meet 40 = .ok (.bipush 51, 2) := by decide +kernel
theorem dX12_meet_42 : decode cX12_meet 42 = .ok (.iload_n 1, 1) := by decide +kernel
theorem dX12_meet_43 : decode cX12_meet 43 = .ok (.iadd, 1) := by decide +kernel
theorem dX12_meet_44 : decode cX12_meet 44 = .ok (.iaload, 1) := by decide +kernel
theorem dX12_meet_45 : decode cX12_meet 45 = .ok (.aload_n 0, 1) := by decide +kernel
theorem dX12_meet_46 : decode cX12_meet 46 = .ok (.getfield 128, 3) := by decide +kernel
theorem dX12_meet_49 : decode cX12_meet 49 = .ok (.bipush 61, 2) := by decide +kernel
theorem dX12_meet_51 : decode cX12_meet 51 = .ok (.iaload, 1) := by decide +kernel
theorem dX12_meet_52 : decode cX12_meet 52 = .ok (.invokevirtual 442, 3) := by decide +kernel
theorem dX12_meet_55 : decode cX12_meet 55 = .ok (.aload_n 0, 1) := by decide +kernel
theorem dX12_meet_56 : decode cX12_meet 56 = .ok (.aload_n 0, 1) := by decide +kernel
theorem dX12_meet_57 : decode cX12_meet 57 = .ok (.getfield 143, 3) := by decide +kernel
theorem dX12_meet_60 : decode cX12_meet 60 = .ok (.aload_n 0, 1) := by decide +kernel
theorem dX12_meet_61 : decode cX12_meet 61 = .ok (.getfield 128, 3) := by decide +kernel
theorem dX12_meet_64 : decode cX12_meet 64 = .ok (.bipush 51, 2) := by decide +kernel
theorem dX12_meet_66 : decode cX12_meet 66 = .ok (.iload_n 2, 1) := by decide +kernel
theorem dX12_meet_67 : decode cX12_meet 67 = .ok (.iadd, 1) := by decide +kernel
theorem dX12_meet_68 : decode cX12_meet 68 = .ok (.iaload, 1) := by decide +kernel
theorem dX12_meet_69 : decode cX12_meet 69 = .ok (.aload_n 0, 1) := by decide +kernel
theorem dX12_meet_70 : decode cX12_meet 70 = .ok (.getfield 128, 3) := by decide +kernel
theorem dX12_meet_73 : decode cX12_meet 73 = .ok (.bipush 61, 2) := by decide +kernel
theorem dX12_meet_75 : decode cX12_meet 75 = .ok (.iaload, 1) := by decide +kernel
theorem dX12_meet_76 : decode cX12_meet 76 = .ok (.invokevirtual 442, 3) := by decide +kernel
theorem dX12_meet_79 : decode cX12_meet 79 = .ok (.iconst 0, 1) := by decide +kernel
theorem dX12_meet_80 : decode cX12_meet 80 = .ok (.istore 4, 2) := by decide +kernel
theorem dX12_meet_82 : decode cX12_meet 82 = .ok (.iload 4, 2) := by decide +kernel
theorem dX12_meet_84 : decode cX12_meet 84 = .ok (.bipush 100, 2) := by decide +kernel
theorem dX12_meet_86 : decode cX12_meet 86 = .ok (.if_icmp .gt 55, 3) := by decide +kernel
theorem dX12_meet_89 : decode cX12_meet 89 = .ok (.aload_n 0, 1) := by decide +kernel
theorem dX12_meet_90 : decode cX12_meet 90 = .ok (.getfield 140, 3) := by decide +kernel
theorem dX12_meet_93 : decode cX12_meet 93 = .ok (.iload 4, 2) := by decide +kernel
theorem dX12_meet_95 : decode cX12_meet 95 = .ok (.iaload, 1) := by decide +kernel
theorem dX12_meet_96 : decode cX12_meet 96 = .ok (.aload_n 0, 1) := by decide +kernel
theorem dX12_meet_97 : decode cX12_meet 97 = .ok (.getfield 143, 3) := by decide +kernel
theorem dX12_meet_100 : decode cX12_meet 100 = .ok (.iload 4, 2) := by decide +kernel
theorem dX12_meet_102 : decode cX12_meet 102 = .ok (.iaload, 1) := by decide +kernel
theorem dX12_meet_103 : decode cX12_meet 103 = .ok (.iand, 1) := by decide +kernel
theorem dX12_meet_104 : decode cX12_meet 104 = .ok (.ifCond .eq 31, 3) := by decide +kernel
theorem dX12_meet_107 : decode cX12_meet 107 = .ok (.iload_n 3, 1) := by decide +kernel
theorem dX12_meet_108 : decode cX12_meet 108 = .ok (.ifCond .ne 8, 3) := by decide +kernel
theorem dX12_meet_111 : decode cX12_meet 111 = .ok (.iload 4, 2) := by decide +kernel
theorem dX12_meet_113 : decode cX12_meet 113 = .ok (.goto 21, 3) := by decide +kernel
theorem dX12_meet_116 : decode cX12_meet 116 = .ok (.aload_n 0, 1) := by decide +kernel
theorem dX12_meet_117 : decode cX12_meet 117 = .ok (.getfield 140, 3) := by decide +kernel
theorem dX12_meet_120 : decode cX12_meet 120 = .ok (.iload 4, 2) := by decide +kernel
theorem dX12_meet_122 : decode cX12_meet 122 = .ok (.iaload, 1) := by decide +kernel
theorem dX12_meet_123 : decode cX12_meet 123 = .ok (.aload_n 0, 1) := by decide +kernel
theorem dX12_meet_124 : decode cX12_meet 124 = .ok (.getfield 143, 3) := by decide +kernel
theorem dX12_meet_127 : decode cX12_meet 127 = .ok (.iload 4, 2) := by decide +kernel
theorem dX12_meet_129 : decode cX12_meet 129 = .ok (.iaload, 1) := by decide +kernel
theorem dX12_meet_130 : decode cX12_meet 130 = .ok (.iand, 1) := by decide +kernel
theorem dX12_meet_131 : decode cX12_meet 131 = .ok (.invokestatic 436, 3) := by decide +kernel
theorem dX12_meet_134 : decode cX12_meet 134 = .ok (.ireturn, 1) := by decide +kernel
theorem dX12_meet_135 : decode cX12_meet 135 = .ok (.iinc 4 1, 3) := by decide +kernel
theorem dX12_meet_138 : decode cX12_meet 138 = .ok (.goto (-56), 3) := by decide +kernel
theorem dX12_meet_141 : decode cX12_meet 141 = .ok (.bipush (-2), 2) := by decide +kernel
theorem dX12_meet_143 : decode cX12_meet 143 = .ok (.ireturn, 1) := by decide +kernel
theorem dX12_farOf_0 : decode cX12_farOf 0 = .ok (.aload_n 0, 1) := by decide +kernel
theorem dX12_farOf_1 : decode cX12_farOf 1 = .ok (.invokevirtual 427, 3) := by decide +kernel
theorem dX12_farOf_4 : decode cX12_farOf 4 = .ok (.iconst 1, 1) := by decide +kernel
theorem dX12_farOf_5 : decode cX12_farOf 5 = .ok (.iload_n 1, 1) := by decide +kernel
theorem dX12_farOf_6 : decode cX12_farOf 6 = .ok (.ishl, 1) := by decide +kernel
theorem dX12_farOf_7 : decode cX12_farOf 7 = .ok (.ior, 1) := by decide +kernel
theorem dX12_farOf_8 : decode cX12_farOf 8 = .ok (.iconst 1, 1) := by decide +kernel
theorem dX12_farOf_9 : decode cX12_farOf 9 = .ok (.iload_n 2, 1) := by decide +kernel
theorem dX12_farOf_10 : decode cX12_farOf 10 = .ok (.ishl, 1) := by decide +kernel
theorem dX12_farOf_11 : decode cX12_farOf 11 = .ok (.ior, 1) := by decide +kernel
theorem dX12_farOf_12 : decode cX12_farOf 12 = .ok (.istore_n 3, 1) := by decide +kernel
theorem dX12_farOf_13 : decode cX12_farOf 13 = .ok (.iconst 1, 1) := by decide +kernel
theorem dX12_farOf_14 : decode cX12_farOf 14 = .ok (.iload_n 1, 1) := by decide +kernel
theorem dX12_farOf_15 : decode cX12_farOf 15 = .ok (.ishl, 1) := by decide +kernel
theorem dX12_farOf_16 : decode cX12_farOf 16 = .ok (.istore 4, 2) := by decide +kernel
theorem dX12_farOf_18 : decode cX12_farOf 18 = .ok (.iconst 0, 1) := by decide +kernel
theorem dX12_farOf_19 : decode cX12_farOf 19 = .ok (.istore 5, 2) := by decide +kernel
theorem dX12_farOf_21 : decode cX12_farOf 21 = .ok (.iload 5, 2) := by decide +kernel
theorem dX12_farOf_23 : decode cX12_farOf 23 = .ok (.bipush 25, 2) := by decide +kernel
theorem dX12_farOf_25 : decode cX12_farOf 25 = .ok (.if_icmp .ge 32, 3) := by decide +kernel
theorem dX12_farOf_28 : decode cX12_farOf 28 = .ok (.iload 4, 2) := by decide +kernel
theorem dX12_farOf_30 : decode cX12_farOf 30 = .ok (.iload_n 2, 1) := by decide +kernel
theorem dX12_farOf_31 : decode cX12_farOf 31 = .ok (.ishr, 1) := by decide +kernel
theorem dX12_farOf_32 : decode cX12_farOf 32 = .ok (.iconst 1, 1) := by decide +kernel
theorem dX12_farOf_33 : decode cX12_farOf 33 = .ok (.iand, 1) := by decide +kernel
theorem dX12_farOf_34 : decode cX12_farOf 34 = .ok (.iconst 1, 1) := by decide +kernel
theorem dX12_farOf_35 : decode cX12_farOf 35 = .ok (.if_icmp .ne 6, 3) := by decide +kernel
theorem dX12_farOf_38 : decode cX12_farOf 38 = .ok (.iload 5, 2) := by decide +kernel
theorem dX12_farOf_40 : decode cX12_farOf 40 = .ok (.ireturn, 1) := by decide +kernel
theorem dX12_farOf_41 : decode cX12_farOf 41 = .ok (.aload_n 0, 1) := by decide +kernel
theorem dX12_farOf_42 : decode cX12_farOf 42 = .ok (.iload 4, 2) := by decide +kernel
theorem dX12_farOf_44 : decode cX12_farOf 44 = .ok (.invokevirtual 430, 3) := by decide +kernel
theorem dX12_farOf_47 : decode cX12_farOf 47 = .ok (.iload_n 3, 1) := by decide +kernel
theorem dX12_farOf_48 : decode cX12_farOf 48 = .ok (.iand, 1) := by decide +kernel
theorem dX12_farOf_49 : decode cX12_farOf 49 = .ok (.istore 4, 2) := by decide +kernel
theorem dX12_farOf_51 : decode cX12_farOf 51 = .ok (.iinc 5 1, 3) := by decide +kernel
theorem dX12_farOf_54 : decode cX12_farOf 54 = .ok (.goto (-33), 3) := by decide +kernel
theorem dX12_farOf_57 : decode cX12_farOf 57 = .ok (.bipush (-2), 2) := by decide +kernel
theorem dX12_farOf_59 : decode cX12_farOf 59 = .ok (.ireturn, 1) := by decide +kernel
theorem dX12_far_0 : decode cX12_far 0 = .ok (.aload_n 0, 1) := by decide +kernel
theorem dX12_far_1 : decode cX12_far 1 = .ok (.iload_n 1, 1) := by decide +kernel
theorem dX12_far_2 : decode cX12_far 2 = .ok (.invokevirtual 403, 3) := by decide +kernel
theorem dX12_far_5 : decode cX12_far 5 = .ok (.ifCond .eq 11, 3) := by decide +kernel
theorem dX12_far_8 : decode cX12_far 8 = .ok (.aload_n 0, 1) := by decide +kernel
theorem dX12_far_9 : decode cX12_far 9 = .ok (.iload_n 2, 1) := by decide +kernel
theorem dX12_far_10 : decode cX12_far 10 = .ok (.invokevirtual 403, 3) := by decide +kernel
theorem dX12_far_13 : decode cX12_far 13 = .ok (.ifCond .ne 5, 3) := by decide +kernel
theorem dX12_far_16 : decode cX12_far 16 = .ok (.iconst (-1), 1) := by decide +kernel
theorem dX12_far_17 : decode cX12_far 17 = .ok (.ireturn, 1) := by decide +kernel
theorem dX12_far_18 : decode cX12_far 18 = .ok (.aload_n 0, 1) := by decide +kernel
theorem dX12_far_19 : decode cX12_far 19 = .ok (.invokevirtual 346, 3) := by decide +kernel
theorem dX12_far_22 : decode cX12_far 22 = .ok (.aload_n 0, 1) := by decide +kernel
theorem dX12_far_23 : decode cX12_far 23 = .ok (.iload_n 1, 1) := by decide +kernel
theorem dX12_far_24 : decode cX12_far 24 = .ok (.iload_n 2, 1) := by decide +kernel
theorem dX12_far_25 : decode cX12_far 25 = .ok (.invokevirtual 468, 3) := by decide +kernel
theorem dX12_far_28 : decode cX12_far 28 = .ok (.ireturn, 1) := by decide +kernel
theorem dX12_farthestFrom_0 : decode cX12_farthestFrom 0 = .ok (.iconst 0, 1) := by decide +kernel
theorem dX12_farthestFrom_1 : decode cX12_farthestFrom 1 = .ok (.istore_n 2, 1) := by decide +kernel
theorem dX12_farthestFrom_2 : decode cX12_farthestFrom 2 = .ok (.iconst 0, 1) := by decide +kernel
theorem dX12_farthestFrom_3 : decode cX12_farthestFrom 3 = .ok (.istore_n 3, 1) := by decide +kernel
theorem dX12_farthestFrom_4 : decode cX12_farthestFrom 4 = .ok (.iload_n 3, 1) := by decide +kernel
theorem dX12_farthestFrom_5 : decode cX12_farthestFrom 5 = .ok (.aload_n 0, 1) := by decide +kernel
theorem dX12_farthestFrom_6 : decode cX12_farthestFrom 6 = .ok (.invokevirtual 326, 3) := by decide +kernel
theorem dX12_farthestFrom_9 : decode cX12_farthestFrom 9 = .ok (.if_icmp .ge 45, 3) := by decide +kernel
theorem dX12_farthestFrom_12 : decode cX12_farthestFrom 12 = .ok (.aload_n 0, 1) := by decide +kernel
theorem dX12_farthestFrom_13 : decode cX12_farthestFrom 13 = .ok (.iload_n 3, 1) := by decide +kernel
theorem dX12_farthestFrom_14 : decode cX12_farthestFrom 14 = .ok (.invokevirtual 372, 3) := by decide +kernel
theorem dX12_farthestFrom_17 : decode cX12_farthestFrom 17 = .ok (.ifCond .eq 6, 3) := by decide +kernel
theorem dX12_farthestFrom_20 : decode cX12_farthestFrom 20 = .ok (.goto 28, 3) := by decide +kernel
theorem dX12_farthestFrom_23 : decode cX12_farthestFrom 23 = .ok (.aload_n 0, 1) := by decide +kernel
theorem dX12_farthestFrom_24 : decode cX12_farthestFrom 24 = .ok (.iload_n 1, 1) := by decide +kernel
theorem dX12_farthestFrom_25 : decode cX12_farthestFrom 25 = .ok (.iload_n 3, 1) := by decide +kernel
theorem dX12_farthestFrom_26 : decode cX12_farthestFrom 26 = .ok (.invokevirtual 468, 3) := by decide +kernel
theorem dX12_farthestFrom_29 : decode cX12_farthestFrom 29 = .ok (.istore 4, 2) := by decide +kernel
theorem dX12_farthestFrom_31 : decode cX12_farthestFrom 31 = .ok (.iload 4, 2) := by decide +kernel
theorem dX12_farthestFrom_33 : decode cX12_farthestFrom 33 = .ok (.ifCond .ge 6, 3) := by decide +kernel
theorem dX12_farthestFrom_36 : decode cX12_farthestFrom 36 = .ok (.bipush 25, 2) := by decide +kernel
theorem dX12_farthestFrom_38 : decode cX12_farthestFrom 38 = .ok (.ireturn, 1) := by decide +kernel
theorem dX12_farthestFrom_39 : decode cX12_farthestFrom 39 = .ok (.iload 4, 2) := by decide +kernel
theorem dX12_farthestFrom_41 : decode cX12_farthestFrom 41 = .ok (.iload_n 2, 1) := by decide +kernel
theorem dX12_farthestFrom_42 : decode cX12_farthestFrom 42 = .ok (.if_icmp .le 6, 3) := by decide +kernel
theorem dX12_farthestFrom_45 : decode cX12_farthestFrom 45 = .ok (.iload 4, 2) := by decide +kernel
theorem dX12_farthestFrom_47 : decode cX12_farthestFrom 47 = .ok (.istore_n 2, 1) := by decide +kernel
theorem dX12_farthestFrom_48 : decode cX12_farthestFrom 48 = .ok (.iinc 3 1, 3) := by decide +kernel
theorem dX12_farthestFrom_51 : decode cX12_farthestFrom 51 = .ok (.goto (-47), 3) := by decide +kernel
theorem dX12_farthestFrom_54 : decode cX12_farthestFrom 54 = .ok (.iload_n 2, 1) := by decide +kernel
theorem dX12_farthestFrom_55 : decode cX12_farthestFrom 55 = .ok (.ireturn, 1) := by decide +kernel
theorem dX12_centre_0 : decode cX12_centre 0 = .ok (.iload_n 1, 1) := by decide +kernel
theorem dX12_centre_1 : decode cX12_centre 1 = .ok (.iconst 0, 1) := by decide +kernel
theorem dX12_centre_2 : decode cX12_centre 2 = .ok (.iconst 1, 1) := by decide +kernel
theorem dX12_centre_3 : decode cX12_centre 3 = .ok (.invokestatic 330, 3) := by decide +kernel
theorem dX12_centre_6 : decode cX12_centre 6 = .ok (.ifCond .ne 5, 3) := by decide +kernel
theorem dX12_centre_9 : decode cX12_centre 9 = .ok (.iconst (-1), 1) := by decide +kernel
theorem dX12_centre_10 : decode cX12_centre 10 = .ok (.ireturn, 1) := by decide +kernel
theorem dX12_centre_11 : decode cX12_centre 11 = .ok (.aload_n 0, 1) := by decide +kernel
theorem dX12_centre_12 : decode cX12_centre 12 = .ok (.invokevirtual 346, 3) := by decide +kernel
theorem dX12_centre_15 : decode cX12_centre 15 = .ok (.bipush (-2), 2) := by decide +kernel
theorem dX12_centre_17 : decode cX12_centre 17 = .ok (.istore_n 2, 1) := by decide +kernel
theorem dX12_centre_18 : decode cX12_centre 18 = .ok (.bipush (-2), 2) := by decide +kernel
theorem dX12_centre_20 : decode cX12_centre 20 = .ok (.istore_n 3, 1) := by decide +kernel
theorem dX12_centre_21 : decode cX12_centre 21 = .ok (.iconst 0, 1) := by decide +kernel
theorem dX12_centre_22 : decode cX12_centre 22 = .ok (.istore 4, 2) := by decide +kernel
theorem dX12_centre_24 : decode cX12_centre 24 = .ok (.iload 4, 2) := by decide +kernel
theorem dX12_centre_26 : decode cX12_centre 26 = .ok (.aload_n 0, 1) := by decide +kernel
theorem dX12_centre_27 : decode cX12_centre 27 = .ok (.invokevirtual 326, 3) := by decide +kernel
theorem dX12_centre_30 : decode cX12_centre 30 = .ok (.if_icmp .ge 57, 3) := by decide +kernel
theorem dX12_centre_33 : decode cX12_centre 33 = .ok (.aload_n 0, 1) := by decide +kernel
theorem dX12_centre_34 : decode cX12_centre 34 = .ok (.iload 4, 2) := by decide +kernel
theorem dX12_centre_36 : decode cX12_centre 36 = .ok (.invokevirtual 372, 3) := by decide +kernel
theorem dX12_centre_39 : decode cX12_centre 39 = .ok (.ifCond .eq 8, 3) := by decide +kernel
theorem dX12_centre_42 : decode cX12_centre 42 = .ok (.bipush 26, 2) := by decide +kernel
theorem dX12_centre_44 : decode cX12_centre 44 = .ok (.goto 9, 3) := by decide +kernel
theorem dX12_centre_47 : decode cX12_centre 47 = .ok (.aload_n 0, 1) := by decide +kernel
theorem dX12_centre_48 : decode cX12_centre 48 = .ok (.iload 4, 2) := by decide +kernel
theorem dX12_centre_50 : decode cX12_centre 50 = .ok (.invokevirtual 471, 3) := by decide +kernel
theorem dX12_centre_53 : decode cX12_centre 53 = .ok (.istore 5, 2) := by decide +kernel
theorem dX12_centre_55 : decode cX12_centre 55 = .ok (.iload 5, 2) := by decide +kernel
theorem dX12_centre_57 : decode cX12_centre 57 = .ok (.bipush 25, 2) := by decide +kernel
theorem dX12_centre_59 : decode cX12_centre 59 = .ok (.if_icmp .gt 22, 3) := by decide +kernel
theorem dX12_centre_62 : decode cX12_centre 62 = .ok (.iload_n 2, 1) := by decide +kernel
theorem dX12_centre_63 : decode cX12_centre 63 = .ok (.ifCond .lt 12, 3) := by decide +kernel
theorem dX12_centre_66 : decode cX12_centre 66 = .ok (.iload 5, 2) := by decide +kernel
theorem dX12_centre_68 : decode cX12_centre 68 = .ok (.iload_n 3, 1) := by decide +kernel
theorem dX12_centre_69 : decode cX12_centre 69 = .ok (.if_icmp .lt 6, 3) := by decide +kernel
theorem dX12_centre_72 : decode cX12_centre 72 = .ok (.goto 9, 3) := by decide +kernel
theorem dX12_centre_75 : decode cX12_centre 75 = .ok (.iload 4, 2) := by decide +kernel
theorem dX12_centre_77 : decode cX12_centre 77 = .ok (.istore_n 2, 1) := by decide +kernel
theorem dX12_centre_78 : decode cX12_centre 78 = .ok (.iload 5, 2) := by decide +kernel
theorem dX12_centre_80 : decode cX12_centre 80 = .ok (.istore_n 3, 1) := by decide +kernel
theorem dX12_centre_81 : decode cX12_centre 81 = .ok (.iinc 4 1, 3) := by decide +kernel
theorem dX12_centre_84 : decode cX12_centre 84 = .ok (.goto (-60), 3) := by decide +kernel
theorem dX12_centre_87 : decode cX12_centre 87 = .ok (.iload_n 1, 1) := by decide +kernel
theorem dX12_centre_88 : decode cX12_centre 88 = .ok (.ifCond .ne 7, 3) := by decide +kernel
theorem dX12_centre_91 : decode cX12_centre 91 = .ok (.iload_n 2, 1) := by decide +kernel
theorem dX12_centre_92 : decode cX12_centre 92 = .ok (.goto 4, 3) := by decide +kernel
theorem dX12_centre_95 : decode cX12_centre 95 = .ok (.iload_n 3, 1) := by decide +kernel
theorem dX12_centre_96 : decode cX12_centre 96 = .ok (.ireturn, 1) := by decide +kernel
theorem dX12_returns_0 : decode cX12_returns 0 = .ok (.aload_n 0, 1) := by decide +kernel
theorem dX12_returns_1 : decode cX12_returns 1 = .ok (.iload_n 1, 1) := by decide +kernel
theorem dX12_returns_2 : decode cX12_returns 2 = .ok (.invokevirtual 409, 3) := by decide +kernel
theorem dX12_returns_5 : decode cX12_returns 5 = .ok (.ifCond .ne 5, 3) := by decide +kernel
theorem dX12_returns_8 : decode cX12_returns 8 = .ok (.iconst (-1), 1) := by decide +kernel
theorem dX12_returns_9 : decode cX12_returns 9 = .ok (.ireturn, 1) := by decide +kernel
theorem dX12_returns_10 : decode cX12_returns 10 = .ok (.aload_n 0, 1) := by decide +kernel
theorem dX12_returns_11 : decode cX12_returns 11 = .ok (.invokevirtual 474, 3) := by decide +kernel
theorem dX12_returns_14 : decode cX12_returns 14 = .ok (.iconst 1, 1) := by decide +kernel
theorem dX12_returns_15 : decode cX12_returns 15 = .ok (.istore_n 2, 1) := by decide +kernel
theorem dX12_returns_16 : decode cX12_returns 16 = .ok (.iload_n 2, 1) := by decide +kernel
theorem dX12_returns_17 : decode cX12_returns 17 = .ok (.bipush 100, 2) := by decide +kernel
theorem dX12_returns_19 : decode cX12_returns 19 = .ok (.if_icmp .gt 36, 3) := by decide +kernel
theorem dX12_returns_22 : decode cX12_returns 22 = .ok (.aload_n 0, 1) := by decide +kernel
theorem dX12_returns_23 : decode cX12_returns 23 = .ok (.invokevirtual 400, 3) := by decide +kernel
theorem dX12_returns_26 : decode cX12_returns 26 = .ok (.aload_n 0, 1) := by decide +kernel
theorem dX12_returns_27 : decode cX12_returns 27 = .ok (.getfield 128, 3) := by decide +kernel
theorem dX12_returns_30 : decode cX12_returns 30 = .ok (.bipush 51, 2) := by decide +kernel
theorem dX12_returns_32 : decode cX12_returns 32 = .ok (.iload_n 1, 1) := by decide +kernel
theorem dX12_returns_33 : decode cX12_returns 33 = .ok (.iadd, 1) := by decide +kernel
theorem dX12_returns_34 : decode cX12_returns 34 = .ok (.iaload, 1) := by decide +kernel
theorem dX12_returns_35 : decode cX12_returns 35 = .ok (.aload_n 0, 1) := by decide +kernel
theorem dX12_returns_36 : decode cX12_returns 36 = .ok (.getfield 125, 3) := by decide +kernel
theorem dX12_returns_39 : decode cX12_returns 39 = .ok (.bipush 51, 2) := by decide +kernel
theorem dX12_returns_41 : decode cX12_returns 41 = .ok (.iload_n 1, 1) := by decide +kernel
theorem dX12_returns_42 : decode cX12_returns 42 = .ok (.iadd, 1) := by decide +kernel
theorem dX12_returns_43 : decode cX12_returns 43 = .ok (.iaload, 1) := by decide +kernel
theorem dX12_returns_44 : decode cX12_returns 44 = .ok (.if_icmp .ne 5, 3) := by decide +kernel
theorem dX12_returns_47 : decode cX12_returns 47 = .ok (.iload_n 2, 1) := by decide +kernel
theorem dX12_returns_48 : decode cX12_returns 48 = .ok (.ireturn, 1) := by decide +kernel
theorem dX12_returns_49 : decode cX12_returns 49 = .ok (.iinc 2 1, 3) := by decide +kernel
theorem dX12_returns_52 : decode cX12_returns 52 = .ok (.goto (-36), 3) := by decide +kernel
theorem dX12_returns_55 : decode cX12_returns 55 = .ok (.bipush (-2), 2) := by decide +kernel
theorem dX12_returns_57 : decode cX12_returns 57 = .ok (.ireturn, 1) := by decide +kernel
theorem dX12_never_0 : decode cX12_never 0 = .ok (.iload_n 1, 1) := by decide +kernel
theorem dX12_never_1 : decode cX12_never 1 = .ok (.invokestatic 415, 3) := by decide +kernel
theorem dX12_never_4 : decode cX12_never 4 = .ok (.ifCond .ne 5, 3) := by decide +kernel
theorem dX12_never_7 : decode cX12_never 7 = .ok (.iconst (-1), 1) := by decide +kernel
theorem dX12_never_8 : decode cX12_never 8 = .ok (.ireturn, 1) := by decide +kernel
theorem dX12_never_9 : decode cX12_never 9 = .ok (.aload_n 0, 1) := by decide +kernel
theorem dX12_never_10 : decode cX12_never 10 = .ok (.invokevirtual 474, 3) := by decide +kernel
theorem dX12_never_13 : decode cX12_never 13 = .ok (.iconst 1, 1) := by decide +kernel
theorem dX12_never_14 : decode cX12_never 14 = .ok (.aload_n 0, 1) := by decide +kernel
theorem dX12_never_15 : decode cX12_never 15 = .ok (.invokevirtual 326, 3) := by decide +kernel
theorem dX12_never_18 : decode cX12_never 18 = .ok (.ishl, 1) := by decide +kernel
theorem dX12_never_19 : decode cX12_never 19 = .ok (.iconst 1, 1) := by decide +kernel
theorem dX12_never_20 : decode cX12_never 20 = .ok (.isub, 1) := by decide +kernel
theorem dX12_never_21 : decode cX12_never 21 = .ok (.aload_n 0, 1) := by decide +kernel
theorem dX12_never_22 : decode cX12_never 22 = .ok (.invokevirtual 477, 3) := by decide +kernel
theorem dX12_never_25 : decode cX12_never 25 = .ok (.iconst (-1), 1) := by decide +kernel
theorem dX12_never_26 : decode cX12_never 26 = .ok (.ixor, 1) := by decide +kernel
theorem dX12_never_27 : decode cX12_never 27 = .ok (.iand, 1) := by decide +kernel
theorem dX12_never_28 : decode cX12_never 28 = .ok (.istore_n 2, 1) := by decide +kernel
theorem dX12_never_29 : decode cX12_never 29 = .ok (.iconst 0, 1) := by decide +kernel
theorem dX12_never_30 : decode cX12_never 30 = .ok (.istore_n 3, 1) := by decide +kernel
theorem dX12_never_31 : decode cX12_never 31 = .ok (.iload_n 3, 1) := by decide +kernel
theorem dX12_never_32 : decode cX12_never 32 = .ok (.iload_n 1, 1) := by decide +kernel
theorem dX12_never_33 : decode cX12_never 33 = .ok (.if_icmp .ge 22, 3) := by decide +kernel
theorem dX12_never_36 : decode cX12_never 36 = .ok (.aload_n 0, 1) := by decide +kernel
theorem dX12_never_37 : decode cX12_never 37 = .ok (.invokevirtual 400, 3) := by decide +kernel
theorem dX12_never_40 : decode cX12_never 40 = .ok (.iload_n 2, 1) := by decide +kernel
theorem dX12_never_41 : decode cX12_never 41 = .ok (.aload_n 0, 1) := by decide +kernel
theorem dX12_never_42 : decode cX12_never 42 = .ok (.invokevirtual 477, 3) := by decide +kernel
theorem dX12_never_45 : decode cX12_never 45 = .ok (.iconst (-1), 1) := by decide +kernel
theorem dX12_never_46 : decode cX12_never 46 = .ok (.ixor, 1) := by decide +kernel
theorem dX12_never_47 : decode cX12_never 47 = .ok (.iand, 1) := by decide +kernel
theorem dX12_never_48 : decode cX12_never 48 = .ok (.istore_n 2, 1) := by decide +kernel
theorem dX12_never_49 : decode cX12_never 49 = .ok (.iinc 3 1, 3) := by decide +kernel
theorem dX12_never_52 : decode cX12_never 52 = .ok (.goto (-21), 3) := by decide +kernel
theorem dX12_never_55 : decode cX12_never 55 = .ok (.iload_n 2, 1) := by decide +kernel
theorem dX12_never_56 : decode cX12_never 56 = .ok (.ireturn, 1) := by decide +kernel
theorem dX12_stood_0 : decode cX12_stood 0 = .ok (.aload_n 0, 1) := by decide +kernel
theorem dX12_stood_1 : decode cX12_stood 1 = .ok (.iload_n 1, 1) := by decide +kernel
theorem dX12_stood_2 : decode cX12_stood 2 = .ok (.invokevirtual 409, 3) := by decide +kernel
theorem dX12_stood_5 : decode cX12_stood 5 = .ok (.ifCond .eq 18, 3) := by decide +kernel
theorem dX12_stood_8 : decode cX12_stood 8 = .ok (.aload_n 0, 1) := by decide +kernel
theorem dX12_stood_9 : decode cX12_stood 9 = .ok (.iload_n 2, 1) := by decide +kernel
theorem dX12_stood_10 : decode cX12_stood 10 = .ok (.invokevirtual 403, 3) := by decide +kernel
theorem dX12_stood_13 : decode cX12_stood 13 = .ok (.ifCond .eq 10, 3) := by decide +kernel
theorem dX12_stood_16 : decode cX12_stood 16 = .ok (.iload_n 3, 1) := by decide +kernel
theorem dX12_stood_17 : decode cX12_stood 17 = .ok (.invokestatic 415, 3) := by decide +kernel
theorem dX12_stood_20 : decode cX12_stood 20 = .ok (.ifCond .ne 5, 3) := by decide +kernel
theorem dX12_stood_23 : decode cX12_stood 23 = .ok (.iconst (-1), 1) := by decide +kernel
theorem dX12_stood_24 : decode cX12_stood 24 = .ok (.ireturn, 1) := by decide +kernel
theorem dX12_stood_25 : decode cX12_stood 25 = .ok (.aload_n 0, 1) := by decide +kernel
theorem dX12_stood_26 : decode cX12_stood 26 = .ok (.invokevirtual 474, 3) := by decide +kernel
theorem dX12_stood_29 : decode cX12_stood 29 = .ok (.iconst 0, 1) := by decide +kernel
theorem dX12_stood_30 : decode cX12_stood 30 = .ok (.istore 4, 2) := by decide +kernel
theorem dX12_stood_32 : decode cX12_stood 32 = .ok (.iconst 0, 1) := by decide +kernel
theorem dX12_stood_33 : decode cX12_stood 33 = .ok (.istore 5, 2) := by decide +kernel
theorem dX12_stood_35 : decode cX12_stood 35 = .ok (.iload 5, 2) := by decide +kernel
theorem dX12_stood_37 : decode cX12_stood 37 = .ok (.iload_n 3, 1) := by decide +kernel
theorem dX12_stood_38 : decode cX12_stood 38 = .ok (.if_icmp .gt 29, 3) := by decide +kernel
theorem dX12_stood_41 : decode cX12_stood 41 = .ok (.aload_n 0, 1) := by decide +kernel
theorem dX12_stood_42 : decode cX12_stood 42 = .ok (.getfield 128, 3) := by decide +kernel
theorem dX12_stood_45 : decode cX12_stood 45 = .ok (.bipush 51, 2) := by decide +kernel
theorem dX12_stood_47 : decode cX12_stood 47 = .ok (.iload_n 1, 1) := by decide +kernel
theorem dX12_stood_48 : decode cX12_stood 48 = .ok (.iadd, 1) := by decide +kernel
theorem dX12_stood_49 : decode cX12_stood 49 = .ok (.iaload, 1) := by decide +kernel
theorem dX12_stood_50 : decode cX12_stood 50 = .ok (.iload_n 2, 1) := by decide +kernel
theorem dX12_stood_51 : decode cX12_stood 51 = .ok (.if_icmp .ne 6, 3) := by decide +kernel
theorem dX12_stood_54 : decode cX12_stood 54 = .ok (.iinc 4 1, 3) := by decide +kernel
theorem dX12_stood_57 : decode cX12_stood 57 = .ok (.aload_n 0, 1) := by decide +kernel
theorem dX12_stood_58 : decode cX12_stood 58 = .ok (.invokevirtual 400, 3) := by decide +kernel
theorem dX12_stood_61 : decode cX12_stood 61 = .ok (.iinc 5 1, 3) := by decide +kernel
theorem dX12_stood_64 : decode cX12_stood 64 = .ok (.goto (-29), 3) := by decide +kernel
theorem dX12_stood_67 : decode cX12_stood 67 = .ok (.iload 4, 2) := by decide +kernel
theorem dX12_stood_69 : decode cX12_stood 69 = .ok (.ireturn, 1) := by decide +kernel
theorem dX12_unlike_0 : decode cX12_unlike 0 = .ok (.aload_n 0, 1) := by decide +kernel
theorem dX12_unlike_1 : decode cX12_unlike 1 = .ok (.getfield 43, 3) := by decide +kernel
theorem dX12_unlike_4 : decode cX12_unlike 4 = .ok (.aload_n 0, 1) := by decide +kernel
theorem dX12_unlike_5 : decode cX12_unlike 5 = .ok (.getfield 245, 3) := by decide +kernel
theorem dX12_unlike_8 : decode cX12_unlike 8 = .ok (.iaload, 1) := by decide +kernel
theorem dX12_unlike_9 : decode cX12_unlike 9 = .ok (.istore_n 3, 1) := by decide +kernel
theorem dX12_unlike_10 : decode cX12_unlike 10 = .ok (.aload_n 0, 1) := by decide +kernel
theorem dX12_unlike_11 : decode cX12_unlike 11 = .ok (.getfield 125, 3) := by decide +kernel
theorem dX12_unlike_14 : decode cX12_unlike 14 = .ok (.bipush 51, 2) := by decide +kernel
theorem dX12_unlike_16 : decode cX12_unlike 16 = .ok (.iload_n 1, 1) := by decide +kernel
theorem dX12_unlike_17 : decode cX12_unlike 17 = .ok (.iadd, 1) := by decide +kernel
theorem dX12_unlike_18 : decode cX12_unlike 18 = .ok (.iaload, 1) := by decide +kernel
theorem dX12_unlike_19 : decode cX12_unlike 19 = .ok (.iload_n 3, 1) := by decide +kernel
theorem dX12_unlike_20 : decode cX12_unlike 20 = .ok (.irem, 1) := by decide +kernel
theorem dX12_unlike_21 : decode cX12_unlike 21 = .ok (.aload_n 0, 1) := by decide +kernel
theorem dX12_unlike_22 : decode cX12_unlike 22 = .ok (.getfield 125, 3) := by decide +kernel
theorem dX12_unlike_25 : decode cX12_unlike 25 = .ok (.bipush 51, 2) := by decide +kernel
theorem dX12_unlike_27 : decode cX12_unlike 27 = .ok (.iload_n 2, 1) := by decide +kernel
theorem dX12_unlike_28 : decode cX12_unlike 28 = .ok (.iadd, 1) := by decide +kernel
theorem dX12_unlike_29 : decode cX12_unlike 29 = .ok (.iaload, 1) := by decide +kernel
theorem dX12_unlike_30 : decode cX12_unlike 30 = .ok (.iload_n 3, 1) := by decide +kernel
theorem dX12_unlike_31 : decode cX12_unlike 31 = .ok (.irem, 1) := by decide +kernel
theorem dX12_unlike_32 : decode cX12_unlike 32 = .ok (.invokestatic 480, 3) := by decide +kernel
theorem dX12_unlike_35 : decode cX12_unlike 35 = .ok (.aload_n 0, 1) := by decide +kernel
theorem dX12_unlike_36 : decode cX12_unlike 36 = .ok (.getfield 125, 3) := by decide +kernel
theorem dX12_unlike_39 : decode cX12_unlike 39 = .ok (.bipush 51, 2) := by decide +kernel
theorem dX12_unlike_41 : decode cX12_unlike 41 = .ok (.iload_n 1, 1) := by decide +kernel
theorem dX12_unlike_42 : decode cX12_unlike 42 = .ok (.iadd, 1) := by decide +kernel
theorem dX12_unlike_43 : decode cX12_unlike 43 = .ok (.iaload, 1) := by decide +kernel
theorem dX12_unlike_44 : decode cX12_unlike 44 = .ok (.iload_n 3, 1) := by decide +kernel
theorem dX12_unlike_45 : decode cX12_unlike 45 = .ok (.idiv, 1) := by decide +kernel
theorem dX12_unlike_46 : decode cX12_unlike 46 = .ok (.aload_n 0, 1) := by decide +kernel
theorem dX12_unlike_47 : decode cX12_unlike 47 = .ok (.getfield 125, 3) := by decide +kernel
theorem dX12_unlike_50 : decode cX12_unlike 50 = .ok (.bipush 51, 2) := by decide +kernel
theorem dX12_unlike_52 : decode cX12_unlike 52 = .ok (.iload_n 2, 1) := by decide +kernel
theorem dX12_unlike_53 : decode cX12_unlike 53 = .ok (.iadd, 1) := by decide +kernel
theorem dX12_unlike_54 : decode cX12_unlike 54 = .ok (.iaload, 1) := by decide +kernel
theorem dX12_unlike_55 : decode cX12_unlike 55 = .ok (.iload_n 3, 1) := by decide +kernel
theorem dX12_unlike_56 : decode cX12_unlike 56 = .ok (.idiv, 1) := by decide +kernel
theorem dX12_unlike_57 : decode cX12_unlike 57 = .ok (.invokestatic 480, 3) := by decide +kernel
theorem dX12_unlike_60 : decode cX12_unlike 60 = .ok (.iadd, 1) := by decide +kernel
theorem dX12_unlike_61 : decode cX12_unlike 61 = .ok (.ireturn, 1) := by decide +kernel
theorem dX12_pairedWith_0 : decode cX12_pairedWith 0 = .ok (.aload_n 0, 1) := by decide +kernel
theorem dX12_pairedWith_1 : decode cX12_pairedWith 1 = .ok (.iload_n 1, 1) := by decide +kernel
theorem dX12_pairedWith_2 : decode cX12_pairedWith 2 = .ok (.iload_n 2, 1) := by decide +kernel
