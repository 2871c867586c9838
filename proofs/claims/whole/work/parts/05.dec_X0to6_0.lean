theorem dX0_isKind_0 : decode cX0_isKind 0 = .ok (.iload_n 0, 1) := by decide +kernel
theorem dX0_isKind_1 : decode cX0_isKind 1 = .ok (.ifCond .lt 15, 3) := by decide +kernel
theorem dX0_isKind_4 : decode cX0_isKind 4 = .ok (.iload_n 0, 1) := by decide +kernel
theorem dX0_isKind_5 : decode cX0_isKind 5 = .ok (.getstatic 7, 3) := by decide +kernel
theorem dX0_isKind_8 : decode cX0_isKind 8 = .ok (.arraylength, 1) := by decide +kernel
theorem dX0_isKind_9 : decode cX0_isKind 9 = .ok (.if_icmp .ge 7, 3) := by decide +kernel
theorem dX0_isKind_12 : decode cX0_isKind 12 = .ok (.iconst 1, 1) := by decide +kernel
theorem dX0_isKind_13 : decode cX0_isKind 13 = .ok (.goto 4, 3) := by decide +kernel
theorem dX0_isKind_16 : decode cX0_isKind 16 = .ok (.iconst 0, 1) := by decide +kernel
theorem dX0_isKind_17 : decode cX0_isKind 17 = .ok (.ireturn, 1) := by decide +kernel
theorem dX0_above_0 : decode cX0_above 0 = .ok (.iload_n 0, 1) := by decide +kernel
theorem dX0_above_1 : decode cX0_above 1 = .ok (.invokestatic 13, 3) := by decide +kernel
theorem dX0_above_4 : decode cX0_above 4 = .ok (.ifCond .eq 11, 3) := by decide +kernel
theorem dX0_above_7 : decode cX0_above 7 = .ok (.getstatic 7, 3) := by decide +kernel
theorem dX0_above_10 : decode cX0_above 10 = .ok (.iload_n 0, 1) := by decide +kernel
theorem dX0_above_11 : decode cX0_above 11 = .ok (.iaload, 1) := by decide +kernel
theorem dX0_above_12 : decode cX0_above 12 = .ok (.goto 4, 3) := by decide +kernel
theorem dX0_above_15 : decode cX0_above 15 = .ok (.iconst (-1), 1) := by decide +kernel
theorem dX0_above_16 : decode cX0_above 16 = .ok (.ireturn, 1) := by decide +kernel
theorem dX0_isUnder_0 : decode cX0_isUnder 0 = .ok (.iload_n 0, 1) := by decide +kernel
theorem dX0_isUnder_1 : decode cX0_isUnder 1 = .ok (.istore_n 2, 1) := by decide +kernel
theorem dX0_isUnder_2 : decode cX0_isUnder 2 = .ok (.iconst 0, 1) := by decide +kernel
theorem dX0_isUnder_3 : decode cX0_isUnder 3 = .ok (.istore_n 3, 1) := by decide +kernel
theorem dX0_isUnder_4 : decode cX0_isUnder 4 = .ok (.iload_n 3, 1) := by decide +kernel
theorem dX0_isUnder_5 : decode cX0_isUnder 5 = .ok (.getstatic 7, 3) := by decide +kernel
theorem dX0_isUnder_8 : decode cX0_isUnder 8 = .ok (.arraylength, 1) := by decide +kernel
theorem dX0_isUnder_9 : decode cX0_isUnder 9 = .ok (.if_icmp .ge 19, 3) := by decide +kernel
theorem dX0_isUnder_12 : decode cX0_isUnder 12 = .ok (.iload_n 2, 1) := by decide +kernel
theorem dX0_isUnder_13 : decode cX0_isUnder 13 = .ok (.iload_n 1, 1) := by decide +kernel
theorem dX0_isUnder_14 : decode cX0_isUnder 14 = .ok (.if_icmp .eq 14, 3) := by decide +kernel
theorem dX0_isUnder_17 : decode cX0_isUnder 17 = .ok (.iload_n 2, 1) := by decide +kernel
theorem dX0_isUnder_18 : decode cX0_isUnder 18 = .ok (.invokestatic 17, 3) := by decide +kernel
theorem dX0_isUnder_21 : decode cX0_isUnder 21 = .ok (.istore_n 2, 1) := by decide +kernel
theorem dX0_isUnder_22 : decode cX0_isUnder 22 = .ok (.iinc 3 1, 3) := by decide +kernel
theorem dX0_isUnder_25 : decode cX0_isUnder 25 = .ok (.goto (-21), 3) := by decide +kernel
theorem dX0_isUnder_28 : decode cX0_isUnder 28 = .ok (.iload_n 2, 1) := by decide +kernel
theorem dX0_isUnder_29 : decode cX0_isUnder 29 = .ok (.iload_n 1, 1) := by decide +kernel
theorem dX0_isUnder_30 : decode cX0_isUnder 30 = .ok (.if_icmp .ne 7, 3) := by decide +kernel
theorem dX0_isUnder_33 : decode cX0_isUnder 33 = .ok (.iconst 1, 1) := by decide +kernel
theorem dX0_isUnder_34 : decode cX0_isUnder 34 = .ok (.goto 4, 3) := by decide +kernel
theorem dX0_isUnder_37 : decode cX0_isUnder 37 = .ok (.iconst 0, 1) := by decide +kernel
theorem dX0_isUnder_38 : decode cX0_isUnder 38 = .ok (.ireturn, 1) := by decide +kernel
theorem dX0_least_0 : decode cX0_least 0 = .ok (.iload_n 2, 1) := by decide +kernel
theorem dX0_least_1 : decode cX0_least 1 = .ok (.iconst 3, 1) := by decide +kernel
theorem dX0_least_2 : decode cX0_least 2 = .ok (.irem, 1) := by decide +kernel
theorem dX0_least_3 : decode cX0_least 3 = .ok (.ifCond .ne 8, 3) := by decide +kernel
theorem dX0_least_6 : decode cX0_least 6 = .ok (.bipush 30, 2) := by decide +kernel
theorem dX0_least_8 : decode cX0_least 8 = .ok (.goto 5, 3) := by decide +kernel
theorem dX0_least_11 : decode cX0_least 11 = .ok (.bipush 40, 2) := by decide +kernel
theorem dX0_least_13 : decode cX0_least 13 = .ok (.istore_n 3, 1) := by decide +kernel
theorem dX0_least_14 : decode cX0_least 14 = .ok (.iload_n 0, 1) := by decide +kernel
theorem dX0_least_15 : decode cX0_least 15 = .ok (.tableswitch 61 1 6 #[37, 44, 47, 49, 52, 57], 37) := by decide +kernel
theorem dX0_least_52 : decode cX0_least 52 = .ok (.bipush 40, 2) := by decide +kernel
theorem dX0_least_54 : decode cX0_least 54 = .ok (.iconst 2, 1) := by decide +kernel
theorem dX0_least_55 : decode cX0_least 55 = .ok (.iload_n 1, 1) := by decide +kernel
theorem dX0_least_56 : decode cX0_least 56 = .ok (.imul, 1) := by decide +kernel
theorem dX0_least_57 : decode cX0_least 57 = .ok (.iadd, 1) := by decide +kernel
theorem dX0_least_58 : decode cX0_least 58 = .ok (.ireturn, 1) := by decide +kernel
theorem dX0_least_59 : decode cX0_least 59 = .ok (.bipush 20, 2) := by decide +kernel
theorem dX0_least_61 : decode cX0_least 61 = .ok (.ireturn, 1) := by decide +kernel
theorem dX0_least_62 : decode cX0_least 62 = .ok (.iload_n 3, 1) := by decide +kernel
theorem dX0_least_63 : decode cX0_least 63 = .ok (.ireturn, 1) := by decide +kernel
theorem dX0_least_64 : decode cX0_least 64 = .ok (.bipush 100, 2) := by decide +kernel
theorem dX0_least_66 : decode cX0_least 66 = .ok (.ireturn, 1) := by decide +kernel
theorem dX0_least_67 : decode cX0_least 67 = .ok (.bipush 20, 2) := by decide +kernel
theorem dX0_least_69 : decode cX0_least 69 = .ok (.iload_n 1, 1) := by decide +kernel
theorem dX0_least_70 : decode cX0_least 70 = .ok (.isub, 1) := by decide +kernel
theorem dX0_least_71 : decode cX0_least 71 = .ok (.ireturn, 1) := by decide +kernel
theorem dX0_least_72 : decode cX0_least 72 = .ok (.iload_n 3, 1) := by decide +kernel
theorem dX0_least_73 : decode cX0_least 73 = .ok (.iload_n 1, 1) := by decide +kernel
theorem dX0_least_74 : decode cX0_least 74 = .ok (.iadd, 1) := by decide +kernel
theorem dX0_least_75 : decode cX0_least 75 = .ok (.ireturn, 1) := by decide +kernel
theorem dX0_least_76 : decode cX0_least 76 = .ok (.bipush 40, 2) := by decide +kernel
theorem dX0_least_78 : decode cX0_least 78 = .ok (.ireturn, 1) := by decide +kernel
theorem dX0_most_0 : decode cX0_most 0 = .ok (.iload_n 0, 1) := by decide +kernel
theorem dX0_most_1 : decode cX0_most 1 = .ok (.tableswitch 50 1 6 #[39, 50, 50, 39, 43, 46], 39) := by decide +kernel
theorem dX0_most_40 : decode cX0_most 40 = .ok (.sipush 300, 3) := by decide +kernel
theorem dX0_most_43 : decode cX0_most 43 = .ok (.ireturn, 1) := by decide +kernel
theorem dX0_most_44 : decode cX0_most 44 = .ok (.bipush 60, 2) := by decide +kernel
theorem dX0_most_46 : decode cX0_most 46 = .ok (.ireturn, 1) := by decide +kernel
theorem dX0_most_47 : decode cX0_most 47 = .ok (.sipush 150, 3) := by decide +kernel
theorem dX0_most_50 : decode cX0_most 50 = .ok (.ireturn, 1) := by decide +kernel
theorem dX0_most_51 : decode cX0_most 51 = .ok (.sipush 200, 3) := by decide +kernel
theorem dX0_most_54 : decode cX0_most 54 = .ok (.ireturn, 1) := by decide +kernel
theorem dX0_takes_0 : decode cX0_takes 0 = .ok (.iload_n 0, 1) := by decide +kernel
theorem dX0_takes_1 : decode cX0_takes 1 = .ok (.tableswitch 48 1 5 #[35, 38, 48, 40, 42], 35) := by decide +kernel
theorem dX0_takes_36 : decode cX0_takes 36 = .ok (.bipush 6, 2) := by decide +kernel
theorem dX0_takes_38 : decode cX0_takes 38 = .ok (.ireturn, 1) := by decide +kernel
theorem dX0_takes_39 : decode cX0_takes 39 = .ok (.iconst 1, 1) := by decide +kernel
theorem dX0_takes_40 : decode cX0_takes 40 = .ok (.ireturn, 1) := by decide +kernel
theorem dX0_takes_41 : decode cX0_takes 41 = .ok (.iconst 0, 1) := by decide +kernel
theorem dX0_takes_42 : decode cX0_takes 42 = .ok (.ireturn, 1) := by decide +kernel
theorem dX0_takes_43 : decode cX0_takes 43 = .ok (.iconst 1, 1) := by decide +kernel
theorem dX0_takes_44 : decode cX0_takes 44 = .ok (.iload_n 1, 1) := by decide +kernel
theorem dX0_takes_45 : decode cX0_takes 45 = .ok (.iconst 5, 1) := by decide +kernel
theorem dX0_takes_46 : decode cX0_takes 46 = .ok (.irem, 1) := by decide +kernel
theorem dX0_takes_47 : decode cX0_takes 47 = .ok (.iadd, 1) := by decide +kernel
theorem dX0_takes_48 : decode cX0_takes 48 = .ok (.ireturn, 1) := by decide +kernel
theorem dX0_takes_49 : decode cX0_takes 49 = .ok (.iconst 2, 1) := by decide +kernel
theorem dX0_takes_50 : decode cX0_takes 50 = .ok (.ireturn, 1) := by decide +kernel
theorem dX1_init_0 : decode cX1_init 0 = .ok (.aload_n 0, 1) := by decide +kernel
theorem dX1_init_1 : decode cX1_init 1 = .ok (.invokespecial 3, 3) := by decide +kernel
theorem dX1_init_4 : decode cX1_init 4 = .ok (.aload_n 0, 1) := by decide +kernel
theorem dX1_init_5 : decode cX1_init 5 = .ok (.new 9, 3) := by decide +kernel
theorem dX1_init_8 : decode cX1_init 8 = .ok (.dup, 1) := by decide +kernel
theorem dX1_init_9 : decode cX1_init 9 = .ok (.bipush 50, 2) := by decide +kernel
theorem dX1_init_11 : decode cX1_init 11 = .ok (.invokespecial 11, 3) := by decide +kernel
theorem dX1_init_14 : decode cX1_init 14 = .ok (.putfield 14, 3) := by decide +kernel
theorem dX1_init_17 : decode cX1_init 17 = .ok (.aload_n 0, 1) := by decide +kernel
theorem dX1_init_18 : decode cX1_init 18 = .ok (.bipush 50, 2) := by decide +kernel
theorem dX1_init_20 : decode cX1_init 20 = .ok (.newarray .int, 2) := by decide +kernel
theorem dX1_init_22 : decode cX1_init 22 = .ok (.putfield 20, 3) := by decide +kernel
theorem dX1_init_25 : decode cX1_init 25 = .ok (.aload_n 0, 1) := by decide +kernel
theorem dX1_init_26 : decode cX1_init 26 = .ok (.iload_n 1, 1) := by decide +kernel
theorem dX1_init_27 : decode cX1_init 27 = .ok (.putfield 24, 3) := by decide +kernel
theorem dX1_init_30 : decode cX1_init 30 = .ok (.return_, 1) := by decide +kernel
theorem dX1_gives_0 : decode cX1_gives 0 = .ok (.aload_n 0, 1) := by decide +kernel
theorem dX1_gives_1 : decode cX1_gives 1 = .ok (.getfield 24, 3) := by decide +kernel
theorem dX1_gives_4 : decode cX1_gives 4 = .ok (.ifCond .ne 8, 3) := by decide +kernel
theorem dX1_gives_7 : decode cX1_gives 7 = .ok (.bipush 20, 2) := by decide +kernel
theorem dX1_gives_9 : decode cX1_gives 9 = .ok (.goto 6, 3) := by decide +kernel
theorem dX1_gives_12 : decode cX1_gives 12 = .ok (.iload_n 1, 1) := by decide +kernel
theorem dX1_gives_13 : decode cX1_gives 13 = .ok (.iconst 3, 1) := by decide +kernel
theorem dX1_gives_14 : decode cX1_gives 14 = .ok (.idiv, 1) := by decide +kernel
theorem dX1_gives_15 : decode cX1_gives 15 = .ok (.istore 4, 2) := by decide +kernel
theorem dX1_gives_17 : decode cX1_gives 17 = .ok (.aload_n 0, 1) := by decide +kernel
theorem dX1_gives_18 : decode cX1_gives 18 = .ok (.getfield 14, 3) := by decide +kernel
theorem dX1_gives_21 : decode cX1_gives 21 = .ok (.getfield 28, 3) := by decide +kernel
theorem dX1_gives_24 : decode cX1_gives 24 = .ok (.ifCond .le 12, 3) := by decide +kernel
theorem dX1_gives_27 : decode cX1_gives 27 = .ok (.aload_n 0, 1) := by decide +kernel
theorem dX1_gives_28 : decode cX1_gives 28 = .ok (.iload_n 1, 1) := by decide +kernel
theorem dX1_gives_29 : decode cX1_gives 29 = .ok (.iload_n 2, 1) := by decide +kernel
theorem dX1_gives_30 : decode cX1_gives 30 = .ok (.iload_n 3, 1) := by decide +kernel
theorem dX1_gives_31 : decode cX1_gives 31 = .ok (.invokevirtual 31, 3) := by decide +kernel
theorem dX1_gives_34 : decode cX1_gives 34 = .ok (.istore 4, 2) := by decide +kernel
theorem dX1_gives_36 : decode cX1_gives 36 = .ok (.iconst 0, 1) := by decide +kernel
theorem dX1_gives_37 : decode cX1_gives 37 = .ok (.iload 4, 2) := by decide +kernel
theorem dX1_gives_39 : decode cX1_gives 39 = .ok (.aload_n 0, 1) := by decide +kernel
theorem dX1_gives_40 : decode cX1_gives 40 = .ok (.getfield 24, 3) := by decide +kernel
theorem dX1_gives_43 : decode cX1_gives 43 = .ok (.ifCond .ne 8, 3) := by decide +kernel
theorem dX1_gives_46 : decode cX1_gives 46 = .ok (.bipush 99, 2) := by decide +kernel
theorem dX1_gives_48 : decode cX1_gives 48 = .ok (.goto 6, 3) := by decide +kernel
theorem dX1_gives_51 : decode cX1_gives 51 = .ok (.sipush 999, 3) := by decide +kernel
theorem dX1_gives_54 : decode cX1_gives 54 = .ok (.invokestatic 35, 3) := by decide +kernel
theorem dX1_gives_57 : decode cX1_gives 57 = .ok (.invokestatic 41, 3) := by decide +kernel
theorem dX1_gives_60 : decode cX1_gives 60 = .ok (.ireturn, 1) := by decide +kernel
theorem dX1_worth_0 : decode cX1_worth 0 = .ok (.iconst 0, 1) := by decide +kernel
theorem dX1_worth_1 : decode cX1_worth 1 = .ok (.istore 4, 2) := by decide +kernel
theorem dX1_worth_3 : decode cX1_worth 3 = .ok (.iconst 0, 1) := by decide +kernel
theorem dX1_worth_4 : decode cX1_worth 4 = .ok (.istore 5, 2) := by decide +kernel
theorem dX1_worth_6 : decode cX1_worth 6 = .ok (.iload 5, 2) := by decide +kernel
theorem dX1_worth_8 : decode cX1_worth 8 = .ok (.aload_n 0, 1) := by decide +kernel
theorem dX1_worth_9 : decode cX1_worth 9 = .ok (.getfield 14, 3) := by decide +kernel
theorem dX1_worth_12 : decode cX1_worth 12 = .ok (.getfield 28, 3) := by decide +kernel
theorem dX1_worth_15 : decode cX1_worth 15 = .ok (.if_icmp .ge 191, 3) := by decide +kernel
theorem dX1_worth_18 : decode cX1_worth 18 = .ok (.iload 5, 2) := by decide +kernel
theorem dX1_worth_20 : decode cX1_worth 20 = .ok (.aload_n 0, 1) := by decide +kernel
theorem dX1_worth_21 : decode cX1_worth 21 = .ok (.getfield 14, 3) := by decide +kernel
theorem dX1_worth_24 : decode cX1_worth 24 = .ok (.getfield 44, 3) := by decide +kernel
theorem dX1_worth_27 : decode cX1_worth 27 = .ok (.arraylength, 1) := by decide +kernel
theorem dX1_worth_28 : decode cX1_worth 28 = .ok (.if_icmp .ge 178, 3) := by decide +kernel
theorem dX1_worth_31 : decode cX1_worth 31 = .ok (.aload_n 0, 1) := by decide +kernel
theorem dX1_worth_32 : decode cX1_worth 32 = .ok (.getfield 14, 3) := by decide +kernel
theorem dX1_worth_35 : decode cX1_worth 35 = .ok (.getfield 44, 3) := by decide +kernel
theorem dX1_worth_38 : decode cX1_worth 38 = .ok (.iload 5, 2) := by decide +kernel
theorem dX1_worth_40 : decode cX1_worth 40 = .ok (.iaload, 1) := by decide +kernel
theorem dX1_worth_41 : decode cX1_worth 41 = .ok (.istore 6, 2) := by decide +kernel
theorem dX1_worth_43 : decode cX1_worth 43 = .ok (.iload 6, 2) := by decide +kernel
theorem dX1_worth_45 : decode cX1_worth 45 = .ok (.sipush 20000, 3) := by decide +kernel
theorem dX1_worth_48 : decode cX1_worth 48 = .ok (.if_icmp .ge 64, 3) := by decide +kernel
theorem dX1_worth_51 : decode cX1_worth 51 = .ok (.iload 4, 2) := by decide +kernel
theorem dX1_worth_53 : decode cX1_worth 53 = .ok (.aload_n 0, 1) := by decide +kernel
theorem dX1_worth_54 : decode cX1_worth 54 = .ok (.getfield 20, 3) := by decide +kernel
theorem dX1_worth_57 : decode cX1_worth 57 = .ok (.arraylength, 1) := by decide +kernel
theorem dX1_worth_58 : decode cX1_worth 58 = .ok (.if_icmp .ge 54, 3) := by decide +kernel
theorem dX1_worth_61 : decode cX1_worth 61 = .ok (.aload_n 0, 1) := by decide +kernel
theorem dX1_worth_62 : decode cX1_worth 62 = .ok (.getfield 20, 3) := by decide +kernel
theorem dX1_worth_65 : decode cX1_worth 65 = .ok (.iload 4, 2) := by decide +kernel
theorem dX1_worth_67 : decode cX1_worth 67 = .ok (.iload 6, 2) := by decide +kernel
theorem dX1_worth_69 : decode cX1_worth 69 = .ok (.sipush 10000, 3) := by decide +kernel
theorem dX1_worth_72 : decode cX1_worth 72 = .ok (.if_icmp .ge 8, 3) := by decide +kernel
theorem dX1_worth_75 : decode cX1_worth 75 = .ok (.iload 6, 2) := by decide +kernel
theorem dX1_worth_77 : decode cX1_worth 77 = .ok (.goto 28, 3) := by decide +kernel
theorem dX1_worth_80 : decode cX1_worth 80 = .ok (.iload 6, 2) := by decide +kernel
theorem dX1_worth_82 : decode cX1_worth 82 = .ok (.sipush 10000, 3) := by decide +kernel
theorem dX1_worth_85 : decode cX1_worth 85 = .ok (.if_icmp .ne 7, 3) := by decide +kernel
theorem dX1_worth_88 : decode cX1_worth 88 = .ok (.iload_n 1, 1) := by decide +kernel
theorem dX1_worth_89 : decode cX1_worth 89 = .ok (.goto 16, 3) := by decide +kernel
theorem dX1_worth_92 : decode cX1_worth 92 = .ok (.iload 6, 2) := by decide +kernel
theorem dX1_worth_94 : decode cX1_worth 94 = .ok (.sipush 10001, 3) := by decide +kernel
theorem dX1_worth_97 : decode cX1_worth 97 = .ok (.if_icmp .ne 7, 3) := by decide +kernel
theorem dX1_worth_100 : decode cX1_worth 100 = .ok (.iload_n 2, 1) := by decide +kernel
theorem dX1_worth_101 : decode cX1_worth 101 = .ok (.goto 4, 3) := by decide +kernel
theorem dX1_worth_104 : decode cX1_worth 104 = .ok (.iload_n 3, 1) := by decide +kernel
theorem dX1_worth_105 : decode cX1_worth 105 = .ok (.iastore, 1) := by decide +kernel
theorem dX1_worth_106 : decode cX1_worth 106 = .ok (.iinc 4 1, 3) := by decide +kernel
theorem dX1_worth_109 : decode cX1_worth 109 = .ok (.goto 91, 3) := by decide +kernel
theorem dX1_worth_112 : decode cX1_worth 112 = .ok (.iload 6, 2) := by decide +kernel
theorem dX1_worth_114 : decode cX1_worth 114 = .ok (.sipush 20033, 3) := by decide +kernel
theorem dX1_worth_117 : decode cX1_worth 117 = .ok (.if_icmp .ne 38, 3) := by decide +kernel
theorem dX1_worth_120 : decode cX1_worth 120 = .ok (.iload 4, 2) := by decide +kernel
theorem dX1_worth_122 : decode cX1_worth 122 = .ok (.iconst 1, 1) := by decide +kernel
theorem dX1_worth_123 : decode cX1_worth 123 = .ok (.if_icmp .lt 32, 3) := by decide +kernel
theorem dX1_worth_126 : decode cX1_worth 126 = .ok (.aload_n 0, 1) := by decide +kernel
theorem dX1_worth_127 : decode cX1_worth 127 = .ok (.getfield 20, 3) := by decide +kernel
theorem dX1_worth_130 : decode cX1_worth 130 = .ok (.iload 4, 2) := by decide +kernel
theorem dX1_worth_132 : decode cX1_worth 132 = .ok (.iconst 1, 1) := by decide +kernel
theorem dX1_worth_133 : decode cX1_worth 133 = .ok (.isub, 1) := by decide +kernel
theorem dX1_worth_134 : decode cX1_worth 134 = .ok (.aload_n 0, 1) := by decide +kernel
theorem dX1_worth_135 : decode cX1_worth 135 = .ok (.getfield 20, 3) := by decide +kernel
theorem dX1_worth_138 : decode cX1_worth 138 = .ok (.iload 4, 2) := by decide +kernel
theorem dX1_worth_140 : decode cX1_worth 140 = .ok (.iconst 1, 1) := by decide +kernel
theorem dX1_worth_141 : decode cX1_worth 141 = .ok (.isub, 1) := by decide +kernel
theorem dX1_worth_142 : decode cX1_worth 142 = .ok (.iaload, 1) := by decide +kernel
theorem dX1_worth_143 : decode cX1_worth 143 = .ok (.ifCond .ne 7, 3) := by decide +kernel
theorem dX1_worth_146 : decode cX1_worth 146 = .ok (.iconst 1, 1) := by decide +kernel
theorem dX1_worth_147 : decode cX1_worth 147 = .ok (.goto 4, 3) := by decide +kernel
theorem dX1_worth_150 : decode cX1_worth 150 = .ok (.iconst 0, 1) := by decide +kernel
theorem dX1_worth_151 : decode cX1_worth 151 = .ok (.iastore, 1) := by decide +kernel
theorem dX1_worth_152 : decode cX1_worth 152 = .ok (.goto 48, 3) := by decide +kernel
theorem dX1_worth_155 : decode cX1_worth 155 = .ok (.iload 4, 2) := by decide +kernel
theorem dX1_worth_157 : decode cX1_worth 157 = .ok (.iconst 2, 1) := by decide +kernel
theorem dX1_worth_158 : decode cX1_worth 158 = .ok (.if_icmp .lt 42, 3) := by decide +kernel
theorem dX1_worth_161 : decode cX1_worth 161 = .ok (.aload_n 0, 1) := by decide +kernel
theorem dX1_worth_162 : decode cX1_worth 162 = .ok (.getfield 20, 3) := by decide +kernel
theorem dX1_worth_165 : decode cX1_worth 165 = .ok (.iload 4, 2) := by decide +kernel
theorem dX1_worth_167 : decode cX1_worth 167 = .ok (.iconst 2, 1) := by decide +kernel
theorem dX1_worth_168 : decode cX1_worth 168 = .ok (.isub, 1) := by decide +kernel
theorem dX1_worth_169 : decode cX1_worth 169 = .ok (.iload 6, 2) := by decide +kernel
theorem dX1_worth_171 : decode cX1_worth 171 = .ok (.sipush 20000, 3) := by decide +kernel
theorem dX1_worth_174 : decode cX1_worth 174 = .ok (.isub, 1) := by decide +kernel
theorem dX1_worth_175 : decode cX1_worth 175 = .ok (.aload_n 0, 1) := by decide +kernel
theorem dX1_worth_176 : decode cX1_worth 176 = .ok (.getfield 20, 3) := by decide +kernel
theorem dX1_worth_179 : decode cX1_worth 179 = .ok (.iload 4, 2) := by decide +kernel
theorem dX1_worth_181 : decode cX1_worth 181 = .ok (.iconst 2, 1) := by decide +kernel
theorem dX1_worth_182 : decode cX1_worth 182 = .ok (.isub, 1) := by decide +kernel
theorem dX1_worth_183 : decode cX1_worth 183 = .ok (.iaload, 1) := by decide +kernel
theorem dX1_worth_184 : decode cX1_worth 184 = .ok (.aload_n 0, 1) := by decide +kernel
theorem dX1_worth_185 : decode cX1_worth 185 = .ok (.getfield 20, 3) := by decide +kernel
theorem dX1_worth_188 : decode cX1_worth 188 = .ok (.iload 4, 2) := by decide +kernel
theorem dX1_worth_190 : decode cX1_worth 190 = .ok (.iconst 1, 1) := by decide +kernel
theorem dX1_worth_191 : decode cX1_worth 191 = .ok (.isub, 1) := by decide +kernel
theorem dX1_worth_192 : decode cX1_worth 192 = .ok (.iaload, 1) := by decide +kernel
theorem dX1_worth_193 : decode cX1_worth 193 = .ok (.invokestatic 47, 3) := by decide +kernel
theorem dX1_worth_196 : decode cX1_worth 196 = .ok (.iastore, 1) := by decide +kernel
theorem dX1_worth_197 : decode cX1_worth 197 = .ok (.iinc 4 (-1), 3) := by decide +kernel
theorem dX1_worth_200 : decode cX1_worth 200 = .ok (.iinc 5 1, 3) := by decide +kernel
theorem dX1_worth_203 : decode cX1_worth 203 = .ok (.goto (-197), 3) := by decide +kernel
theorem dX1_worth_206 : decode cX1_worth 206 = .ok (.aload_n 0, 1) := by decide +kernel
theorem dX1_worth_207 : decode cX1_worth 207 = .ok (.getfield 20, 3) := by decide +kernel
theorem dX1_worth_210 : decode cX1_worth 210 = .ok (.iconst 0, 1) := by decide +kernel
theorem dX1_worth_211 : decode cX1_worth 211 = .ok (.iaload, 1) := by decide +kernel
theorem dX1_worth_212 : decode cX1_worth 212 = .ok (.ireturn, 1) := by decide +kernel
theorem dX1_works_0 : decode cX1_works 0 = .ok (.iload_n 0, 1) := by decide +kernel
theorem dX1_works_1 : decode cX1_works 1 = .ok (.lookupswitch 168 #[(38, 97), (42, 152), (43, 144), (45, 148), (47, 156), (60, 111), (61, 122), (62, 133), (124, 83)], 83) := by decide +kernel
theorem dX1_works_84 : decode cX1_works 84 = .ok (.iload_n 1, 1) := by decide +kernel
theorem dX1_works_85 : decode cX1_works 85 = .ok (.ifCond .ne 7, 3) := by decide +kernel
theorem dX1_works_88 : decode cX1_works 88 = .ok (.iload_n 2, 1) := by decide +kernel
theorem dX1_works_89 : decode cX1_works 89 = .ok (.ifCond .eq 7, 3) := by decide +kernel
theorem dX1_works_92 : decode cX1_works 92 = .ok (.iconst 1, 1) := by decide +kernel
theorem dX1_works_93 : decode cX1_works 93 = .ok (.goto 4, 3) := by decide +kernel
theorem dX1_works_96 : decode cX1_works 96 = .ok (.iconst 0, 1) := by decide +kernel
theorem dX1_works_97 : decode cX1_works 97 = .ok (.ireturn, 1) := by decide +kernel
theorem dX1_works_98 : decode cX1_works 98 = .ok (.iload_n 1, 1) := by decide +kernel
theorem dX1_works_99 : decode cX1_works 99 = .ok (.ifCond .eq 11, 3) := by decide +kernel
theorem dX1_works_102 : decode cX1_works 102 = .ok (.iload_n 2, 1) := by decide +kernel
theorem dX1_works_103 : decode cX1_works 103 = .ok (.ifCond .eq 7, 3) := by decide +kernel
theorem dX1_works_106 : decode cX1_works 106 = .ok (.iconst 1, 1) := by decide +kernel
theorem dX1_works_107 : decode cX1_works 107 = .ok (.goto 4, 3) := by decide +kernel
theorem dX1_works_110 : decode cX1_works 110 = .ok (.iconst 0, 1) := by decide +kernel
theorem dX1_works_111 : decode cX1_works 111 = .ok (.ireturn, 1) := by decide +kernel
theorem dX1_works_112 : decode cX1_works 112 = .ok (.iload_n 1, 1) := by decide +kernel
theorem dX1_works_113 : decode cX1_works 113 = .ok (.iload_n 2, 1) := by decide +kernel
theorem dX1_works_114 : decode cX1_works 114 = .ok (.if_icmp .ge 7, 3) := by decide +kernel
theorem dX1_works_117 : decode cX1_works 117 = .ok (.iconst 1, 1) := by decide +kernel
theorem dX1_works_118 : decode cX1_works 118 = .ok (.goto 4, 3) := by decide +kernel
theorem dX1_works_121 : decode cX1_works 121 = .ok (.iconst 0, 1) := by decide +kernel
theorem dX1_works_122 : decode cX1_works 122 = .ok (.ireturn, 1) := by decide +kernel
theorem dX1_works_123 : decode cX1_works 123 = .ok (.iload_n 1, 1) := by decide +kernel
theorem dX1_works_124 : decode cX1_works 124 = .ok (.iload_n 2, 1) := by decide +kernel
theorem dX1_works_125 : decode cX1_works 125 = .ok (.if_icmp .ne 7, 3) := by decide +kernel
theorem dX1_works_128 : decode cX1_works 128 = .ok (.iconst 1, 1) := by decide +kernel
theorem dX1_works_129 : decode cX1_works 129 = .ok (.goto 4, 3) := by decide +kernel
theorem dX1_works_132 : decode cX1_works 132 = .ok (.iconst 0, 1) := by decide +kernel
theorem dX1_works_133 : decode cX1_works 133 = .ok (.ireturn, 1) := by decide +kernel
theorem dX1_works_134 : decode cX1_works 134 = .ok (.iload_n 1, 1) := by decide +kernel
theorem dX1_works_135 : decode cX1_works 135 = .ok (.iload_n 2, 1) := by decide +kernel
theorem dX1_works_136 : decode cX1_works 136 = .ok (.if_icmp .le 7, 3) := by decide +kernel
theorem dX1_works_139 : decode cX1_works 139 = .ok (.iconst 1, 1) := by decide +kernel
theorem dX1_works_140 : decode cX1_works 140 = .ok (.goto 4, 3) := by decide +kernel
theorem dX1_works_143 : decode cX1_works 143 = .ok (.iconst 0, 1) := by decide +kernel
theorem dX1_works_144 : decode cX1_works 144 = .ok (.ireturn, 1) := by decide +kernel
theorem dX1_works_145 : decode cX1_works 145 = .ok (.iload_n 1, 1) := by decide +kernel
theorem dX1_works_146 : decode cX1_works 146 = .ok (.iload_n 2, 1) := by decide +kernel
theorem dX1_works_147 : decode cX1_works 147 = .ok (.iadd, 1) := by decide +kernel
theorem dX1_works_148 : decode cX1_works 148 = .ok (.ireturn, 1) := by decide +kernel
theorem dX1_works_149 : decode cX1_works 149 = .ok (.iload_n 1, 1) := by decide +kernel
theorem dX1_works_150 : decode cX1_works 150 = .ok (.iload_n 2, 1) := by decide +kernel
theorem dX1_works_151 : decode cX1_works 151 = .ok (.isub, 1) := by decide +kernel
theorem dX1_works_152 : decode cX1_works 152 = .ok (.ireturn, 1) := by decide +kernel
theorem dX1_works_153 : decode cX1_works 153 = .ok (.iload_n 1, 1) := by decide +kernel
theorem dX1_works_154 : decode cX1_works 154 = .ok (.iload_n 2, 1) := by decide +kernel
theorem dX1_works_155 : decode cX1_works 155 = .ok (.imul, 1) := by decide +kernel
theorem dX1_works_156 : decode cX1_works 156 = .ok (.ireturn, 1) := by decide +kernel
theorem dX1_works_157 : decode cX1_works 157 = .ok (.iload_n 2, 1) := by decide +kernel
theorem dX1_works_158 : decode cX1_works 158 = .ok (.ifCond .ne 7, 3) := by decide +kernel
theorem dX1_works_161 : decode cX1_works 161 = .ok (.iconst 0, 1) := by decide +kernel
theorem dX1_works_162 : decode cX1_works 162 = .ok (.goto 6, 3) := by decide +kernel
theorem dX1_works_165 : decode cX1_works 165 = .ok (.iload_n 1, 1) := by decide +kernel
theorem dX1_works_166 : decode cX1_works 166 = .ok (.iload_n 2, 1) := by decide +kernel
theorem dX1_works_167 : decode cX1_works 167 = .ok (.idiv, 1) := by decide +kernel
theorem dX1_works_168 : decode cX1_works 168 = .ok (.ireturn, 1) := by decide +kernel
theorem dX1_works_169 : decode cX1_works 169 = .ok (.iload_n 2, 1) := by decide +kernel
theorem dX1_works_170 : decode cX1_works 170 = .ok (.ifCond .ne 7, 3) := by decide +kernel
theorem dX1_works_173 : decode cX1_works 173 = .ok (.iconst 0, 1) := by decide +kernel
theorem dX1_works_174 : decode cX1_works 174 = .ok (.goto 6, 3) := by decide +kernel
theorem dX1_works_177 : decode cX1_works 177 = .ok (.iload_n 1, 1) := by decide +kernel
theorem dX1_works_178 : decode cX1_works 178 = .ok (.iload_n 2, 1) := by decide +kernel
theorem dX1_works_179 : decode cX1_works 179 = .ok (.irem, 1) := by decide +kernel
theorem dX1_works_180 : decode cX1_works 180 = .ok (.ireturn, 1) := by decide +kernel
theorem dX2_init_0 : decode cX2_init 0 = .ok (.aload_n 0, 1) := by decide +kernel
theorem dX2_init_1 : decode cX2_init 1 = .ok (.invokespecial 3, 3) := by decide +kernel
theorem dX2_init_4 : decode cX2_init 4 = .ok (.aload_n 0, 1) := by decide +kernel
theorem dX2_init_5 : decode cX2_init 5 = .ok (.new 9, 3) := by decide +kernel
theorem dX2_init_8 : decode cX2_init 8 = .ok (.dup, 1) := by decide +kernel
theorem dX2_init_9 : decode cX2_init 9 = .ok (.bipush 50, 2) := by decide +kernel
theorem dX2_init_11 : decode cX2_init 11 = .ok (.invokespecial 11, 3) := by decide +kernel
theorem dX2_init_14 : decode cX2_init 14 = .ok (.putfield 14, 3) := by decide +kernel
theorem dX2_init_17 : decode cX2_init 17 = .ok (.aload_n 0, 1) := by decide +kernel
theorem dX2_init_18 : decode cX2_init 18 = .ok (.new 9, 3) := by decide +kernel
theorem dX2_init_21 : decode cX2_init 21 = .ok (.dup, 1) := by decide +kernel
theorem dX2_init_22 : decode cX2_init 22 = .ok (.bipush 50, 2) := by decide +kernel
theorem dX2_init_24 : decode cX2_init 24 = .ok (.invokespecial 11, 3) := by decide +kernel
theorem dX2_init_27 : decode cX2_init 27 = .ok (.putfield 20, 3) := by decide +kernel
theorem dX2_init_30 : decode cX2_init 30 = .ok (.aload_n 0, 1) := by decide +kernel
theorem dX2_init_31 : decode cX2_init 31 = .ok (.ldc 23, 2) := by decide +kernel
theorem dX2_init_33 : decode cX2_init 33 = .ok (.putfield 25, 3) := by decide +kernel
theorem dX2_init_36 : decode cX2_init 36 = .ok (.return_, 1) := by decide +kernel
theorem dX2_reads_0 : decode cX2_reads 0 = .ok (.aload_n 0, 1) := by decide +kernel
theorem dX2_reads_1 : decode cX2_reads 1 = .ok (.getfield 20, 3) := by decide +kernel
theorem dX2_reads_4 : decode cX2_reads 4 = .ok (.aload_n 1, 1) := by decide +kernel
theorem dX2_reads_5 : decode cX2_reads 5 = .ok (.invokevirtual 29, 3) := by decide +kernel
theorem dX2_reads_8 : decode cX2_reads 8 = .ok (.aload_n 0, 1) := by decide +kernel
theorem dX2_reads_9 : decode cX2_reads 9 = .ok (.aload_n 2, 1) := by decide +kernel
theorem dX2_reads_10 : decode cX2_reads 10 = .ok (.putfield 25, 3) := by decide +kernel
theorem dX2_reads_13 : decode cX2_reads 13 = .ok (.aload_n 0, 1) := by decide +kernel
theorem dX2_reads_14 : decode cX2_reads 14 = .ok (.getfield 14, 3) := by decide +kernel
theorem dX2_reads_17 : decode cX2_reads 17 = .ok (.iconst 0, 1) := by decide +kernel
theorem dX2_reads_18 : decode cX2_reads 18 = .ok (.putfield 33, 3) := by decide +kernel
theorem dX2_reads_21 : decode cX2_reads 21 = .ok (.aload_n 0, 1) := by decide +kernel
theorem dX2_reads_22 : decode cX2_reads 22 = .ok (.iconst 0, 1) := by decide +kernel
theorem dX2_reads_23 : decode cX2_reads 23 = .ok (.putfield 37, 3) := by decide +kernel
theorem dX2_reads_26 : decode cX2_reads 26 = .ok (.aload_n 0, 1) := by decide +kernel
theorem dX2_reads_27 : decode cX2_reads 27 = .ok (.iconst 0, 1) := by decide +kernel
theorem dX2_reads_28 : decode cX2_reads 28 = .ok (.iconst 0, 1) := by decide +kernel
theorem dX2_reads_29 : decode cX2_reads 29 = .ok (.invokevirtual 40, 3) := by decide +kernel
theorem dX2_reads_32 : decode cX2_reads 32 = .ok (.ifCond .eq 21, 3) := by decide +kernel
theorem dX2_reads_35 : decode cX2_reads 35 = .ok (.aload_n 0, 1) := by decide +kernel
theorem dX2_reads_36 : decode cX2_reads 36 = .ok (.getfield 37, 3) := by decide +kernel
theorem dX2_reads_39 : decode cX2_reads 39 = .ok (.aload_n 0, 1) := by decide +kernel
theorem dX2_reads_40 : decode cX2_reads 40 = .ok (.getfield 20, 3) := by decide +kernel
theorem dX2_reads_43 : decode cX2_reads 43 = .ok (.getfield 33, 3) := by decide +kernel
theorem dX2_reads_46 : decode cX2_reads 46 = .ok (.if_icmp .ne 7, 3) := by decide +kernel
theorem dX2_reads_49 : decode cX2_reads 49 = .ok (.iconst 1, 1) := by decide +kernel
theorem dX2_reads_50 : decode cX2_reads 50 = .ok (.goto 4, 3) := by decide +kernel
theorem dX2_reads_53 : decode cX2_reads 53 = .ok (.iconst 0, 1) := by decide +kernel
theorem dX2_reads_54 : decode cX2_reads 54 = .ok (.ireturn, 1) := by decide +kernel
theorem dX2_readsLevel_0 : decode cX2_readsLevel 0 = .ok (.iload_n 1, 1) := by decide +kernel
theorem dX2_readsLevel_1 : decode cX2_readsLevel 1 = .ok (.iconst 5, 1) := by decide +kernel
theorem dX2_readsLevel_2 : decode cX2_readsLevel 2 = .ok (.if_icmp .lt 9, 3) := by decide +kernel
theorem dX2_readsLevel_5 : decode cX2_readsLevel 5 = .ok (.aload_n 0, 1) := by decide +kernel
theorem dX2_readsLevel_6 : decode cX2_readsLevel 6 = .ok (.iload_n 2, 1) := by decide +kernel
theorem dX2_readsLevel_7 : decode cX2_readsLevel 7 = .ok (.invokevirtual 44, 3) := by decide +kernel
theorem dX2_readsLevel_10 : decode cX2_readsLevel 10 = .ok (.ireturn, 1) := by decide +kernel
theorem dX2_readsLevel_11 : decode cX2_readsLevel 11 = .ok (.aload_n 0, 1) := by decide +kernel
theorem dX2_readsLevel_12 : decode cX2_readsLevel 12 = .ok (.iload_n 1, 1) := by decide +kernel
theorem dX2_readsLevel_13 : decode cX2_readsLevel 13 = .ok (.iconst 1, 1) := by decide +kernel
theorem dX2_readsLevel_14 : decode cX2_readsLevel 14 = .ok (.iadd, 1) := by decide +kernel
theorem dX2_readsLevel_15 : decode cX2_readsLevel 15 = .ok (.iload_n 2, 1) := by decide +kernel
theorem dX2_readsLevel_16 : decode cX2_readsLevel 16 = .ok (.invokevirtual 40, 3) := by decide +kernel
theorem dX2_readsLevel_19 : decode cX2_readsLevel 19 = .ok (.ifCond .ne 5, 3) := by decide +kernel
theorem dX2_readsLevel_22 : decode cX2_readsLevel 22 = .ok (.iconst 0, 1) := by decide +kernel
theorem dX2_readsLevel_23 : decode cX2_readsLevel 23 = .ok (.ireturn, 1) := by decide +kernel
theorem dX2_readsLevel_24 : decode cX2_readsLevel 24 = .ok (.iload_n 1, 1) := by decide +kernel
theorem dX2_readsLevel_25 : decode cX2_readsLevel 25 = .ok (.iconst 2, 1) := by decide +kernel
theorem dX2_readsLevel_26 : decode cX2_readsLevel 26 = .ok (.if_icmp .ne 7, 3) := by decide +kernel
theorem dX2_readsLevel_29 : decode cX2_readsLevel 29 = .ok (.iconst 1, 1) := by decide +kernel
theorem dX2_readsLevel_30 : decode cX2_readsLevel 30 = .ok (.goto 5, 3) := by decide +kernel
theorem dX2_readsLevel_33 : decode cX2_readsLevel 33 = .ok (.bipush 50, 2) := by decide +kernel
theorem dX2_readsLevel_35 : decode cX2_readsLevel 35 = .ok (.istore_n 3, 1) := by decide +kernel
theorem dX2_readsLevel_36 : decode cX2_readsLevel 36 = .ok (.iconst 0, 1) := by decide +kernel
theorem dX2_readsLevel_37 : decode cX2_readsLevel 37 = .ok (.istore 4, 2) := by decide +kernel
theorem dX2_readsLevel_39 : decode cX2_readsLevel 39 = .ok (.iload 4, 2) := by decide +kernel
theorem dX2_readsLevel_41 : decode cX2_readsLevel 41 = .ok (.iload_n 3, 1) := by decide +kernel
theorem dX2_readsLevel_42 : decode cX2_readsLevel 42 = .ok (.if_icmp .ge 63, 3) := by decide +kernel
theorem dX2_readsLevel_45 : decode cX2_readsLevel 45 = .ok (.aload_n 0, 1) := by decide +kernel
theorem dX2_readsLevel_46 : decode cX2_readsLevel 46 = .ok (.invokevirtual 48, 3) := by decide +kernel
theorem dX2_readsLevel_49 : decode cX2_readsLevel 49 = .ok (.invokestatic 52, 3) := by decide +kernel
theorem dX2_readsLevel_52 : decode cX2_readsLevel 52 = .ok (.iload_n 1, 1) := by decide +kernel
theorem dX2_readsLevel_53 : decode cX2_readsLevel 53 = .ok (.if_icmp .ne 52, 3) := by decide +kernel
theorem dX2_readsLevel_56 : decode cX2_readsLevel 56 = .ok (.aload_n 0, 1) := by decide +kernel
theorem dX2_readsLevel_57 : decode cX2_readsLevel 57 = .ok (.invokevirtual 48, 3) := by decide +kernel
theorem dX2_readsLevel_60 : decode cX2_readsLevel 60 = .ok (.istore 5, 2) := by decide +kernel
theorem dX2_readsLevel_62 : decode cX2_readsLevel 62 = .ok (.aload_n 0, 1) := by decide +kernel
theorem dX2_readsLevel_63 : decode cX2_readsLevel 63 = .ok (.dup, 1) := by decide +kernel
theorem dX2_readsLevel_64 : decode cX2_readsLevel 64 = .ok (.getfield 37, 3) := by decide +kernel
theorem dX2_readsLevel_67 : decode cX2_readsLevel 67 = .ok (.iconst 1, 1) := by decide +kernel
theorem dX2_readsLevel_68 : decode cX2_readsLevel 68 = .ok (.iadd, 1) := by decide +kernel
theorem dX2_readsLevel_69 : decode cX2_readsLevel 69 = .ok (.putfield 37, 3) := by decide +kernel
theorem dX2_readsLevel_72 : decode cX2_readsLevel 72 = .ok (.aload_n 0, 1) := by decide +kernel
theorem dX2_readsLevel_73 : decode cX2_readsLevel 73 = .ok (.iload_n 1, 1) := by decide +kernel
theorem dX2_readsLevel_74 : decode cX2_readsLevel 74 = .ok (.iconst 1, 1) := by decide +kernel
theorem dX2_readsLevel_75 : decode cX2_readsLevel 75 = .ok (.iadd, 1) := by decide +kernel
theorem dX2_readsLevel_76 : decode cX2_readsLevel 76 = .ok (.iload_n 2, 1) := by decide +kernel
theorem dX2_readsLevel_77 : decode cX2_readsLevel 77 = .ok (.invokevirtual 40, 3) := by decide +kernel
theorem dX2_readsLevel_80 : decode cX2_readsLevel 80 = .ok (.ifCond .ne 5, 3) := by decide +kernel
theorem dX2_readsLevel_83 : decode cX2_readsLevel 83 = .ok (.iconst 0, 1) := by decide +kernel
theorem dX2_readsLevel_84 : decode cX2_readsLevel 84 = .ok (.ireturn, 1) := by decide +kernel
theorem dX2_readsLevel_85 : decode cX2_readsLevel 85 = .ok (.aload_n 0, 1) := by decide +kernel
theorem dX2_readsLevel_86 : decode cX2_readsLevel 86 = .ok (.getfield 14, 3) := by decide +kernel
theorem dX2_readsLevel_89 : decode cX2_readsLevel 89 = .ok (.sipush 20000, 3) := by decide +kernel
theorem dX2_readsLevel_92 : decode cX2_readsLevel 92 = .ok (.iload 5, 2) := by decide +kernel
theorem dX2_readsLevel_94 : decode cX2_readsLevel 94 = .ok (.iadd, 1) := by decide +kernel
theorem dX2_readsLevel_95 : decode cX2_readsLevel 95 = .ok (.invokevirtual 58, 3) := by decide +kernel
theorem dX2_readsLevel_98 : decode cX2_readsLevel 98 = .ok (.pop, 1) := by decide +kernel
theorem dX2_readsLevel_99 : decode cX2_readsLevel 99 = .ok (.iinc 4 1, 3) := by decide +kernel
theorem dX2_readsLevel_102 : decode cX2_readsLevel 102 = .ok (.goto (-63), 3) := by decide +kernel
theorem dX2_readsLevel_105 : decode cX2_readsLevel 105 = .ok (.iconst 1, 1) := by decide +kernel
theorem dX2_readsLevel_106 : decode cX2_readsLevel 106 = .ok (.ireturn, 1) := by decide +kernel
theorem dX2_readsPart_0 : decode cX2_readsPart 0 = .ok (.aload_n 0, 1) := by decide +kernel
theorem dX2_readsPart_1 : decode cX2_readsPart 1 = .ok (.invokevirtual 48, 3) := by decide +kernel
theorem dX2_readsPart_4 : decode cX2_readsPart 4 = .ok (.istore_n 2, 1) := by decide +kernel
theorem dX2_readsPart_5 : decode cX2_readsPart 5 = .ok (.iload_n 2, 1) := by decide +kernel
theorem dX2_readsPart_6 : decode cX2_readsPart 6 = .ok (.bipush 48, 2) := by decide +kernel
theorem dX2_readsPart_8 : decode cX2_readsPart 8 = .ok (.if_icmp .lt 15, 3) := by decide +kernel
theorem dX2_readsPart_11 : decode cX2_readsPart 11 = .ok (.iload_n 2, 1) := by decide +kernel
theorem dX2_readsPart_12 : decode cX2_readsPart 12 = .ok (.bipush 57, 2) := by decide +kernel
theorem dX2_readsPart_14 : decode cX2_readsPart 14 = .ok (.if_icmp .gt 9, 3) := by decide +kernel
theorem dX2_readsPart_17 : decode cX2_readsPart 17 = .ok (.aload_n 0, 1) := by decide +kernel
theorem dX2_readsPart_18 : decode cX2_readsPart 18 = .ok (.invokevirtual 61, 3) := by decide +kernel
theorem dX2_readsPart_21 : decode cX2_readsPart 21 = .ok (.iconst 1, 1) := by decide +kernel
theorem dX2_readsPart_22 : decode cX2_readsPart 22 = .ok (.ireturn, 1) := by decide +kernel
theorem dX2_readsPart_23 : decode cX2_readsPart 23 = .ok (.iload_n 2, 1) := by decide +kernel
theorem dX2_readsPart_24 : decode cX2_readsPart 24 = .ok (.bipush 33, 2) := by decide +kernel
theorem dX2_readsPart_26 : decode cX2_readsPart 26 = .ok (.if_icmp .eq 15, 3) := by decide +kernel
theorem dX2_readsPart_29 : decode cX2_readsPart 29 = .ok (.iload_n 2, 1) := by decide +kernel
theorem dX2_readsPart_30 : decode cX2_readsPart 30 = .ok (.bipush 40, 2) := by decide +kernel
theorem dX2_readsPart_32 : decode cX2_readsPart 32 = .ok (.if_icmp .eq 9, 3) := by decide +kernel
theorem dX2_readsPart_35 : decode cX2_readsPart 35 = .ok (.aload_n 0, 1) := by decide +kernel
theorem dX2_readsPart_36 : decode cX2_readsPart 36 = .ok (.iload_n 2, 1) := by decide +kernel
theorem dX2_readsPart_37 : decode cX2_readsPart 37 = .ok (.invokevirtual 64, 3) := by decide +kernel
theorem dX2_readsPart_40 : decode cX2_readsPart 40 = .ok (.ireturn, 1) := by decide +kernel
theorem dX2_readsPart_41 : decode cX2_readsPart 41 = .ok (.iload_n 1, 1) := by decide +kernel
theorem dX2_readsPart_42 : decode cX2_readsPart 42 = .ok (.iconst 5, 1) := by decide +kernel
theorem dX2_readsPart_43 : decode cX2_readsPart 43 = .ok (.if_icmp .lt 5, 3) := by decide +kernel
theorem dX2_readsPart_46 : decode cX2_readsPart 46 = .ok (.iconst 0, 1) := by decide +kernel
theorem dX2_readsPart_47 : decode cX2_readsPart 47 = .ok (.ireturn, 1) := by decide +kernel
theorem dX2_readsPart_48 : decode cX2_readsPart 48 = .ok (.aload_n 0, 1) := by decide +kernel
theorem dX2_readsPart_49 : decode cX2_readsPart 49 = .ok (.dup, 1) := by decide +kernel
theorem dX2_readsPart_50 : decode cX2_readsPart 50 = .ok (.getfield 37, 3) := by decide +kernel
theorem dX2_readsPart_53 : decode cX2_readsPart 53 = .ok (.iconst 1, 1) := by decide +kernel
theorem dX2_readsPart_54 : decode cX2_readsPart 54 = .ok (.iadd, 1) := by decide +kernel
theorem dX2_readsPart_55 : decode cX2_readsPart 55 = .ok (.putfield 37, 3) := by decide +kernel
theorem dX2_readsPart_58 : decode cX2_readsPart 58 = .ok (.iload_n 2, 1) := by decide +kernel
theorem dX2_readsPart_59 : decode cX2_readsPart 59 = .ok (.bipush 33, 2) := by decide +kernel
theorem dX2_readsPart_61 : decode cX2_readsPart 61 = .ok (.if_icmp .ne 32, 3) := by decide +kernel
theorem dX2_readsPart_64 : decode cX2_readsPart 64 = .ok (.aload_n 0, 1) := by decide +kernel
theorem dX2_readsPart_65 : decode cX2_readsPart 65 = .ok (.iload_n 1, 1) := by decide +kernel
theorem dX2_readsPart_66 : decode cX2_readsPart 66 = .ok (.iconst 1, 1) := by decide +kernel
theorem dX2_readsPart_67 : decode cX2_readsPart 67 = .ok (.iadd, 1) := by decide +kernel
theorem dX2_readsPart_68 : decode cX2_readsPart 68 = .ok (.invokevirtual 44, 3) := by decide +kernel
theorem dX2_readsPart_71 : decode cX2_readsPart 71 = .ok (.ifCond .eq 20, 3) := by decide +kernel
theorem dX2_readsPart_74 : decode cX2_readsPart 74 = .ok (.aload_n 0, 1) := by decide +kernel
theorem dX2_readsPart_75 : decode cX2_readsPart 75 = .ok (.getfield 14, 3) := by decide +kernel
theorem dX2_readsPart_78 : decode cX2_readsPart 78 = .ok (.sipush 20033, 3) := by decide +kernel
theorem dX2_readsPart_81 : decode cX2_readsPart 81 = .ok (.invokevirtual 58, 3) := by decide +kernel
theorem dX2_readsPart_84 : decode cX2_readsPart 84 = .ok (.ifCond .eq 7, 3) := by decide +kernel
theorem dX2_readsPart_87 : decode cX2_readsPart 87 = .ok (.iconst 1, 1) := by decide +kernel
theorem dX2_readsPart_88 : decode cX2_readsPart 88 = .ok (.goto 4, 3) := by decide +kernel
theorem dX2_readsPart_91 : decode cX2_readsPart 91 = .ok (.iconst 0, 1) := by decide +kernel
theorem dX2_readsPart_92 : decode cX2_readsPart 92 = .ok (.ireturn, 1) := by decide +kernel
theorem dX2_readsPart_93 : decode cX2_readsPart 93 = .ok (.aload_n 0, 1) := by decide +kernel
theorem dX2_readsPart_94 : decode cX2_readsPart 94 = .ok (.iconst 0, 1) := by decide +kernel
theorem dX2_readsPart_95 : decode cX2_readsPart 95 = .ok (.iload_n 1, 1) := by decide +kernel
theorem dX2_readsPart_96 : decode cX2_readsPart 96 = .ok (.iconst 1, 1) := by decide +kernel
theorem dX2_readsPart_97 : decode cX2_readsPart 97 = .ok (.iadd, 1) := by decide +kernel
theorem dX2_readsPart_98 : decode cX2_readsPart 98 = .ok (.invokevirtual 40, 3) := by decide +kernel
theorem dX2_readsPart_101 : decode cX2_readsPart 101 = .ok (.ifCond .eq 12, 3) := by decide +kernel
theorem dX2_readsPart_104 : decode cX2_readsPart 104 = .ok (.aload_n 0, 1) := by decide +kernel
theorem dX2_readsPart_105 : decode cX2_readsPart 105 = .ok (.invokevirtual 48, 3) := by decide +kernel
theorem dX2_readsPart_108 : decode cX2_readsPart 108 = .ok (.bipush 41, 2) := by decide +kernel
theorem dX2_readsPart_110 : decode cX2_readsPart 110 = .ok (.if_icmp .eq 5, 3) := by decide +kernel
theorem dX2_readsPart_113 : decode cX2_readsPart 113 = .ok (.iconst 0, 1) := by decide +kernel
theorem dX2_readsPart_114 : decode cX2_readsPart 114 = .ok (.ireturn, 1) := by decide +kernel
theorem dX2_readsPart_115 : decode cX2_readsPart 115 = .ok (.aload_n 0, 1) := by decide +kernel
theorem dX2_readsPart_116 : decode cX2_readsPart 116 = .ok (.dup, 1) := by decide +kernel
theorem dX2_readsPart_117 : decode cX2_readsPart 117 = .ok (.getfield 37, 3) := by decide +kernel
theorem dX2_readsPart_120 : decode cX2_readsPart 120 = .ok (.iconst 1, 1) := by decide +kernel
theorem dX2_readsPart_121 : decode cX2_readsPart 121 = .ok (.iadd, 1) := by decide +kernel
theorem dX2_readsPart_122 : decode cX2_readsPart 122 = .ok (.putfield 37, 3) := by decide +kernel
theorem dX2_readsPart_125 : decode cX2_readsPart 125 = .ok (.iconst 1, 1) := by decide +kernel
theorem dX2_readsPart_126 : decode cX2_readsPart 126 = .ok (.ireturn, 1) := by decide +kernel
theorem dX2_readNumber_0 : decode cX2_readNumber 0 = .ok (.iconst 0, 1) := by decide +kernel
theorem dX2_readNumber_1 : decode cX2_readNumber 1 = .ok (.istore_n 1, 1) := by decide +kernel
theorem dX2_readNumber_2 : decode cX2_readNumber 2 = .ok (.iconst 0, 1) := by decide +kernel
theorem dX2_readNumber_3 : decode cX2_readNumber 3 = .ok (.istore_n 2, 1) := by decide +kernel
theorem dX2_readNumber_4 : decode cX2_readNumber 4 = .ok (.iload_n 2, 1) := by decide +kernel
theorem dX2_readNumber_5 : decode cX2_readNumber 5 = .ok (.iconst 4, 1) := by decide +kernel
theorem dX2_readNumber_6 : decode cX2_readNumber 6 = .ok (.if_icmp .ge 50, 3) := by decide +kernel
theorem dX2_readNumber_9 : decode cX2_readNumber 9 = .ok (.aload_n 0, 1) := by decide +kernel
theorem dX2_readNumber_10 : decode cX2_readNumber 10 = .ok (.invokevirtual 48, 3) := by decide +kernel
theorem dX2_readNumber_13 : decode cX2_readNumber 13 = .ok (.bipush 48, 2) := by decide +kernel
theorem dX2_readNumber_15 : decode cX2_readNumber 15 = .ok (.if_icmp .lt 41, 3) := by decide +kernel
theorem dX2_readNumber_18 : decode cX2_readNumber 18 = .ok (.aload_n 0, 1) := by decide +kernel
theorem dX2_readNumber_19 : decode cX2_readNumber 19 = .ok (.invokevirtual 48, 3) := by decide +kernel
theorem dX2_readNumber_22 : decode cX2_readNumber 22 = .ok (.bipush 57, 2) := by decide +kernel
theorem dX2_readNumber_24 : decode cX2_readNumber 24 = .ok (.if_icmp .gt 32, 3) := by decide +kernel
theorem dX2_readNumber_27 : decode cX2_readNumber 27 = .ok (.iload_n 1, 1) := by decide +kernel
theorem dX2_readNumber_28 : decode cX2_readNumber 28 = .ok (.bipush 10, 2) := by decide +kernel
theorem dX2_readNumber_30 : decode cX2_readNumber 30 = .ok (.imul, 1) := by decide +kernel
theorem dX2_readNumber_31 : decode cX2_readNumber 31 = .ok (.aload_n 0, 1) := by decide +kernel
theorem dX2_readNumber_32 : decode cX2_readNumber 32 = .ok (.invokevirtual 48, 3) := by decide +kernel
theorem dX2_readNumber_35 : decode cX2_readNumber 35 = .ok (.iadd, 1) := by decide +kernel
theorem dX2_readNumber_36 : decode cX2_readNumber 36 = .ok (.bipush 48, 2) := by decide +kernel
theorem dX2_readNumber_38 : decode cX2_readNumber 38 = .ok (.isub, 1) := by decide +kernel
theorem dX2_readNumber_39 : decode cX2_readNumber 39 = .ok (.istore_n 1, 1) := by decide +kernel
theorem dX2_readNumber_40 : decode cX2_readNumber 40 = .ok (.aload_n 0, 1) := by decide +kernel
theorem dX2_readNumber_41 : decode cX2_readNumber 41 = .ok (.dup, 1) := by decide +kernel
theorem dX2_readNumber_42 : decode cX2_readNumber 42 = .ok (.getfield 37, 3) := by decide +kernel
theorem dX2_readNumber_45 : decode cX2_readNumber 45 = .ok (.iconst 1, 1) := by decide +kernel
theorem dX2_readNumber_46 : decode cX2_readNumber 46 = .ok (.iadd, 1) := by decide +kernel
theorem dX2_readNumber_47 : decode cX2_readNumber 47 = .ok (.putfield 37, 3) := by decide +kernel
theorem dX2_readNumber_50 : decode cX2_readNumber 50 = .ok (.iinc 2 1, 3) := by decide +kernel
theorem dX2_readNumber_53 : decode cX2_readNumber 53 = .ok (.goto (-49), 3) := by decide +kernel
theorem dX2_readNumber_56 : decode cX2_readNumber 56 = .ok (.aload_n 0, 1) := by decide +kernel
theorem dX2_readNumber_57 : decode cX2_readNumber 57 = .ok (.getfield 14, 3) := by decide +kernel
theorem dX2_readNumber_60 : decode cX2_readNumber 60 = .ok (.iload_n 1, 1) := by decide +kernel
theorem dX2_readNumber_61 : decode cX2_readNumber 61 = .ok (.invokevirtual 58, 3) := by decide +kernel
theorem dX2_readNumber_64 : decode cX2_readNumber 64 = .ok (.pop, 1) := by decide +kernel
theorem dX2_readNumber_65 : decode cX2_readNumber 65 = .ok (.return_, 1) := by decide +kernel
theorem dX2_readsName_0 : decode cX2_readsName 0 = .ok (.iconst 0, 1) := by decide +kernel
theorem dX2_readsName_1 : decode cX2_readsName 1 = .ok (.istore_n 2, 1) := by decide +kernel
theorem dX2_readsName_2 : decode cX2_readsName 2 = .ok (.iload_n 2, 1) := by decide +kernel
theorem dX2_readsName_3 : decode cX2_readsName 3 = .ok (.aload_n 0, 1) := by decide +kernel
theorem dX2_readsName_4 : decode cX2_readsName 4 = .ok (.getfield 25, 3) := by decide +kernel
theorem dX2_readsName_7 : decode cX2_readsName 7 = .ok (.invokevirtual 67, 3) := by decide +kernel
theorem dX2_readsName_10 : decode cX2_readsName 10 = .ok (.if_icmp .ge 46, 3) := by decide +kernel
theorem dX2_readsName_13 : decode cX2_readsName 13 = .ok (.aload_n 0, 1) := by decide +kernel
theorem dX2_readsName_14 : decode cX2_readsName 14 = .ok (.getfield 25, 3) := by decide +kernel
theorem dX2_readsName_17 : decode cX2_readsName 17 = .ok (.iload_n 2, 1) := by decide +kernel
theorem dX2_readsName_18 : decode cX2_readsName 18 = .ok (.invokevirtual 72, 3) := by decide +kernel
theorem dX2_readsName_21 : decode cX2_readsName 21 = .ok (.iload_n 1, 1) := by decide +kernel
theorem dX2_readsName_22 : decode cX2_readsName 22 = .ok (.if_icmp .ne 28, 3) := by decide +kernel
theorem dX2_readsName_25 : decode cX2_readsName 25 = .ok (.aload_n 0, 1) := by decide +kernel
theorem dX2_readsName_26 : decode cX2_readsName 26 = .ok (.getfield 14, 3) := by decide +kernel
theorem dX2_readsName_29 : decode cX2_readsName 29 = .ok (.sipush 10000, 3) := by decide +kernel
theorem dX2_readsName_32 : decode cX2_readsName 32 = .ok (.iload_n 2, 1) := by decide +kernel
theorem dX2_readsName_33 : decode cX2_readsName 33 = .ok (.iadd, 1) := by decide +kernel
theorem dX2_readsName_34 : decode cX2_readsName 34 = .ok (.invokevirtual 58, 3) := by decide +kernel
theorem dX2_readsName_37 : decode cX2_readsName 37 = .ok (.pop, 1) := by decide +kernel
theorem dX2_readsName_38 : decode cX2_readsName 38 = .ok (.aload_n 0, 1) := by decide +kernel
theorem dX2_readsName_39 : decode cX2_readsName 39 = .ok (.dup, 1) := by decide +kernel
theorem dX2_readsName_40 : decode cX2_readsName 40 = .ok (.getfield 37, 3) := by decide +kernel
theorem dX2_readsName_43 : decode cX2_readsName 43 = .ok (.iconst 1, 1) := by decide +kernel
theorem dX2_readsName_44 : decode cX2_readsName 44 = .ok (.iadd, 1) := by decide +kernel
theorem dX2_readsName_45 : decode cX2_readsName 45 = .ok (.putfield 37, 3) := by decide +kernel
theorem dX2_readsName_48 : decode cX2_readsName 48 = .ok (.iconst 1, 1) := by decide +kernel
theorem dX2_readsName_49 : decode cX2_readsName 49 = .ok (.ireturn, 1) := by decide +kernel
theorem dX2_readsName_50 : decode cX2_readsName 50 = .ok (.iinc 2 1, 3) := by decide +kernel
theorem dX2_readsName_53 : decode cX2_readsName 53 = .ok (.goto (-51), 3) := by decide +kernel
theorem dX2_readsName_56 : decode cX2_readsName 56 = .ok (.iconst 0, 1) := by decide +kernel
theorem dX2_readsName_57 : decode cX2_readsName 57 = .ok (.ireturn, 1) := by decide +kernel
theorem dX2_next_0 : decode cX2_next 0 = .ok (.aload_n 0, 1) := by decide +kernel
theorem dX2_next_1 : decode cX2_next 1 = .ok (.getfield 20, 3) := by decide +kernel
theorem dX2_next_4 : decode cX2_next 4 = .ok (.aload_n 0, 1) := by decide +kernel
theorem dX2_next_5 : decode cX2_next 5 = .ok (.getfield 37, 3) := by decide +kernel
theorem dX2_next_8 : decode cX2_next 8 = .ok (.invokevirtual 76, 3) := by decide +kernel
theorem dX2_next_11 : decode cX2_next 11 = .ok (.ifCond .eq 18, 3) := by decide +kernel
theorem dX2_next_14 : decode cX2_next 14 = .ok (.aload_n 0, 1) := by decide +kernel
theorem dX2_next_15 : decode cX2_next 15 = .ok (.getfield 20, 3) := by decide +kernel
theorem dX2_next_18 : decode cX2_next 18 = .ok (.getfield 79, 3) := by decide +kernel
theorem dX2_next_21 : decode cX2_next 21 = .ok (.aload_n 0, 1) := by decide +kernel
theorem dX2_next_22 : decode cX2_next 22 = .ok (.getfield 37, 3) := by decide +kernel
theorem dX2_next_25 : decode cX2_next 25 = .ok (.iaload, 1) := by decide +kernel
theorem dX2_next_26 : decode cX2_next 26 = .ok (.goto 4, 3) := by decide +kernel
theorem dX2_next_29 : decode cX2_next 29 = .ok (.iconst (-1), 1) := by decide +kernel
theorem dX2_next_30 : decode cX2_next 30 = .ok (.ireturn, 1) := by decide +kernel
theorem dX2_levelOf_0 : decode cX2_levelOf 0 = .ok (.iload_n 0, 1) := by decide +kernel
theorem dX2_levelOf_1 : decode cX2_levelOf 1 = .ok (.lookupswitch 101 #[(37, 99), (38, 93), (42, 99), (43, 97), (45, 97), (47, 99), (60, 95), (61, 95), (62, 95), (124, 91)], 91) := by decide +kernel
theorem dX2_levelOf_92 : decode cX2_levelOf 92 = .ok (.iconst 0, 1) := by decide +kernel
theorem dX2_levelOf_93 : decode cX2_levelOf 93 = .ok (.ireturn, 1) := by decide +kernel
theorem dX2_levelOf_94 : decode cX2_levelOf 94 = .ok (.iconst 1, 1) := by decide +kernel
theorem dX2_levelOf_95 : decode cX2_levelOf 95 = .ok (.ireturn, 1) := by decide +kernel
theorem dX2_levelOf_96 : decode cX2_levelOf 96 = .ok (.iconst 2, 1) := by decide +kernel
theorem dX2_levelOf_97 : decode cX2_levelOf 97 = .ok (.ireturn, 1) := by decide +kernel
theorem dX2_levelOf_98 : decode cX2_levelOf 98 = .ok (.iconst 3, 1) := by decide +kernel
theorem dX2_levelOf_99 : decode cX2_levelOf 99 = .ok (.ireturn, 1) := by decide +kernel
theorem dX2_levelOf_100 : decode cX2_levelOf 100 = .ok (.iconst 4, 1) := by decide +kernel
theorem dX2_levelOf_101 : decode cX2_levelOf 101 = .ok (.ireturn, 1) := by decide +kernel
theorem dX2_levelOf_102 : decode cX2_levelOf 102 = .ok (.iconst (-1), 1) := by decide +kernel
theorem dX2_levelOf_103 : decode cX2_levelOf 103 = .ok (.ireturn, 1) := by decide +kernel
theorem dX3_init_0 : decode cX3_init 0 = .ok (.aload_n 0, 1) := by decide +kernel
theorem dX3_init_1 : decode cX3_init 1 = .ok (.invokespecial 1, 3) := by decide +kernel
theorem dX3_init_4 : decode cX3_init 4 = .ok (.aload_n 0, 1) := by decide +kernel
theorem dX3_init_5 : decode cX3_init 5 = .ok (.iload_n 1, 1) := by decide +kernel
theorem dX3_init_6 : decode cX3_init 6 = .ok (.iconst 0, 1) := by decide +kernel
theorem dX3_init_7 : decode cX3_init 7 = .ok (.invokestatic 7, 3) := by decide +kernel
theorem dX3_init_10 : decode cX3_init 10 = .ok (.newarray .int, 2) := by decide +kernel
theorem dX3_init_12 : decode cX3_init 12 = .ok (.putfield 13, 3) := by decide +kernel
theorem dX3_init_15 : decode cX3_init 15 = .ok (.return_, 1) := by decide +kernel
theorem dX3_has_0 : decode cX3_has 0 = .ok (.iload_n 1, 1) := by decide +kernel
theorem dX3_has_1 : decode cX3_has 1 = .ok (.ifCond .lt 24, 3) := by decide +kernel
theorem dX3_has_4 : decode cX3_has 4 = .ok (.iload_n 1, 1) := by decide +kernel
theorem dX3_has_5 : decode cX3_has 5 = .ok (.aload_n 0, 1) := by decide +kernel
theorem dX3_has_6 : decode cX3_has 6 = .ok (.getfield 19, 3) := by decide +kernel
theorem dX3_has_9 : decode cX3_has 9 = .ok (.if_icmp .ge 16, 3) := by decide +kernel
theorem dX3_has_12 : decode cX3_has 12 = .ok (.iload_n 1, 1) := by decide +kernel
theorem dX3_has_13 : decode cX3_has 13 = .ok (.aload_n 0, 1) := by decide +kernel
theorem dX3_has_14 : decode cX3_has 14 = .ok (.getfield 13, 3) := by decide +kernel
theorem dX3_has_17 : decode cX3_has 17 = .ok (.arraylength, 1) := by decide +kernel
theorem dX3_has_18 : decode cX3_has 18 = .ok (.if_icmp .ge 7, 3) := by decide +kernel
theorem dX3_has_21 : decode cX3_has 21 = .ok (.iconst 1, 1) := by decide +kernel
theorem dX3_has_22 : decode cX3_has 22 = .ok (.goto 4, 3) := by decide +kernel
theorem dX3_has_25 : decode cX3_has 25 = .ok (.iconst 0, 1) := by decide +kernel
theorem dX3_has_26 : decode cX3_has 26 = .ok (.ireturn, 1) := by decide +kernel
theorem dX3_hasRun_0 : decode cX3_hasRun 0 = .ok (.iload_n 1, 1) := by decide +kernel
theorem dX3_hasRun_1 : decode cX3_hasRun 1 = .ok (.ifCond .lt 41, 3) := by decide +kernel
theorem dX3_hasRun_4 : decode cX3_hasRun 4 = .ok (.iload_n 2, 1) := by decide +kernel
theorem dX3_hasRun_5 : decode cX3_hasRun 5 = .ok (.ifCond .lt 37, 3) := by decide +kernel
theorem dX3_hasRun_8 : decode cX3_hasRun 8 = .ok (.iload_n 2, 1) := by decide +kernel
theorem dX3_hasRun_9 : decode cX3_hasRun 9 = .ok (.aload_n 0, 1) := by decide +kernel
theorem dX3_hasRun_10 : decode cX3_hasRun 10 = .ok (.getfield 19, 3) := by decide +kernel
theorem dX3_hasRun_13 : decode cX3_hasRun 13 = .ok (.if_icmp .gt 29, 3) := by decide +kernel
theorem dX3_hasRun_16 : decode cX3_hasRun 16 = .ok (.iload_n 1, 1) := by decide +kernel
theorem dX3_hasRun_17 : decode cX3_hasRun 17 = .ok (.aload_n 0, 1) := by decide +kernel
theorem dX3_hasRun_18 : decode cX3_hasRun 18 = .ok (.getfield 19, 3) := by decide +kernel
theorem dX3_hasRun_21 : decode cX3_hasRun 21 = .ok (.iload_n 2, 1) := by decide +kernel
theorem dX3_hasRun_22 : decode cX3_hasRun 22 = .ok (.isub, 1) := by decide +kernel
theorem dX3_hasRun_23 : decode cX3_hasRun 23 = .ok (.if_icmp .gt 19, 3) := by decide +kernel
theorem dX3_hasRun_26 : decode cX3_hasRun 26 = .ok (.aload_n 0, 1) := by decide +kernel
theorem dX3_hasRun_27 : decode cX3_hasRun 27 = .ok (.getfield 19, 3) := by decide +kernel
theorem dX3_hasRun_30 : decode cX3_hasRun 30 = .ok (.aload_n 0, 1) := by decide +kernel
theorem dX3_hasRun_31 : decode cX3_hasRun 31 = .ok (.getfield 13, 3) := by decide +kernel
theorem dX3_hasRun_34 : decode cX3_hasRun 34 = .ok (.arraylength, 1) := by decide +kernel
theorem dX3_hasRun_35 : decode cX3_hasRun 35 = .ok (.if_icmp .gt 7, 3) := by decide +kernel
theorem dX3_hasRun_38 : decode cX3_hasRun 38 = .ok (.iconst 1, 1) := by decide +kernel
theorem dX3_hasRun_39 : decode cX3_hasRun 39 = .ok (.goto 4, 3) := by decide +kernel
theorem dX3_hasRun_42 : decode cX3_hasRun 42 = .ok (.iconst 0, 1) := by decide +kernel
theorem dX3_hasRun_43 : decode cX3_hasRun 43 = .ok (.ireturn, 1) := by decide +kernel
theorem dX3_room_0 : decode cX3_room 0 = .ok (.aload_n 0, 1) := by decide +kernel
theorem dX3_room_1 : decode cX3_room 1 = .ok (.getfield 13, 3) := by decide +kernel
theorem dX3_room_4 : decode cX3_room 4 = .ok (.arraylength, 1) := by decide +kernel
theorem dX3_room_5 : decode cX3_room 5 = .ok (.aload_n 0, 1) := by decide +kernel
theorem dX3_room_6 : decode cX3_room 6 = .ok (.getfield 19, 3) := by decide +kernel
theorem dX3_room_9 : decode cX3_room 9 = .ok (.isub, 1) := by decide +kernel
theorem dX3_room_10 : decode cX3_room 10 = .ok (.ireturn, 1) := by decide +kernel
theorem dX3_at_0 : decode cX3_at 0 = .ok (.aload_n 0, 1) := by decide +kernel
theorem dX3_at_1 : decode cX3_at 1 = .ok (.iload_n 1, 1) := by decide +kernel
theorem dX3_at_2 : decode cX3_at 2 = .ok (.invokevirtual 23, 3) := by decide +kernel
theorem dX3_at_5 : decode cX3_at 5 = .ok (.ifCond .eq 12, 3) := by decide +kernel
theorem dX3_at_8 : decode cX3_at 8 = .ok (.aload_n 0, 1) := by decide +kernel
theorem dX3_at_9 : decode cX3_at 9 = .ok (.getfield 13, 3) := by decide +kernel
theorem dX3_at_12 : decode cX3_at 12 = .ok (.iload_n 1, 1) := by decide +kernel
theorem dX3_at_13 : decode cX3_at 13 = .ok (.iaload, 1) := by decide +kernel
theorem dX3_at_14 : decode cX3_at 14 = .ok (.goto 4, 3) := by decide +kernel
theorem dX3_at_17 : decode cX3_at 17 = .ok (.iconst 0, 1) := by decide +kernel
theorem dX3_at_18 : decode cX3_at 18 = .ok (.ireturn, 1) := by decide +kernel
theorem dX3_add_0 : decode cX3_add 0 = .ok (.aload_n 0, 1) := by decide +kernel
theorem dX3_add_1 : decode cX3_add 1 = .ok (.getfield 19, 3) := by decide +kernel
theorem dX3_add_4 : decode cX3_add 4 = .ok (.ifCond .lt 15, 3) := by decide +kernel
theorem dX3_add_7 : decode cX3_add 7 = .ok (.aload_n 0, 1) := by decide +kernel
theorem dX3_add_8 : decode cX3_add 8 = .ok (.getfield 19, 3) := by decide +kernel
theorem dX3_add_11 : decode cX3_add 11 = .ok (.aload_n 0, 1) := by decide +kernel
theorem dX3_add_12 : decode cX3_add 12 = .ok (.getfield 13, 3) := by decide +kernel
theorem dX3_add_15 : decode cX3_add 15 = .ok (.arraylength, 1) := by decide +kernel
theorem dX3_add_16 : decode cX3_add 16 = .ok (.if_icmp .lt 5, 3) := by decide +kernel
theorem dX3_add_19 : decode cX3_add 19 = .ok (.iconst 0, 1) := by decide +kernel
theorem dX3_add_20 : decode cX3_add 20 = .ok (.ireturn, 1) := by decide +kernel
theorem dX3_add_21 : decode cX3_add 21 = .ok (.aload_n 0, 1) := by decide +kernel
theorem dX3_add_22 : decode cX3_add 22 = .ok (.getfield 13, 3) := by decide +kernel
theorem dX3_add_25 : decode cX3_add 25 = .ok (.aload_n 0, 1) := by decide +kernel
theorem dX3_add_26 : decode cX3_add 26 = .ok (.getfield 19, 3) := by decide +kernel
theorem dX3_add_29 : decode cX3_add 29 = .ok (.iload_n 1, 1) := by decide +kernel
theorem dX3_add_30 : decode cX3_add 30 = .ok (.iastore, 1) := by decide +kernel
theorem dX3_add_31 : decode cX3_add 31 = .ok (.aload_n 0, 1) := by decide +kernel
theorem dX3_add_32 : decode cX3_add 32 = .ok (.dup, 1) := by decide +kernel
theorem dX3_add_33 : decode cX3_add 33 = .ok (.getfield 19, 3) := by decide +kernel
theorem dX3_add_36 : decode cX3_add 36 = .ok (.iconst 1, 1) := by decide +kernel
theorem dX3_add_37 : decode cX3_add 37 = .ok (.iadd, 1) := by decide +kernel
theorem dX3_add_38 : decode cX3_add 38 = .ok (.putfield 19, 3) := by decide +kernel
theorem dX3_add_41 : decode cX3_add 41 = .ok (.iconst 1, 1) := by decide +kernel
theorem dX3_add_42 : decode cX3_add 42 = .ok (.ireturn, 1) := by decide +kernel
theorem dX3_copyFrom_0 : decode cX3_copyFrom 0 = .ok (.aload_n 1, 1) := by decide +kernel
theorem dX3_copyFrom_1 : decode cX3_copyFrom 1 = .ok (.getfield 19, 3) := by decide +kernel
theorem dX3_copyFrom_4 : decode cX3_copyFrom 4 = .ok (.aload_n 0, 1) := by decide +kernel
theorem dX3_copyFrom_5 : decode cX3_copyFrom 5 = .ok (.getfield 13, 3) := by decide +kernel
theorem dX3_copyFrom_8 : decode cX3_copyFrom 8 = .ok (.arraylength, 1) := by decide +kernel
theorem dX3_copyFrom_9 : decode cX3_copyFrom 9 = .ok (.invokestatic 27, 3) := by decide +kernel
theorem dX3_copyFrom_12 : decode cX3_copyFrom 12 = .ok (.istore_n 2, 1) := by decide +kernel
theorem dX3_copyFrom_13 : decode cX3_copyFrom 13 = .ok (.iload_n 2, 1) := by decide +kernel
theorem dX3_copyFrom_14 : decode cX3_copyFrom 14 = .ok (.ifCond .lt 31, 3) := by decide +kernel
theorem dX3_copyFrom_17 : decode cX3_copyFrom 17 = .ok (.iload_n 2, 1) := by decide +kernel
theorem dX3_copyFrom_18 : decode cX3_copyFrom 18 = .ok (.aload_n 1, 1) := by decide +kernel
theorem dX3_copyFrom_19 : decode cX3_copyFrom 19 = .ok (.getfield 13, 3) := by decide +kernel
theorem dX3_copyFrom_22 : decode cX3_copyFrom 22 = .ok (.arraylength, 1) := by decide +kernel
theorem dX3_copyFrom_23 : decode cX3_copyFrom 23 = .ok (.if_icmp .gt 22, 3) := by decide +kernel
theorem dX3_copyFrom_26 : decode cX3_copyFrom 26 = .ok (.aload_n 1, 1) := by decide +kernel
theorem dX3_copyFrom_27 : decode cX3_copyFrom 27 = .ok (.getfield 13, 3) := by decide +kernel
theorem dX3_copyFrom_30 : decode cX3_copyFrom 30 = .ok (.iconst 0, 1) := by decide +kernel
theorem dX3_copyFrom_31 : decode cX3_copyFrom 31 = .ok (.aload_n 0, 1) := by decide +kernel
theorem dX3_copyFrom_32 : decode cX3_copyFrom 32 = .ok (.getfield 13, 3) := by decide +kernel
theorem dX3_copyFrom_35 : decode cX3_copyFrom 35 = .ok (.iconst 0, 1) := by decide +kernel
theorem dX3_copyFrom_36 : decode cX3_copyFrom 36 = .ok (.iload_n 2, 1) := by decide +kernel
theorem dX3_copyFrom_37 : decode cX3_copyFrom 37 = .ok (.invokestatic 30, 3) := by decide +kernel
theorem dX3_copyFrom_40 : decode cX3_copyFrom 40 = .ok (.aload_n 0, 1) := by decide +kernel
theorem dX3_copyFrom_41 : decode cX3_copyFrom 41 = .ok (.iload_n 2, 1) := by decide +kernel
theorem dX3_copyFrom_42 : decode cX3_copyFrom 42 = .ok (.putfield 19, 3) := by decide +kernel
theorem dX3_copyFrom_45 : decode cX3_copyFrom 45 = .ok (.return_, 1) := by decide +kernel
theorem dX4_init_0 : decode cX4_init 0 = .ok (.aload_n 0, 1) := by decide +kernel
theorem dX4_init_1 : decode cX4_init 1 = .ok (.invokespecial 3, 3) := by decide +kernel
theorem dX4_init_4 : decode cX4_init 4 = .ok (.aload_n 0, 1) := by decide +kernel
theorem dX4_init_5 : decode cX4_init 5 = .ok (.new 9, 3) := by decide +kernel
theorem dX4_init_8 : decode cX4_init 8 = .ok (.dup, 1) := by decide +kernel
theorem dX4_init_9 : decode cX4_init 9 = .ok (.bipush 40, 2) := by decide +kernel
theorem dX4_init_11 : decode cX4_init 11 = .ok (.invokespecial 11, 3) := by decide +kernel
theorem dX4_init_14 : decode cX4_init 14 = .ok (.putfield 14, 3) := by decide +kernel
theorem dX4_init_17 : decode cX4_init 17 = .ok (.return_, 1) := by decide +kernel
theorem dX4_isMissing_0 : decode cX4_isMissing 0 = .ok (.aload_n 0, 1) := by decide +kernel
theorem dX4_isMissing_1 : decode cX4_isMissing 1 = .ok (.getfield 20, 3) := by decide +kernel
theorem dX4_isMissing_4 : decode cX4_isMissing 4 = .ok (.ifCond .ne 7, 3) := by decide +kernel
theorem dX4_isMissing_7 : decode cX4_isMissing 7 = .ok (.iconst 1, 1) := by decide +kernel
theorem dX4_isMissing_8 : decode cX4_isMissing 8 = .ok (.goto 4, 3) := by decide +kernel
theorem dX4_isMissing_11 : decode cX4_isMissing 11 = .ok (.iconst 0, 1) := by decide +kernel
theorem dX4_isMissing_12 : decode cX4_isMissing 12 = .ok (.ireturn, 1) := by decide +kernel
theorem dX4_becomes_0 : decode cX4_becomes 0 = .ok (.aload_n 0, 1) := by decide +kernel
theorem dX4_becomes_1 : decode cX4_becomes 1 = .ok (.iload_n 1, 1) := by decide +kernel
theorem dX4_becomes_2 : decode cX4_becomes 2 = .ok (.putfield 20, 3) := by decide +kernel
theorem dX4_becomes_5 : decode cX4_becomes 5 = .ok (.aload_n 0, 1) := by decide +kernel
theorem dX4_becomes_6 : decode cX4_becomes 6 = .ok (.getfield 14, 3) := by decide +kernel
theorem dX4_becomes_9 : decode cX4_becomes 9 = .ok (.iconst 0, 1) := by decide +kernel
theorem dX4_becomes_10 : decode cX4_becomes 10 = .ok (.putfield 24, 3) := by decide +kernel
theorem dX4_becomes_13 : decode cX4_becomes 13 = .ok (.iconst 0, 1) := by decide +kernel
theorem dX4_becomes_14 : decode cX4_becomes 14 = .ok (.istore_n 3, 1) := by decide +kernel
theorem dX4_becomes_15 : decode cX4_becomes 15 = .ok (.iload_n 3, 1) := by decide +kernel
theorem dX4_becomes_16 : decode cX4_becomes 16 = .ok (.iload_n 2, 1) := by decide +kernel
theorem dX4_becomes_17 : decode cX4_becomes 17 = .ok (.if_icmp .ge 18, 3) := by decide +kernel
theorem dX4_becomes_20 : decode cX4_becomes 20 = .ok (.aload_n 0, 1) := by decide +kernel
theorem dX4_becomes_21 : decode cX4_becomes 21 = .ok (.getfield 14, 3) := by decide +kernel
theorem dX4_becomes_24 : decode cX4_becomes 24 = .ok (.iconst 0, 1) := by decide +kernel
theorem dX4_becomes_25 : decode cX4_becomes 25 = .ok (.invokevirtual 27, 3) := by decide +kernel
theorem dX4_becomes_28 : decode cX4_becomes 28 = .ok (.pop, 1) := by decide +kernel
theorem dX4_becomes_29 : decode cX4_becomes 29 = .ok (.iinc 3 1, 3) := by decide +kernel
theorem dX4_becomes_32 : decode cX4_becomes 32 = .ok (.goto (-17), 3) := by decide +kernel
theorem dX4_becomes_35 : decode cX4_becomes 35 = .ok (.return_, 1) := by decide +kernel
theorem dX4_cut_0 : decode cX4_cut 0 = .ok (.aload_n 0, 1) := by decide +kernel
theorem dX4_cut_1 : decode cX4_cut 1 = .ok (.getfield 20, 3) := by decide +kernel
theorem dX4_cut_4 : decode cX4_cut 4 = .ok (.bipush 8, 2) := by decide +kernel
theorem dX4_cut_6 : decode cX4_cut 6 = .ok (.if_icmp .ne 6, 3) := by decide +kernel
theorem dX4_cut_9 : decode cX4_cut 9 = .ok (.iload_n 1, 1) := by decide +kernel
theorem dX4_cut_10 : decode cX4_cut 10 = .ok (.i2b, 1) := by decide +kernel
theorem dX4_cut_11 : decode cX4_cut 11 = .ok (.ireturn, 1) := by decide +kernel
theorem dX4_cut_12 : decode cX4_cut 12 = .ok (.aload_n 0, 1) := by decide +kernel
theorem dX4_cut_13 : decode cX4_cut 13 = .ok (.getfield 20, 3) := by decide +kernel
theorem dX4_cut_16 : decode cX4_cut 16 = .ok (.bipush 16, 2) := by decide +kernel
theorem dX4_cut_18 : decode cX4_cut 18 = .ok (.if_icmp .ne 8, 3) := by decide +kernel
theorem dX4_cut_21 : decode cX4_cut 21 = .ok (.iload_n 1, 1) := by decide +kernel
theorem dX4_cut_22 : decode cX4_cut 22 = .ok (.i2s, 1) := by decide +kernel
theorem dX4_cut_23 : decode cX4_cut 23 = .ok (.goto 4, 3) := by decide +kernel
theorem dX4_cut_26 : decode cX4_cut 26 = .ok (.iload_n 1, 1) := by decide +kernel
theorem dX4_cut_27 : decode cX4_cut 27 = .ok (.ireturn, 1) := by decide +kernel
theorem dX5_init_0 : decode cX5_init 0 = .ok (.aload_n 0, 1) := by decide +kernel
theorem dX5_init_1 : decode cX5_init 1 = .ok (.invokespecial 3, 3) := by decide +kernel
theorem dX5_init_4 : decode cX5_init 4 = .ok (.aload_n 0, 1) := by decide +kernel
theorem dX5_init_5 : decode cX5_init 5 = .ok (.bipush 16, 2) := by decide +kernel
theorem dX5_init_7 : decode cX5_init 7 = .ok (.newarray .int, 2) := by decide +kernel
theorem dX5_init_9 : decode cX5_init 9 = .ok (.putfield 9, 3) := by decide +kernel
theorem dX5_init_12 : decode cX5_init 12 = .ok (.aload_n 0, 1) := by decide +kernel
theorem dX5_init_13 : decode cX5_init 13 = .ok (.sipush 4095, 3) := by decide +kernel
theorem dX5_init_16 : decode cX5_init 16 = .ok (.putfield 15, 3) := by decide +kernel
theorem dX5_init_19 : decode cX5_init 19 = .ok (.aload_n 0, 1) := by decide +kernel
theorem dX5_init_20 : decode cX5_init 20 = .ok (.bipush 20, 2) := by decide +kernel
theorem dX5_init_22 : decode cX5_init 22 = .ok (.putfield 19, 3) := by decide +kernel
theorem dX5_init_25 : decode cX5_init 25 = .ok (.aload_n 0, 1) := by decide +kernel
theorem dX5_init_26 : decode cX5_init 26 = .ok (.bipush 8, 2) := by decide +kernel
theorem dX5_init_28 : decode cX5_init 28 = .ok (.newarray .int, 2) := by decide +kernel
theorem dX5_init_30 : decode cX5_init 30 = .ok (.putfield 22, 3) := by decide +kernel
theorem dX5_init_33 : decode cX5_init 33 = .ok (.aload_n 0, 1) := by decide +kernel
theorem dX5_init_34 : decode cX5_init 34 = .ok (.bipush 8, 2) := by decide +kernel
theorem dX5_init_36 : decode cX5_init 36 = .ok (.newarray .int, 2) := by decide +kernel
theorem dX5_init_38 : decode cX5_init 38 = .ok (.putfield 25, 3) := by decide +kernel
theorem dX5_init_41 : decode cX5_init 41 = .ok (.aload_n 0, 1) := by decide +kernel
theorem dX5_init_42 : decode cX5_init 42 = .ok (.bipush 8, 2) := by decide +kernel
theorem dX5_init_44 : decode cX5_init 44 = .ok (.newarray .int, 2) := by decide +kernel
theorem dX5_init_46 : decode cX5_init 46 = .ok (.putfield 28, 3) := by decide +kernel
theorem dX5_init_49 : decode cX5_init 49 = .ok (.aload_n 0, 1) := by decide +kernel
theorem dX5_init_50 : decode cX5_init 50 = .ok (.bipush 12, 2) := by decide +kernel
theorem dX5_init_52 : decode cX5_init 52 = .ok (.newarray .int, 2) := by decide +kernel
theorem dX5_init_54 : decode cX5_init 54 = .ok (.putfield 31, 3) := by decide +kernel
theorem dX5_init_57 : decode cX5_init 57 = .ok (.aload_n 0, 1) := by decide +kernel
theorem dX5_init_58 : decode cX5_init 58 = .ok (.new 34, 3) := by decide +kernel
theorem dX5_init_61 : decode cX5_init 61 = .ok (.dup, 1) := by decide +kernel
theorem dX5_init_62 : decode cX5_init 62 = .ok (.iconst 0, 1) := by decide +kernel
theorem dX5_init_63 : decode cX5_init 63 = .ok (.invokespecial 36, 3) := by decide +kernel
theorem dX5_init_66 : decode cX5_init 66 = .ok (.putfield 39, 3) := by decide +kernel
theorem dX5_init_69 : decode cX5_init 69 = .ok (.aload_n 0, 1) := by decide +kernel
theorem dX5_init_70 : decode cX5_init 70 = .ok (.new 34, 3) := by decide +kernel
theorem dX5_init_73 : decode cX5_init 73 = .ok (.dup, 1) := by decide +kernel
theorem dX5_init_74 : decode cX5_init 74 = .ok (.iconst 1, 1) := by decide +kernel
theorem dX5_init_75 : decode cX5_init 75 = .ok (.invokespecial 36, 3) := by decide +kernel
theorem dX5_init_78 : decode cX5_init 78 = .ok (.putfield 43, 3) := by decide +kernel
theorem dX5_init_81 : decode cX5_init 81 = .ok (.aload_n 0, 1) := by decide +kernel
theorem dX5_init_82 : decode cX5_init 82 = .ok (.new 46, 3) := by decide +kernel
theorem dX5_init_85 : decode cX5_init 85 = .ok (.dup, 1) := by decide +kernel
theorem dX5_init_86 : decode cX5_init 86 = .ok (.bipush 50, 2) := by decide +kernel
theorem dX5_init_88 : decode cX5_init 88 = .ok (.invokespecial 48, 3) := by decide +kernel
theorem dX5_init_91 : decode cX5_init 91 = .ok (.putfield 49, 3) := by decide +kernel
theorem dX5_init_94 : decode cX5_init 94 = .ok (.aload_n 0, 1) := by decide +kernel
theorem dX5_init_95 : decode cX5_init 95 = .ok (.new 46, 3) := by decide +kernel
theorem dX5_init_98 : decode cX5_init 98 = .ok (.dup, 1) := by decide +kernel
theorem dX5_init_99 : decode cX5_init 99 = .ok (.bipush 20, 2) := by decide +kernel
theorem dX5_init_101 : decode cX5_init 101 = .ok (.invokespecial 48, 3) := by decide +kernel
theorem dX5_init_104 : decode cX5_init 104 = .ok (.putfield 53, 3) := by decide +kernel
theorem dX5_init_107 : decode cX5_init 107 = .ok (.aload_n 0, 1) := by decide +kernel
theorem dX5_init_108 : decode cX5_init 108 = .ok (.iconst 1, 1) := by decide +kernel
theorem dX5_init_109 : decode cX5_init 109 = .ok (.putfield 56, 3) := by decide +kernel
theorem dX5_init_112 : decode cX5_init 112 = .ok (.return_, 1) := by decide +kernel
theorem dX5_copyFrom_0 : decode cX5_copyFrom 0 = .ok (.aload_n 1, 1) := by decide +kernel
theorem dX5_copyFrom_1 : decode cX5_copyFrom 1 = .ok (.getfield 9, 3) := by decide +kernel
theorem dX5_copyFrom_4 : decode cX5_copyFrom 4 = .ok (.iconst 0, 1) := by decide +kernel
theorem dX5_copyFrom_5 : decode cX5_copyFrom 5 = .ok (.aload_n 0, 1) := by decide +kernel
theorem dX5_copyFrom_6 : decode cX5_copyFrom 6 = .ok (.getfield 9, 3) := by decide +kernel
theorem dX5_copyFrom_9 : decode cX5_copyFrom 9 = .ok (.iconst 0, 1) := by decide +kernel
theorem dX5_copyFrom_10 : decode cX5_copyFrom 10 = .ok (.bipush 16, 2) := by decide +kernel
theorem dX5_copyFrom_12 : decode cX5_copyFrom 12 = .ok (.invokestatic 59, 3) := by decide +kernel
theorem dX5_copyFrom_15 : decode cX5_copyFrom 15 = .ok (.aload_n 0, 1) := by decide +kernel
theorem dX5_copyFrom_16 : decode cX5_copyFrom 16 = .ok (.aload_n 1, 1) := by decide +kernel
theorem dX5_copyFrom_17 : decode cX5_copyFrom 17 = .ok (.getfield 15, 3) := by decide +kernel
theorem dX5_copyFrom_20 : decode cX5_copyFrom 20 = .ok (.putfield 15, 3) := by decide +kernel
theorem dX5_copyFrom_23 : decode cX5_copyFrom 23 = .ok (.aload_n 0, 1) := by decide +kernel
theorem dX5_copyFrom_24 : decode cX5_copyFrom 24 = .ok (.aload_n 1, 1) := by decide +kernel
theorem dX5_copyFrom_25 : decode cX5_copyFrom 25 = .ok (.getfield 19, 3) := by decide +kernel
theorem dX5_copyFrom_28 : decode cX5_copyFrom 28 = .ok (.putfield 19, 3) := by decide +kernel
theorem dX5_copyFrom_31 : decode cX5_copyFrom 31 = .ok (.aload_n 0, 1) := by decide +kernel
theorem dX5_copyFrom_32 : decode cX5_copyFrom 32 = .ok (.aload_n 1, 1) := by decide +kernel
theorem dX5_copyFrom_33 : decode cX5_copyFrom 33 = .ok (.getfield 65, 3) := by decide +kernel
theorem dX5_copyFrom_36 : decode cX5_copyFrom 36 = .ok (.putfield 65, 3) := by decide +kernel
theorem dX5_copyFrom_39 : decode cX5_copyFrom 39 = .ok (.aload_n 0, 1) := by decide +kernel
theorem dX5_copyFrom_40 : decode cX5_copyFrom 40 = .ok (.aload_n 1, 1) := by decide +kernel
theorem dX5_copyFrom_41 : decode cX5_copyFrom 41 = .ok (.getfield 68, 3) := by decide +kernel
theorem dX5_copyFrom_44 : decode cX5_copyFrom 44 = .ok (.putfield 68, 3) := by decide +kernel
theorem dX5_copyFrom_47 : decode cX5_copyFrom 47 = .ok (.aload_n 0, 1) := by decide +kernel
theorem dX5_copyFrom_48 : decode cX5_copyFrom 48 = .ok (.aload_n 1, 1) := by decide +kernel
theorem dX5_copyFrom_49 : decode cX5_copyFrom 49 = .ok (.getfield 71, 3) := by decide +kernel
theorem dX5_copyFrom_52 : decode cX5_copyFrom 52 = .ok (.putfield 71, 3) := by decide +kernel
theorem dX5_copyFrom_55 : decode cX5_copyFrom 55 = .ok (.aload_n 0, 1) := by decide +kernel
theorem dX5_copyFrom_56 : decode cX5_copyFrom 56 = .ok (.aload_n 1, 1) := by decide +kernel
theorem dX5_copyFrom_57 : decode cX5_copyFrom 57 = .ok (.getfield 74, 3) := by decide +kernel
theorem dX5_copyFrom_60 : decode cX5_copyFrom 60 = .ok (.putfield 74, 3) := by decide +kernel
theorem dX5_copyFrom_63 : decode cX5_copyFrom 63 = .ok (.aload_n 1, 1) := by decide +kernel
theorem dX5_copyFrom_64 : decode cX5_copyFrom 64 = .ok (.getfield 22, 3) := by decide +kernel
theorem dX5_copyFrom_67 : decode cX5_copyFrom 67 = .ok (.iconst 0, 1) := by decide +kernel
theorem dX5_copyFrom_68 : decode cX5_copyFrom 68 = .ok (.aload_n 0, 1) := by decide +kernel
theorem dX5_copyFrom_69 : decode cX5_copyFrom 69 = .ok (.getfield 22, 3) := by decide +kernel
theorem dX5_copyFrom_72 : decode cX5_copyFrom 72 = .ok (.iconst 0, 1) := by decide +kernel
theorem dX5_copyFrom_73 : decode cX5_copyFrom 73 = .ok (.bipush 8, 2) := by decide +kernel
theorem dX5_copyFrom_75 : decode cX5_copyFrom 75 = .ok (.invokestatic 59, 3) := by decide +kernel
theorem dX5_copyFrom_78 : decode cX5_copyFrom 78 = .ok (.aload_n 1, 1) := by decide +kernel
theorem dX5_copyFrom_79 : decode cX5_copyFrom 79 = .ok (.getfield 25, 3) := by decide +kernel
theorem dX5_copyFrom_82 : decode cX5_copyFrom 82 = .ok (.iconst 0, 1) := by decide +kernel
theorem dX5_copyFrom_83 : decode cX5_copyFrom 83 = .ok (.aload_n 0, 1) := by decide +kernel
theorem dX5_copyFrom_84 : decode cX5_copyFrom 84 = .ok (.getfield 25, 3) := by decide +kernel
theorem dX5_copyFrom_87 : decode cX5_copyFrom 87 = .ok (.iconst 0, 1) := by decide +kernel
theorem dX5_copyFrom_88 : decode cX5_copyFrom 88 = .ok (.bipush 8, 2) := by decide +kernel
theorem dX5_copyFrom_90 : decode cX5_copyFrom 90 = .ok (.invokestatic 59, 3) := by decide +kernel
theorem dX5_copyFrom_93 : decode cX5_copyFrom 93 = .ok (.aload_n 1, 1) := by decide +kernel
theorem dX5_copyFrom_94 : decode cX5_copyFrom 94 = .ok (.getfield 28, 3) := by decide +kernel
theorem dX5_copyFrom_97 : decode cX5_copyFrom 97 = .ok (.iconst 0, 1) := by decide +kernel
theorem dX5_copyFrom_98 : decode cX5_copyFrom 98 = .ok (.aload_n 0, 1) := by decide +kernel
theorem dX5_copyFrom_99 : decode cX5_copyFrom 99 = .ok (.getfield 28, 3) := by decide +kernel
theorem dX5_copyFrom_102 : decode cX5_copyFrom 102 = .ok (.iconst 0, 1) := by decide +kernel
theorem dX5_copyFrom_103 : decode cX5_copyFrom 103 = .ok (.bipush 8, 2) := by decide +kernel
theorem dX5_copyFrom_105 : decode cX5_copyFrom 105 = .ok (.invokestatic 59, 3) := by decide +kernel
theorem dX5_copyFrom_108 : decode cX5_copyFrom 108 = .ok (.aload_n 0, 1) := by decide +kernel
theorem dX5_copyFrom_109 : decode cX5_copyFrom 109 = .ok (.aload_n 1, 1) := by decide +kernel
theorem dX5_copyFrom_110 : decode cX5_copyFrom 110 = .ok (.getfield 77, 3) := by decide +kernel
theorem dX5_copyFrom_113 : decode cX5_copyFrom 113 = .ok (.putfield 77, 3) := by decide +kernel
theorem dX5_copyFrom_116 : decode cX5_copyFrom 116 = .ok (.aload_n 0, 1) := by decide +kernel
theorem dX5_copyFrom_117 : decode cX5_copyFrom 117 = .ok (.getfield 39, 3) := by decide +kernel
theorem dX5_copyFrom_120 : decode cX5_copyFrom 120 = .ok (.getfield 80, 3) := by decide +kernel
theorem dX5_copyFrom_123 : decode cX5_copyFrom 123 = .ok (.aload_n 1, 1) := by decide +kernel
theorem dX5_copyFrom_124 : decode cX5_copyFrom 124 = .ok (.getfield 39, 3) := by decide +kernel
theorem dX5_copyFrom_127 : decode cX5_copyFrom 127 = .ok (.getfield 80, 3) := by decide +kernel
theorem dX5_copyFrom_130 : decode cX5_copyFrom 130 = .ok (.invokevirtual 83, 3) := by decide +kernel
theorem dX5_copyFrom_133 : decode cX5_copyFrom 133 = .ok (.aload_n 0, 1) := by decide +kernel
theorem dX5_copyFrom_134 : decode cX5_copyFrom 134 = .ok (.getfield 43, 3) := by decide +kernel
theorem dX5_copyFrom_137 : decode cX5_copyFrom 137 = .ok (.getfield 80, 3) := by decide +kernel
theorem dX5_copyFrom_140 : decode cX5_copyFrom 140 = .ok (.aload_n 1, 1) := by decide +kernel
theorem dX5_copyFrom_141 : decode cX5_copyFrom 141 = .ok (.getfield 43, 3) := by decide +kernel
theorem dX5_copyFrom_144 : decode cX5_copyFrom 144 = .ok (.getfield 80, 3) := by decide +kernel
theorem dX5_copyFrom_147 : decode cX5_copyFrom 147 = .ok (.invokevirtual 83, 3) := by decide +kernel
