theorem dX7_which_107 : decode cX7_which 107 = .ok (.goto 8, 3) := by decide +kernel
theorem dX7_which_110 : decode cX7_which 110 = .ok (.iload 4, 2) := by decide +kernel
theorem dX7_which_112 : decode cX7_which 112 = .ok (.invokestatic 219, 3) := by decide +kernel
theorem dX7_which_115 : decode cX7_which 115 = .ok (.ireturn, 1) := by decide +kernel
theorem dX7_settle_0 : decode cX7_settle 0 = .ok (.aload_n 0, 1) := by decide +kernel
theorem dX7_settle_1 : decode cX7_settle 1 = .ok (.iload_n 1, 1) := by decide +kernel
theorem dX7_settle_2 : decode cX7_settle 2 = .ok (.invokevirtual 97, 3) := by decide +kernel
theorem dX7_settle_5 : decode cX7_settle 5 = .ok (.ifCond .eq 22, 3) := by decide +kernel
theorem dX7_settle_8 : decode cX7_settle 8 = .ok (.iload_n 2, 1) := by decide +kernel
theorem dX7_settle_9 : decode cX7_settle 9 = .ok (.iconst 0, 1) := by decide +kernel
theorem dX7_settle_10 : decode cX7_settle 10 = .ok (.bipush 30, 2) := by decide +kernel
theorem dX7_settle_12 : decode cX7_settle 12 = .ok (.invokestatic 54, 3) := by decide +kernel
theorem dX7_settle_15 : decode cX7_settle 15 = .ok (.ifCond .eq 12, 3) := by decide +kernel
theorem dX7_settle_18 : decode cX7_settle 18 = .ok (.iload_n 3, 1) := by decide +kernel
theorem dX7_settle_19 : decode cX7_settle 19 = .ok (.iconst 0, 1) := by decide +kernel
theorem dX7_settle_20 : decode cX7_settle 20 = .ok (.iconst 1, 1) := by decide +kernel
theorem dX7_settle_21 : decode cX7_settle 21 = .ok (.invokestatic 54, 3) := by decide +kernel
theorem dX7_settle_24 : decode cX7_settle 24 = .ok (.ifCond .ne 9, 3) := by decide +kernel
theorem dX7_settle_27 : decode cX7_settle 27 = .ok (.aload_n 0, 1) := by decide +kernel
theorem dX7_settle_28 : decode cX7_settle 28 = .ok (.iconst 1, 1) := by decide +kernel
theorem dX7_settle_29 : decode cX7_settle 29 = .ok (.invokevirtual 58, 3) := by decide +kernel
theorem dX7_settle_32 : decode cX7_settle 32 = .ok (.ireturn, 1) := by decide +kernel
theorem dX7_settle_33 : decode cX7_settle 33 = .ok (.iconst 0, 1) := by decide +kernel
theorem dX7_settle_34 : decode cX7_settle 34 = .ok (.istore 4, 2) := by decide +kernel
theorem dX7_settle_36 : decode cX7_settle 36 = .ok (.iconst (-1), 1) := by decide +kernel
theorem dX7_settle_37 : decode cX7_settle 37 = .ok (.istore 5, 2) := by decide +kernel
theorem dX7_settle_39 : decode cX7_settle 39 = .ok (.iconst 0, 1) := by decide +kernel
theorem dX7_settle_40 : decode cX7_settle 40 = .ok (.istore 6, 2) := by decide +kernel
theorem dX7_settle_42 : decode cX7_settle 42 = .ok (.iload 6, 2) := by decide +kernel
theorem dX7_settle_44 : decode cX7_settle 44 = .ok (.bipush 16, 2) := by decide +kernel
theorem dX7_settle_46 : decode cX7_settle 46 = .ok (.if_icmp .ge 57, 3) := by decide +kernel
theorem dX7_settle_49 : decode cX7_settle 49 = .ok (.aload_n 0, 1) := by decide +kernel
theorem dX7_settle_50 : decode cX7_settle 50 = .ok (.iconst 0, 1) := by decide +kernel
theorem dX7_settle_51 : decode cX7_settle 51 = .ok (.iconst 0, 1) := by decide +kernel
theorem dX7_settle_52 : decode cX7_settle 52 = .ok (.invokevirtual 191, 3) := by decide +kernel
theorem dX7_settle_55 : decode cX7_settle 55 = .ok (.astore 7, 2) := by decide +kernel
theorem dX7_settle_57 : decode cX7_settle 57 = .ok (.aload 7, 2) := by decide +kernel
theorem dX7_settle_59 : decode cX7_settle 59 = .ok (.getfield 91, 3) := by decide +kernel
theorem dX7_settle_62 : decode cX7_settle 62 = .ok (.iload_n 1, 1) := by decide +kernel
theorem dX7_settle_63 : decode cX7_settle 63 = .ok (.iload 6, 2) := by decide +kernel
theorem dX7_settle_65 : decode cX7_settle 65 = .ok (.iastore, 1) := by decide +kernel
theorem dX7_settle_66 : decode cX7_settle 66 = .ok (.aload 7, 2) := by decide +kernel
theorem dX7_settle_68 : decode cX7_settle 68 = .ok (.iload_n 2, 1) := by decide +kernel
theorem dX7_settle_69 : decode cX7_settle 69 = .ok (.invokevirtual 181, 3) := by decide +kernel
theorem dX7_settle_72 : decode cX7_settle 72 = .ok (.aload 7, 2) := by decide +kernel
theorem dX7_settle_74 : decode cX7_settle 74 = .ok (.getfield 94, 3) := by decide +kernel
theorem dX7_settle_77 : decode cX7_settle 77 = .ok (.iload_n 1, 1) := by decide +kernel
theorem dX7_settle_78 : decode cX7_settle 78 = .ok (.iaload, 1) := by decide +kernel
theorem dX7_settle_79 : decode cX7_settle 79 = .ok (.iload 5, 2) := by decide +kernel
theorem dX7_settle_81 : decode cX7_settle 81 = .ok (.if_icmp .le 16, 3) := by decide +kernel
theorem dX7_settle_84 : decode cX7_settle 84 = .ok (.aload 7, 2) := by decide +kernel
theorem dX7_settle_86 : decode cX7_settle 86 = .ok (.getfield 94, 3) := by decide +kernel
theorem dX7_settle_89 : decode cX7_settle 89 = .ok (.iload_n 1, 1) := by decide +kernel
theorem dX7_settle_90 : decode cX7_settle 90 = .ok (.iaload, 1) := by decide +kernel
theorem dX7_settle_91 : decode cX7_settle 91 = .ok (.istore 5, 2) := by decide +kernel
theorem dX7_settle_93 : decode cX7_settle 93 = .ok (.iload 6, 2) := by decide +kernel
theorem dX7_settle_95 : decode cX7_settle 95 = .ok (.istore 4, 2) := by decide +kernel
theorem dX7_settle_97 : decode cX7_settle 97 = .ok (.iinc 6 1, 3) := by decide +kernel
theorem dX7_settle_100 : decode cX7_settle 100 = .ok (.goto (-58), 3) := by decide +kernel
theorem dX7_settle_103 : decode cX7_settle 103 = .ok (.iload_n 3, 1) := by decide +kernel
theorem dX7_settle_104 : decode cX7_settle 104 = .ok (.ifCond .ne 8, 3) := by decide +kernel
theorem dX7_settle_107 : decode cX7_settle 107 = .ok (.iload 4, 2) := by decide +kernel
theorem dX7_settle_109 : decode cX7_settle 109 = .ok (.goto 5, 3) := by decide +kernel
theorem dX7_settle_112 : decode cX7_settle 112 = .ok (.iload 5, 2) := by decide +kernel
theorem dX7_settle_114 : decode cX7_settle 114 = .ok (.ireturn, 1) := by decide +kernel
theorem dX7_vote_0 : decode cX7_vote 0 = .ok (.iload_n 1, 1) := by decide +kernel
theorem dX7_vote_1 : decode cX7_vote 1 = .ok (.invokestatic 68, 3) := by decide +kernel
theorem dX7_vote_4 : decode cX7_vote 4 = .ok (.ifCond .eq 13, 3) := by decide +kernel
theorem dX7_vote_7 : decode cX7_vote 7 = .ok (.iload_n 2, 1) := by decide +kernel
theorem dX7_vote_8 : decode cX7_vote 8 = .ok (.iconst 0, 1) := by decide +kernel
theorem dX7_vote_9 : decode cX7_vote 9 = .ok (.bipush 20, 2) := by decide +kernel
theorem dX7_vote_11 : decode cX7_vote 11 = .ok (.invokestatic 54, 3) := by decide +kernel
theorem dX7_vote_14 : decode cX7_vote 14 = .ok (.ifCond .ne 9, 3) := by decide +kernel
theorem dX7_vote_17 : decode cX7_vote 17 = .ok (.aload_n 0, 1) := by decide +kernel
theorem dX7_vote_18 : decode cX7_vote 18 = .ok (.iconst 1, 1) := by decide +kernel
theorem dX7_vote_19 : decode cX7_vote 19 = .ok (.invokevirtual 58, 3) := by decide +kernel
theorem dX7_vote_22 : decode cX7_vote 22 = .ok (.ireturn, 1) := by decide +kernel
theorem dX7_vote_23 : decode cX7_vote 23 = .ok (.aload_n 0, 1) := by decide +kernel
theorem dX7_vote_24 : decode cX7_vote 24 = .ok (.iconst 0, 1) := by decide +kernel
theorem dX7_vote_25 : decode cX7_vote 25 = .ok (.iload_n 2, 1) := by decide +kernel
theorem dX7_vote_26 : decode cX7_vote 26 = .ok (.invokevirtual 191, 3) := by decide +kernel
theorem dX7_vote_29 : decode cX7_vote 29 = .ok (.astore_n 3, 1) := by decide +kernel
theorem dX7_vote_30 : decode cX7_vote 30 = .ok (.iconst 0, 1) := by decide +kernel
theorem dX7_vote_31 : decode cX7_vote 31 = .ok (.istore 4, 2) := by decide +kernel
theorem dX7_vote_33 : decode cX7_vote 33 = .ok (.iload 4, 2) := by decide +kernel
theorem dX7_vote_35 : decode cX7_vote 35 = .ok (.bipush 8, 2) := by decide +kernel
theorem dX7_vote_37 : decode cX7_vote 37 = .ok (.if_icmp .ge 23, 3) := by decide +kernel
theorem dX7_vote_40 : decode cX7_vote 40 = .ok (.aload_n 0, 1) := by decide +kernel
theorem dX7_vote_41 : decode cX7_vote 41 = .ok (.getfield 42, 3) := by decide +kernel
theorem dX7_vote_44 : decode cX7_vote 44 = .ok (.iload 4, 2) := by decide +kernel
theorem dX7_vote_46 : decode cX7_vote 46 = .ok (.aload_n 3, 1) := by decide +kernel
theorem dX7_vote_47 : decode cX7_vote 47 = .ok (.getfield 94, 3) := by decide +kernel
theorem dX7_vote_50 : decode cX7_vote 50 = .ok (.iload 4, 2) := by decide +kernel
theorem dX7_vote_52 : decode cX7_vote 52 = .ok (.iaload, 1) := by decide +kernel
theorem dX7_vote_53 : decode cX7_vote 53 = .ok (.iastore, 1) := by decide +kernel
theorem dX7_vote_54 : decode cX7_vote 54 = .ok (.iinc 4 1, 3) := by decide +kernel
theorem dX7_vote_57 : decode cX7_vote 57 = .ok (.goto (-24), 3) := by decide +kernel
theorem dX7_vote_60 : decode cX7_vote 60 = .ok (.aload_n 0, 1) := by decide +kernel
theorem dX7_vote_61 : decode cX7_vote 61 = .ok (.iconst 1, 1) := by decide +kernel
theorem dX7_vote_62 : decode cX7_vote 62 = .ok (.iload_n 1, 1) := by decide +kernel
theorem dX7_vote_63 : decode cX7_vote 63 = .ok (.ishl, 1) := by decide +kernel
theorem dX7_vote_64 : decode cX7_vote 64 = .ok (.iload_n 2, 1) := by decide +kernel
theorem dX7_vote_65 : decode cX7_vote 65 = .ok (.invokevirtual 191, 3) := by decide +kernel
theorem dX7_vote_68 : decode cX7_vote 68 = .ok (.astore 4, 2) := by decide +kernel
theorem dX7_vote_70 : decode cX7_vote 70 = .ok (.iconst 0, 1) := by decide +kernel
theorem dX7_vote_71 : decode cX7_vote 71 = .ok (.istore 5, 2) := by decide +kernel
theorem dX7_vote_73 : decode cX7_vote 73 = .ok (.iconst 0, 1) := by decide +kernel
theorem dX7_vote_74 : decode cX7_vote 74 = .ok (.istore 6, 2) := by decide +kernel
theorem dX7_vote_76 : decode cX7_vote 76 = .ok (.iload 6, 2) := by decide +kernel
theorem dX7_vote_78 : decode cX7_vote 78 = .ok (.aload 4, 2) := by decide +kernel
theorem dX7_vote_80 : decode cX7_vote 80 = .ok (.getfield 85, 3) := by decide +kernel
theorem dX7_vote_83 : decode cX7_vote 83 = .ok (.if_icmp .ge 39, 3) := by decide +kernel
theorem dX7_vote_86 : decode cX7_vote 86 = .ok (.iload 6, 2) := by decide +kernel
theorem dX7_vote_88 : decode cX7_vote 88 = .ok (.bipush 8, 2) := by decide +kernel
theorem dX7_vote_90 : decode cX7_vote 90 = .ok (.if_icmp .ge 32, 3) := by decide +kernel
theorem dX7_vote_93 : decode cX7_vote 93 = .ok (.iload 5, 2) := by decide +kernel
theorem dX7_vote_95 : decode cX7_vote 95 = .ok (.aload 4, 2) := by decide +kernel
theorem dX7_vote_97 : decode cX7_vote 97 = .ok (.getfield 94, 3) := by decide +kernel
theorem dX7_vote_100 : decode cX7_vote 100 = .ok (.iload 6, 2) := by decide +kernel
theorem dX7_vote_102 : decode cX7_vote 102 = .ok (.iaload, 1) := by decide +kernel
theorem dX7_vote_103 : decode cX7_vote 103 = .ok (.aload_n 0, 1) := by decide +kernel
theorem dX7_vote_104 : decode cX7_vote 104 = .ok (.getfield 42, 3) := by decide +kernel
theorem dX7_vote_107 : decode cX7_vote 107 = .ok (.iload 6, 2) := by decide +kernel
theorem dX7_vote_109 : decode cX7_vote 109 = .ok (.iaload, 1) := by decide +kernel
theorem dX7_vote_110 : decode cX7_vote 110 = .ok (.invokestatic 224, 3) := by decide +kernel
theorem dX7_vote_113 : decode cX7_vote 113 = .ok (.iadd, 1) := by decide +kernel
theorem dX7_vote_114 : decode cX7_vote 114 = .ok (.istore 5, 2) := by decide +kernel
theorem dX7_vote_116 : decode cX7_vote 116 = .ok (.iinc 6 1, 3) := by decide +kernel
theorem dX7_vote_119 : decode cX7_vote 119 = .ok (.goto (-43), 3) := by decide +kernel
theorem dX7_vote_122 : decode cX7_vote 122 = .ok (.iload 5, 2) := by decide +kernel
theorem dX7_vote_124 : decode cX7_vote 124 = .ok (.ireturn, 1) := by decide +kernel
theorem dX7_cold_0 : decode cX7_cold 0 = .ok (.iload_n 1, 1) := by decide +kernel
theorem dX7_cold_1 : decode cX7_cold 1 = .ok (.iconst 0, 1) := by decide +kernel
theorem dX7_cold_2 : decode cX7_cold 2 = .ok (.bipush 60, 2) := by decide +kernel
theorem dX7_cold_4 : decode cX7_cold 4 = .ok (.invokestatic 54, 3) := by decide +kernel
theorem dX7_cold_7 : decode cX7_cold 7 = .ok (.ifCond .eq 12, 3) := by decide +kernel
theorem dX7_cold_10 : decode cX7_cold 10 = .ok (.iload_n 2, 1) := by decide +kernel
theorem dX7_cold_11 : decode cX7_cold 11 = .ok (.iconst 0, 1) := by decide +kernel
theorem dX7_cold_12 : decode cX7_cold 12 = .ok (.iconst 1, 1) := by decide +kernel
theorem dX7_cold_13 : decode cX7_cold 13 = .ok (.invokestatic 54, 3) := by decide +kernel
theorem dX7_cold_16 : decode cX7_cold 16 = .ok (.ifCond .ne 9, 3) := by decide +kernel
theorem dX7_cold_19 : decode cX7_cold 19 = .ok (.aload_n 0, 1) := by decide +kernel
theorem dX7_cold_20 : decode cX7_cold 20 = .ok (.iconst 1, 1) := by decide +kernel
theorem dX7_cold_21 : decode cX7_cold 21 = .ok (.invokevirtual 58, 3) := by decide +kernel
theorem dX7_cold_24 : decode cX7_cold 24 = .ok (.ireturn, 1) := by decide +kernel
theorem dX7_cold_25 : decode cX7_cold 25 = .ok (.aload_n 0, 1) := by decide +kernel
theorem dX7_cold_26 : decode cX7_cold 26 = .ok (.iconst 0, 1) := by decide +kernel
theorem dX7_cold_27 : decode cX7_cold 27 = .ok (.iload_n 1, 1) := by decide +kernel
theorem dX7_cold_28 : decode cX7_cold 28 = .ok (.invokevirtual 191, 3) := by decide +kernel
theorem dX7_cold_31 : decode cX7_cold 31 = .ok (.astore_n 3, 1) := by decide +kernel
theorem dX7_cold_32 : decode cX7_cold 32 = .ok (.aload_n 3, 1) := by decide +kernel
theorem dX7_cold_33 : decode cX7_cold 33 = .ok (.invokevirtual 227, 3) := by decide +kernel
theorem dX7_cold_36 : decode cX7_cold 36 = .ok (.istore 4, 2) := by decide +kernel
theorem dX7_cold_38 : decode cX7_cold 38 = .ok (.iload_n 2, 1) := by decide +kernel
theorem dX7_cold_39 : decode cX7_cold 39 = .ok (.ifCond .ne 8, 3) := by decide +kernel
theorem dX7_cold_42 : decode cX7_cold 42 = .ok (.iload 4, 2) := by decide +kernel
theorem dX7_cold_44 : decode cX7_cold 44 = .ok (.goto 9, 3) := by decide +kernel
theorem dX7_cold_47 : decode cX7_cold 47 = .ok (.aload_n 3, 1) := by decide +kernel
theorem dX7_cold_48 : decode cX7_cold 48 = .ok (.iload 4, 2) := by decide +kernel
theorem dX7_cold_50 : decode cX7_cold 50 = .ok (.invokevirtual 202, 3) := by decide +kernel
theorem dX7_cold_53 : decode cX7_cold 53 = .ok (.ireturn, 1) := by decide +kernel
theorem dX7_keeps_0 : decode cX7_keeps 0 = .ok (.iload_n 1, 1) := by decide +kernel
theorem dX7_keeps_1 : decode cX7_keeps 1 = .ok (.invokestatic 50, 3) := by decide +kernel
theorem dX7_keeps_4 : decode cX7_keeps 4 = .ok (.ifCond .ne 9, 3) := by decide +kernel
theorem dX7_keeps_7 : decode cX7_keeps 7 = .ok (.aload_n 0, 1) := by decide +kernel
theorem dX7_keeps_8 : decode cX7_keeps 8 = .ok (.iconst 1, 1) := by decide +kernel
theorem dX7_keeps_9 : decode cX7_keeps 9 = .ok (.invokevirtual 58, 3) := by decide +kernel
theorem dX7_keeps_12 : decode cX7_keeps 12 = .ok (.ireturn, 1) := by decide +kernel
theorem dX7_keeps_13 : decode cX7_keeps 13 = .ok (.aload_n 0, 1) := by decide +kernel
theorem dX7_keeps_14 : decode cX7_keeps 14 = .ok (.getfield 10, 3) := by decide +kernel
theorem dX7_keeps_17 : decode cX7_keeps 17 = .ok (.getfield 62, 3) := by decide +kernel
theorem dX7_keeps_20 : decode cX7_keeps 20 = .ok (.iload_n 1, 1) := by decide +kernel
theorem dX7_keeps_21 : decode cX7_keeps 21 = .ok (.iaload, 1) := by decide +kernel
theorem dX7_keeps_22 : decode cX7_keeps 22 = .ok (.iconst 2, 1) := by decide +kernel
theorem dX7_keeps_23 : decode cX7_keeps 23 = .ok (.idiv, 1) := by decide +kernel
theorem dX7_keeps_24 : decode cX7_keeps 24 = .ok (.istore_n 2, 1) := by decide +kernel
theorem dX7_keeps_25 : decode cX7_keeps 25 = .ok (.aload_n 0, 1) := by decide +kernel
theorem dX7_keeps_26 : decode cX7_keeps 26 = .ok (.iconst 0, 1) := by decide +kernel
theorem dX7_keeps_27 : decode cX7_keeps 27 = .ok (.iconst 0, 1) := by decide +kernel
theorem dX7_keeps_28 : decode cX7_keeps 28 = .ok (.invokevirtual 191, 3) := by decide +kernel
theorem dX7_keeps_31 : decode cX7_keeps 31 = .ok (.astore_n 3, 1) := by decide +kernel
theorem dX7_keeps_32 : decode cX7_keeps 32 = .ok (.aload_n 3, 1) := by decide +kernel
theorem dX7_keeps_33 : decode cX7_keeps 33 = .ok (.iconst 0, 1) := by decide +kernel
theorem dX7_keeps_34 : decode cX7_keeps 34 = .ok (.putfield 75, 3) := by decide +kernel
theorem dX7_keeps_37 : decode cX7_keeps 37 = .ok (.iconst 0, 1) := by decide +kernel
theorem dX7_keeps_38 : decode cX7_keeps 38 = .ok (.istore 4, 2) := by decide +kernel
theorem dX7_keeps_40 : decode cX7_keeps 40 = .ok (.iload 4, 2) := by decide +kernel
theorem dX7_keeps_42 : decode cX7_keeps 42 = .ok (.bipush 60, 2) := by decide +kernel
theorem dX7_keeps_44 : decode cX7_keeps 44 = .ok (.if_icmp .gt 27, 3) := by decide +kernel
theorem dX7_keeps_47 : decode cX7_keeps 47 = .ok (.aload_n 3, 1) := by decide +kernel
theorem dX7_keeps_48 : decode cX7_keeps 48 = .ok (.getfield 62, 3) := by decide +kernel
theorem dX7_keeps_51 : decode cX7_keeps 51 = .ok (.iload_n 1, 1) := by decide +kernel
theorem dX7_keeps_52 : decode cX7_keeps 52 = .ok (.iaload, 1) := by decide +kernel
theorem dX7_keeps_53 : decode cX7_keeps 53 = .ok (.iload_n 2, 1) := by decide +kernel
theorem dX7_keeps_54 : decode cX7_keeps 54 = .ok (.if_icmp .ge 6, 3) := by decide +kernel
theorem dX7_keeps_57 : decode cX7_keeps 57 = .ok (.iload 4, 2) := by decide +kernel
theorem dX7_keeps_59 : decode cX7_keeps 59 = .ok (.ireturn, 1) := by decide +kernel
theorem dX7_keeps_60 : decode cX7_keeps 60 = .ok (.aload_n 3, 1) := by decide +kernel
theorem dX7_keeps_61 : decode cX7_keeps 61 = .ok (.iconst 1, 1) := by decide +kernel
theorem dX7_keeps_62 : decode cX7_keeps 62 = .ok (.invokevirtual 181, 3) := by decide +kernel
theorem dX7_keeps_65 : decode cX7_keeps 65 = .ok (.iinc 4 1, 3) := by decide +kernel
theorem dX7_keeps_68 : decode cX7_keeps 68 = .ok (.goto (-28), 3) := by decide +kernel
theorem dX7_keeps_71 : decode cX7_keeps 71 = .ok (.aload_n 0, 1) := by decide +kernel
theorem dX7_keeps_72 : decode cX7_keeps 72 = .ok (.iconst 2, 1) := by decide +kernel
theorem dX7_keeps_73 : decode cX7_keeps 73 = .ok (.invokevirtual 58, 3) := by decide +kernel
theorem dX7_keeps_76 : decode cX7_keeps 76 = .ok (.ireturn, 1) := by decide +kernel
theorem dX7_fuel_0 : decode cX7_fuel 0 = .ok (.iload_n 1, 1) := by decide +kernel
theorem dX7_fuel_1 : decode cX7_fuel 1 = .ok (.iconst 0, 1) := by decide +kernel
theorem dX7_fuel_2 : decode cX7_fuel 2 = .ok (.bipush 60, 2) := by decide +kernel
theorem dX7_fuel_4 : decode cX7_fuel 4 = .ok (.invokestatic 54, 3) := by decide +kernel
theorem dX7_fuel_7 : decode cX7_fuel 7 = .ok (.ifCond .ne 9, 3) := by decide +kernel
theorem dX7_fuel_10 : decode cX7_fuel 10 = .ok (.aload_n 0, 1) := by decide +kernel
theorem dX7_fuel_11 : decode cX7_fuel 11 = .ok (.iconst 1, 1) := by decide +kernel
theorem dX7_fuel_12 : decode cX7_fuel 12 = .ok (.invokevirtual 58, 3) := by decide +kernel
theorem dX7_fuel_15 : decode cX7_fuel 15 = .ok (.ireturn, 1) := by decide +kernel
theorem dX7_fuel_16 : decode cX7_fuel 16 = .ok (.aload_n 0, 1) := by decide +kernel
theorem dX7_fuel_17 : decode cX7_fuel 17 = .ok (.iconst 0, 1) := by decide +kernel
theorem dX7_fuel_18 : decode cX7_fuel 18 = .ok (.iload_n 1, 1) := by decide +kernel
theorem dX7_fuel_19 : decode cX7_fuel 19 = .ok (.invokevirtual 191, 3) := by decide +kernel
theorem dX7_fuel_22 : decode cX7_fuel 22 = .ok (.getfield 82, 3) := by decide +kernel
theorem dX7_fuel_25 : decode cX7_fuel 25 = .ok (.aload_n 0, 1) := by decide +kernel
theorem dX7_fuel_26 : decode cX7_fuel 26 = .ok (.getfield 10, 3) := by decide +kernel
theorem dX7_fuel_29 : decode cX7_fuel 29 = .ok (.getfield 82, 3) := by decide +kernel
theorem dX7_fuel_32 : decode cX7_fuel 32 = .ok (.isub, 1) := by decide +kernel
theorem dX7_fuel_33 : decode cX7_fuel 33 = .ok (.ireturn, 1) := by decide +kernel
theorem dX7_glad_0 : decode cX7_glad 0 = .ok (.iload_n 1, 1) := by decide +kernel
theorem dX7_glad_1 : decode cX7_glad 1 = .ok (.iconst 0, 1) := by decide +kernel
theorem dX7_glad_2 : decode cX7_glad 2 = .ok (.bipush 60, 2) := by decide +kernel
theorem dX7_glad_4 : decode cX7_glad 4 = .ok (.invokestatic 54, 3) := by decide +kernel
theorem dX7_glad_7 : decode cX7_glad 7 = .ok (.ifCond .ne 9, 3) := by decide +kernel
theorem dX7_glad_10 : decode cX7_glad 10 = .ok (.aload_n 0, 1) := by decide +kernel
theorem dX7_glad_11 : decode cX7_glad 11 = .ok (.iconst 1, 1) := by decide +kernel
theorem dX7_glad_12 : decode cX7_glad 12 = .ok (.invokevirtual 58, 3) := by decide +kernel
theorem dX7_glad_15 : decode cX7_glad 15 = .ok (.ireturn, 1) := by decide +kernel
theorem dX7_glad_16 : decode cX7_glad 16 = .ok (.aload_n 0, 1) := by decide +kernel
theorem dX7_glad_17 : decode cX7_glad 17 = .ok (.iconst 0, 1) := by decide +kernel
theorem dX7_glad_18 : decode cX7_glad 18 = .ok (.iload_n 1, 1) := by decide +kernel
theorem dX7_glad_19 : decode cX7_glad 19 = .ok (.invokevirtual 191, 3) := by decide +kernel
theorem dX7_glad_22 : decode cX7_glad 22 = .ok (.invokevirtual 230, 3) := by decide +kernel
theorem dX7_glad_25 : decode cX7_glad 25 = .ok (.aload_n 0, 1) := by decide +kernel
theorem dX7_glad_26 : decode cX7_glad 26 = .ok (.getfield 10, 3) := by decide +kernel
theorem dX7_glad_29 : decode cX7_glad 29 = .ok (.invokevirtual 230, 3) := by decide +kernel
theorem dX7_glad_32 : decode cX7_glad 32 = .ok (.isub, 1) := by decide +kernel
theorem dX7_glad_33 : decode cX7_glad 33 = .ok (.ireturn, 1) := by decide +kernel
theorem dX7_odds_0 : decode cX7_odds 0 = .ok (.aload_n 0, 1) := by decide +kernel
theorem dX7_odds_1 : decode cX7_odds 1 = .ok (.iload_n 1, 1) := by decide +kernel
theorem dX7_odds_2 : decode cX7_odds 2 = .ok (.invokevirtual 97, 3) := by decide +kernel
theorem dX7_odds_5 : decode cX7_odds 5 = .ok (.ifCond .eq 22, 3) := by decide +kernel
theorem dX7_odds_8 : decode cX7_odds 8 = .ok (.iload_n 2, 1) := by decide +kernel
theorem dX7_odds_9 : decode cX7_odds 9 = .ok (.iconst 1, 1) := by decide +kernel
theorem dX7_odds_10 : decode cX7_odds 10 = .ok (.bipush 60, 2) := by decide +kernel
theorem dX7_odds_12 : decode cX7_odds 12 = .ok (.invokestatic 54, 3) := by decide +kernel
theorem dX7_odds_15 : decode cX7_odds 15 = .ok (.ifCond .eq 12, 3) := by decide +kernel
theorem dX7_odds_18 : decode cX7_odds 18 = .ok (.iload_n 3, 1) := by decide +kernel
theorem dX7_odds_19 : decode cX7_odds 19 = .ok (.iconst 0, 1) := by decide +kernel
theorem dX7_odds_20 : decode cX7_odds 20 = .ok (.iconst 1, 1) := by decide +kernel
theorem dX7_odds_21 : decode cX7_odds 21 = .ok (.invokestatic 54, 3) := by decide +kernel
theorem dX7_odds_24 : decode cX7_odds 24 = .ok (.ifCond .ne 9, 3) := by decide +kernel
theorem dX7_odds_27 : decode cX7_odds 27 = .ok (.aload_n 0, 1) := by decide +kernel
theorem dX7_odds_28 : decode cX7_odds 28 = .ok (.iconst 1, 1) := by decide +kernel
theorem dX7_odds_29 : decode cX7_odds 29 = .ok (.invokevirtual 58, 3) := by decide +kernel
theorem dX7_odds_32 : decode cX7_odds 32 = .ok (.ireturn, 1) := by decide +kernel
theorem dX7_odds_33 : decode cX7_odds 33 = .ok (.iconst 0, 1) := by decide +kernel
theorem dX7_odds_34 : decode cX7_odds 34 = .ok (.istore 4, 2) := by decide +kernel
theorem dX7_odds_36 : decode cX7_odds 36 = .ok (.iconst 0, 1) := by decide +kernel
theorem dX7_odds_37 : decode cX7_odds 37 = .ok (.istore 5, 2) := by decide +kernel
theorem dX7_odds_39 : decode cX7_odds 39 = .ok (.iload 5, 2) := by decide +kernel
theorem dX7_odds_41 : decode cX7_odds 41 = .ok (.bipush 10, 2) := by decide +kernel
theorem dX7_odds_43 : decode cX7_odds 43 = .ok (.if_icmp .ge 28, 3) := by decide +kernel
theorem dX7_odds_46 : decode cX7_odds 46 = .ok (.iload 4, 2) := by decide +kernel
theorem dX7_odds_48 : decode cX7_odds 48 = .ok (.aload_n 0, 1) := by decide +kernel
theorem dX7_odds_49 : decode cX7_odds 49 = .ok (.iload 5, 2) := by decide +kernel
theorem dX7_odds_51 : decode cX7_odds 51 = .ok (.bipush 10, 2) := by decide +kernel
theorem dX7_odds_53 : decode cX7_odds 53 = .ok (.imul, 1) := by decide +kernel
theorem dX7_odds_54 : decode cX7_odds 54 = .ok (.iload_n 2, 1) := by decide +kernel
theorem dX7_odds_55 : decode cX7_odds 55 = .ok (.invokevirtual 198, 3) := by decide +kernel
theorem dX7_odds_58 : decode cX7_odds 58 = .ok (.iload_n 1, 1) := by decide +kernel
theorem dX7_odds_59 : decode cX7_odds 59 = .ok (.ishr, 1) := by decide +kernel
theorem dX7_odds_60 : decode cX7_odds 60 = .ok (.iconst 1, 1) := by decide +kernel
theorem dX7_odds_61 : decode cX7_odds 61 = .ok (.iand, 1) := by decide +kernel
theorem dX7_odds_62 : decode cX7_odds 62 = .ok (.iadd, 1) := by decide +kernel
theorem dX7_odds_63 : decode cX7_odds 63 = .ok (.istore 4, 2) := by decide +kernel
theorem dX7_odds_65 : decode cX7_odds 65 = .ok (.iinc 5 1, 3) := by decide +kernel
theorem dX7_odds_68 : decode cX7_odds 68 = .ok (.goto (-29), 3) := by decide +kernel
theorem dX7_odds_71 : decode cX7_odds 71 = .ok (.iload 4, 2) := by decide +kernel
theorem dX7_odds_73 : decode cX7_odds 73 = .ok (.invokestatic 233, 3) := by decide +kernel
theorem dX7_odds_76 : decode cX7_odds 76 = .ok (.istore 5, 2) := by decide +kernel
theorem dX7_odds_78 : decode cX7_odds 78 = .ok (.iload_n 3, 1) := by decide +kernel
theorem dX7_odds_79 : decode cX7_odds 79 = .ok (.ifCond .ne 8, 3) := by decide +kernel
theorem dX7_odds_82 : decode cX7_odds 82 = .ok (.iload 4, 2) := by decide +kernel
theorem dX7_odds_84 : decode cX7_odds 84 = .ok (.goto 5, 3) := by decide +kernel
theorem dX7_odds_87 : decode cX7_odds 87 = .ok (.bipush 10, 2) := by decide +kernel
theorem dX7_odds_89 : decode cX7_odds 89 = .ok (.iload 5, 2) := by decide +kernel
theorem dX7_odds_91 : decode cX7_odds 91 = .ok (.idiv, 1) := by decide +kernel
theorem dX7_odds_92 : decode cX7_odds 92 = .ok (.ireturn, 1) := by decide +kernel
theorem dX7_seed_0 : decode cX7_seed 0 = .ok (.aload_n 0, 1) := by decide +kernel
theorem dX7_seed_1 : decode cX7_seed 1 = .ok (.getfield 10, 3) := by decide +kernel
theorem dX7_seed_4 : decode cX7_seed 4 = .ok (.getfield 236, 3) := by decide +kernel
theorem dX7_seed_7 : decode cX7_seed 7 = .ok (.istore_n 2, 1) := by decide +kernel
theorem dX7_seed_8 : decode cX7_seed 8 = .ok (.aload_n 0, 1) := by decide +kernel
theorem dX7_seed_9 : decode cX7_seed 9 = .ok (.getfield 10, 3) := by decide +kernel
theorem dX7_seed_12 : decode cX7_seed 12 = .ok (.iload_n 1, 1) := by decide +kernel
theorem dX7_seed_13 : decode cX7_seed 13 = .ok (.putfield 236, 3) := by decide +kernel
theorem dX7_seed_16 : decode cX7_seed 16 = .ok (.iload_n 2, 1) := by decide +kernel
theorem dX7_seed_17 : decode cX7_seed 17 = .ok (.ireturn, 1) := by decide +kernel
theorem dX7_voice_0 : decode cX7_voice 0 = .ok (.aload_n 0, 1) := by decide +kernel
theorem dX7_voice_1 : decode cX7_voice 1 = .ok (.iload_n 1, 1) := by decide +kernel
theorem dX7_voice_2 : decode cX7_voice 2 = .ok (.invokevirtual 97, 3) := by decide +kernel
theorem dX7_voice_5 : decode cX7_voice 5 = .ok (.ifCond .eq 12, 3) := by decide +kernel
theorem dX7_voice_8 : decode cX7_voice 8 = .ok (.iload_n 2, 1) := by decide +kernel
theorem dX7_voice_9 : decode cX7_voice 9 = .ok (.iconst 0, 1) := by decide +kernel
theorem dX7_voice_10 : decode cX7_voice 10 = .ok (.iconst 3, 1) := by decide +kernel
theorem dX7_voice_11 : decode cX7_voice 11 = .ok (.invokestatic 54, 3) := by decide +kernel
theorem dX7_voice_14 : decode cX7_voice 14 = .ok (.ifCond .ne 9, 3) := by decide +kernel
theorem dX7_voice_17 : decode cX7_voice 17 = .ok (.aload_n 0, 1) := by decide +kernel
theorem dX7_voice_18 : decode cX7_voice 18 = .ok (.iconst 1, 1) := by decide +kernel
theorem dX7_voice_19 : decode cX7_voice 19 = .ok (.invokevirtual 58, 3) := by decide +kernel
theorem dX7_voice_22 : decode cX7_voice 22 = .ok (.ireturn, 1) := by decide +kernel
theorem dX7_voice_23 : decode cX7_voice 23 = .ok (.aload_n 0, 1) := by decide +kernel
theorem dX7_voice_24 : decode cX7_voice 24 = .ok (.getfield 32, 3) := by decide +kernel
theorem dX7_voice_27 : decode cX7_voice 27 = .ok (.iload_n 1, 1) := by decide +kernel
theorem dX7_voice_28 : decode cX7_voice 28 = .ok (.aload_n 0, 1) := by decide +kernel
theorem dX7_voice_29 : decode cX7_voice 29 = .ok (.getfield 10, 3) := by decide +kernel
theorem dX7_voice_32 : decode cX7_voice 32 = .ok (.getfield 88, 3) := by decide +kernel
theorem dX7_voice_35 : decode cX7_voice 35 = .ok (.iload_n 1, 1) := by decide +kernel
theorem dX7_voice_36 : decode cX7_voice 36 = .ok (.iaload, 1) := by decide +kernel
theorem dX7_voice_37 : decode cX7_voice 37 = .ok (.iload_n 2, 1) := by decide +kernel
theorem dX7_voice_38 : decode cX7_voice 38 = .ok (.iload_n 3, 1) := by decide +kernel
theorem dX7_voice_39 : decode cX7_voice 39 = .ok (.invokevirtual 239, 3) := by decide +kernel
theorem dX7_voice_42 : decode cX7_voice 42 = .ok (.ireturn, 1) := by decide +kernel
theorem dX7_trace_0 : decode cX7_trace 0 = .ok (.aload_n 0, 1) := by decide +kernel
theorem dX7_trace_1 : decode cX7_trace 1 = .ok (.getfield 32, 3) := by decide +kernel
theorem dX7_trace_4 : decode cX7_trace 4 = .ok (.getfield 243, 3) := by decide +kernel
theorem dX7_trace_7 : decode cX7_trace 7 = .ok (.iload_n 1, 1) := by decide +kernel
theorem dX7_trace_8 : decode cX7_trace 8 = .ok (.invokevirtual 246, 3) := by decide +kernel
theorem dX7_trace_11 : decode cX7_trace 11 = .ok (.ifCond .ne 9, 3) := by decide +kernel
theorem dX7_trace_14 : decode cX7_trace 14 = .ok (.aload_n 0, 1) := by decide +kernel
theorem dX7_trace_15 : decode cX7_trace 15 = .ok (.iconst 2, 1) := by decide +kernel
theorem dX7_trace_16 : decode cX7_trace 16 = .ok (.invokevirtual 58, 3) := by decide +kernel
theorem dX7_trace_19 : decode cX7_trace 19 = .ok (.ireturn, 1) := by decide +kernel
theorem dX7_trace_20 : decode cX7_trace 20 = .ok (.aload_n 0, 1) := by decide +kernel
theorem dX7_trace_21 : decode cX7_trace 21 = .ok (.getfield 32, 3) := by decide +kernel
theorem dX7_trace_24 : decode cX7_trace 24 = .ok (.getfield 243, 3) := by decide +kernel
theorem dX7_trace_27 : decode cX7_trace 27 = .ok (.iload_n 1, 1) := by decide +kernel
theorem dX7_trace_28 : decode cX7_trace 28 = .ok (.invokevirtual 249, 3) := by decide +kernel
theorem dX7_trace_31 : decode cX7_trace 31 = .ok (.ireturn, 1) := by decide +kernel
theorem dX7_sheet_0 : decode cX7_sheet 0 = .ok (.iload_n 1, 1) := by decide +kernel
theorem dX7_sheet_1 : decode cX7_sheet 1 = .ok (.invokestatic 205, 3) := by decide +kernel
theorem dX7_sheet_4 : decode cX7_sheet 4 = .ok (.ifCond .eq 25, 3) := by decide +kernel
theorem dX7_sheet_7 : decode cX7_sheet 7 = .ok (.iload_n 2, 1) := by decide +kernel
theorem dX7_sheet_8 : decode cX7_sheet 8 = .ok (.ifCond .eq 27, 3) := by decide +kernel
theorem dX7_sheet_11 : decode cX7_sheet 11 = .ok (.iload_n 2, 1) := by decide +kernel
theorem dX7_sheet_12 : decode cX7_sheet 12 = .ok (.bipush 8, 2) := by decide +kernel
theorem dX7_sheet_14 : decode cX7_sheet 14 = .ok (.if_icmp .eq 21, 3) := by decide +kernel
theorem dX7_sheet_17 : decode cX7_sheet 17 = .ok (.iload_n 2, 1) := by decide +kernel
theorem dX7_sheet_18 : decode cX7_sheet 18 = .ok (.bipush 16, 2) := by decide +kernel
theorem dX7_sheet_20 : decode cX7_sheet 20 = .ok (.if_icmp .eq 15, 3) := by decide +kernel
theorem dX7_sheet_23 : decode cX7_sheet 23 = .ok (.iload_n 2, 1) := by decide +kernel
theorem dX7_sheet_24 : decode cX7_sheet 24 = .ok (.bipush 32, 2) := by decide +kernel
theorem dX7_sheet_26 : decode cX7_sheet 26 = .ok (.if_icmp .eq 9, 3) := by decide +kernel
theorem dX7_sheet_29 : decode cX7_sheet 29 = .ok (.aload_n 0, 1) := by decide +kernel
theorem dX7_sheet_30 : decode cX7_sheet 30 = .ok (.iconst 1, 1) := by decide +kernel
theorem dX7_sheet_31 : decode cX7_sheet 31 = .ok (.invokevirtual 58, 3) := by decide +kernel
theorem dX7_sheet_34 : decode cX7_sheet 34 = .ok (.ireturn, 1) := by decide +kernel
theorem dX7_sheet_35 : decode cX7_sheet 35 = .ok (.iload_n 2, 1) := by decide +kernel
theorem dX7_sheet_36 : decode cX7_sheet 36 = .ok (.ifCond .eq 13, 3) := by decide +kernel
theorem dX7_sheet_39 : decode cX7_sheet 39 = .ok (.iload_n 3, 1) := by decide +kernel
theorem dX7_sheet_40 : decode cX7_sheet 40 = .ok (.ifCond .ge 9, 3) := by decide +kernel
theorem dX7_sheet_43 : decode cX7_sheet 43 = .ok (.aload_n 0, 1) := by decide +kernel
theorem dX7_sheet_44 : decode cX7_sheet 44 = .ok (.iconst 3, 1) := by decide +kernel
theorem dX7_sheet_45 : decode cX7_sheet 45 = .ok (.invokevirtual 58, 3) := by decide +kernel
theorem dX7_sheet_48 : decode cX7_sheet 48 = .ok (.ireturn, 1) := by decide +kernel
theorem dX7_sheet_49 : decode cX7_sheet 49 = .ok (.iload_n 2, 1) := by decide +kernel
theorem dX7_sheet_50 : decode cX7_sheet 50 = .ok (.ifCond .eq 15, 3) := by decide +kernel
theorem dX7_sheet_53 : decode cX7_sheet 53 = .ok (.iload_n 3, 1) := by decide +kernel
theorem dX7_sheet_54 : decode cX7_sheet 54 = .ok (.bipush 40, 2) := by decide +kernel
theorem dX7_sheet_56 : decode cX7_sheet 56 = .ok (.if_icmp .le 9, 3) := by decide +kernel
theorem dX7_sheet_59 : decode cX7_sheet 59 = .ok (.aload_n 0, 1) := by decide +kernel
theorem dX7_sheet_60 : decode cX7_sheet 60 = .ok (.iconst 1, 1) := by decide +kernel
theorem dX7_sheet_61 : decode cX7_sheet 61 = .ok (.invokevirtual 58, 3) := by decide +kernel
theorem dX7_sheet_64 : decode cX7_sheet 64 = .ok (.ireturn, 1) := by decide +kernel
theorem dX7_sheet_65 : decode cX7_sheet 65 = .ok (.aload_n 0, 1) := by decide +kernel
theorem dX7_sheet_66 : decode cX7_sheet 66 = .ok (.getfield 38, 3) := by decide +kernel
theorem dX7_sheet_69 : decode cX7_sheet 69 = .ok (.iload_n 1, 1) := by decide +kernel
theorem dX7_sheet_70 : decode cX7_sheet 70 = .ok (.aaload, 1) := by decide +kernel
theorem dX7_sheet_71 : decode cX7_sheet 71 = .ok (.iload_n 2, 1) := by decide +kernel
theorem dX7_sheet_72 : decode cX7_sheet 72 = .ok (.iload_n 2, 1) := by decide +kernel
theorem dX7_sheet_73 : decode cX7_sheet 73 = .ok (.ifCond .ne 7, 3) := by decide +kernel
theorem dX7_sheet_76 : decode cX7_sheet 76 = .ok (.iconst 0, 1) := by decide +kernel
theorem dX7_sheet_77 : decode cX7_sheet 77 = .ok (.goto 4, 3) := by decide +kernel
theorem dX7_sheet_80 : decode cX7_sheet 80 = .ok (.iload_n 3, 1) := by decide +kernel
theorem dX7_sheet_81 : decode cX7_sheet 81 = .ok (.invokevirtual 251, 3) := by decide +kernel
theorem dX7_sheet_84 : decode cX7_sheet 84 = .ok (.iconst 1, 1) := by decide +kernel
theorem dX7_sheet_85 : decode cX7_sheet 85 = .ok (.ireturn, 1) := by decide +kernel
theorem dX7_put_0 : decode cX7_put 0 = .ok (.iload_n 1, 1) := by decide +kernel
theorem dX7_put_1 : decode cX7_put 1 = .ok (.invokestatic 205, 3) := by decide +kernel
theorem dX7_put_4 : decode cX7_put 4 = .ok (.ifCond .ne 9, 3) := by decide +kernel
theorem dX7_put_7 : decode cX7_put 7 = .ok (.aload_n 0, 1) := by decide +kernel
theorem dX7_put_8 : decode cX7_put 8 = .ok (.iconst 1, 1) := by decide +kernel
theorem dX7_put_9 : decode cX7_put 9 = .ok (.invokevirtual 58, 3) := by decide +kernel
theorem dX7_put_12 : decode cX7_put 12 = .ok (.ireturn, 1) := by decide +kernel
theorem dX7_put_13 : decode cX7_put 13 = .ok (.aload_n 0, 1) := by decide +kernel
theorem dX7_put_14 : decode cX7_put 14 = .ok (.getfield 38, 3) := by decide +kernel
theorem dX7_put_17 : decode cX7_put 17 = .ok (.iload_n 1, 1) := by decide +kernel
theorem dX7_put_18 : decode cX7_put 18 = .ok (.aaload, 1) := by decide +kernel
theorem dX7_put_19 : decode cX7_put 19 = .ok (.astore 4, 2) := by decide +kernel
theorem dX7_put_21 : decode cX7_put 21 = .ok (.aload 4, 2) := by decide +kernel
theorem dX7_put_23 : decode cX7_put 23 = .ok (.invokevirtual 208, 3) := by decide +kernel
theorem dX7_put_26 : decode cX7_put 26 = .ok (.ifCond .eq 9, 3) := by decide +kernel
theorem dX7_put_29 : decode cX7_put 29 = .ok (.aload_n 0, 1) := by decide +kernel
theorem dX7_put_30 : decode cX7_put 30 = .ok (.iconst 2, 1) := by decide +kernel
theorem dX7_put_31 : decode cX7_put 31 = .ok (.invokevirtual 58, 3) := by decide +kernel
theorem dX7_put_34 : decode cX7_put 34 = .ok (.ireturn, 1) := by decide +kernel
theorem dX7_put_35 : decode cX7_put 35 = .ok (.aload 4, 2) := by decide +kernel
theorem dX7_put_37 : decode cX7_put 37 = .ok (.getfield 212, 3) := by decide +kernel
theorem dX7_put_40 : decode cX7_put 40 = .ok (.iload_n 2, 1) := by decide +kernel
theorem dX7_put_41 : decode cX7_put 41 = .ok (.invokevirtual 246, 3) := by decide +kernel
theorem dX7_put_44 : decode cX7_put 44 = .ok (.ifCond .ne 9, 3) := by decide +kernel
theorem dX7_put_47 : decode cX7_put 47 = .ok (.aload_n 0, 1) := by decide +kernel
theorem dX7_put_48 : decode cX7_put 48 = .ok (.iconst 1, 1) := by decide +kernel
theorem dX7_put_49 : decode cX7_put 49 = .ok (.invokevirtual 58, 3) := by decide +kernel
theorem dX7_put_52 : decode cX7_put 52 = .ok (.ireturn, 1) := by decide +kernel
theorem dX7_put_53 : decode cX7_put 53 = .ok (.aload 4, 2) := by decide +kernel
theorem dX7_put_55 : decode cX7_put 55 = .ok (.getfield 212, 3) := by decide +kernel
theorem dX7_put_58 : decode cX7_put 58 = .ok (.getfield 255, 3) := by decide +kernel
theorem dX7_put_61 : decode cX7_put 61 = .ok (.iload_n 2, 1) := by decide +kernel
theorem dX7_put_62 : decode cX7_put 62 = .ok (.aload 4, 2) := by decide +kernel
theorem dX7_put_64 : decode cX7_put 64 = .ok (.iload_n 3, 1) := by decide +kernel
theorem dX7_put_65 : decode cX7_put 65 = .ok (.invokevirtual 258, 3) := by decide +kernel
theorem dX7_put_68 : decode cX7_put 68 = .ok (.iastore, 1) := by decide +kernel
theorem dX7_put_69 : decode cX7_put 69 = .ok (.iconst 1, 1) := by decide +kernel
theorem dX7_put_70 : decode cX7_put 70 = .ok (.ireturn, 1) := by decide +kernel
theorem dX7_move_0 : decode cX7_move 0 = .ok (.iload_n 1, 1) := by decide +kernel
theorem dX7_move_1 : decode cX7_move 1 = .ok (.invokestatic 205, 3) := by decide +kernel
theorem dX7_move_4 : decode cX7_move 4 = .ok (.ifCond .eq 10, 3) := by decide +kernel
theorem dX7_move_7 : decode cX7_move 7 = .ok (.iload_n 3, 1) := by decide +kernel
theorem dX7_move_8 : decode cX7_move 8 = .ok (.invokestatic 205, 3) := by decide +kernel
theorem dX7_move_11 : decode cX7_move 11 = .ok (.ifCond .ne 9, 3) := by decide +kernel
theorem dX7_move_14 : decode cX7_move 14 = .ok (.aload_n 0, 1) := by decide +kernel
theorem dX7_move_15 : decode cX7_move 15 = .ok (.iconst 1, 1) := by decide +kernel
theorem dX7_move_16 : decode cX7_move 16 = .ok (.invokevirtual 58, 3) := by decide +kernel
theorem dX7_move_19 : decode cX7_move 19 = .ok (.ireturn, 1) := by decide +kernel
theorem dX7_move_20 : decode cX7_move 20 = .ok (.aload_n 0, 1) := by decide +kernel
theorem dX7_move_21 : decode cX7_move 21 = .ok (.getfield 38, 3) := by decide +kernel
theorem dX7_move_24 : decode cX7_move 24 = .ok (.iload_n 1, 1) := by decide +kernel
theorem dX7_move_25 : decode cX7_move 25 = .ok (.aaload, 1) := by decide +kernel
theorem dX7_move_26 : decode cX7_move 26 = .ok (.astore 6, 2) := by decide +kernel
theorem dX7_move_28 : decode cX7_move 28 = .ok (.aload_n 0, 1) := by decide +kernel
theorem dX7_move_29 : decode cX7_move 29 = .ok (.getfield 38, 3) := by decide +kernel
theorem dX7_move_32 : decode cX7_move 32 = .ok (.iload_n 3, 1) := by decide +kernel
theorem dX7_move_33 : decode cX7_move 33 = .ok (.aaload, 1) := by decide +kernel
theorem dX7_move_34 : decode cX7_move 34 = .ok (.astore 7, 2) := by decide +kernel
theorem dX7_move_36 : decode cX7_move 36 = .ok (.aload 6, 2) := by decide +kernel
theorem dX7_move_38 : decode cX7_move 38 = .ok (.invokevirtual 208, 3) := by decide +kernel
theorem dX7_move_41 : decode cX7_move 41 = .ok (.ifCond .ne 11, 3) := by decide +kernel
theorem dX7_move_44 : decode cX7_move 44 = .ok (.aload 7, 2) := by decide +kernel
theorem dX7_move_46 : decode cX7_move 46 = .ok (.invokevirtual 208, 3) := by decide +kernel
theorem dX7_move_49 : decode cX7_move 49 = .ok (.ifCond .eq 9, 3) := by decide +kernel
theorem dX7_move_52 : decode cX7_move 52 = .ok (.aload_n 0, 1) := by decide +kernel
theorem dX7_move_53 : decode cX7_move 53 = .ok (.iconst 2, 1) := by decide +kernel
theorem dX7_move_54 : decode cX7_move 54 = .ok (.invokevirtual 58, 3) := by decide +kernel
theorem dX7_move_57 : decode cX7_move 57 = .ok (.ireturn, 1) := by decide +kernel
theorem dX7_move_58 : decode cX7_move 58 = .ok (.aload 6, 2) := by decide +kernel
theorem dX7_move_60 : decode cX7_move 60 = .ok (.getfield 261, 3) := by decide +kernel
theorem dX7_move_63 : decode cX7_move 63 = .ok (.aload 7, 2) := by decide +kernel
theorem dX7_move_65 : decode cX7_move 65 = .ok (.getfield 261, 3) := by decide +kernel
theorem dX7_move_68 : decode cX7_move 68 = .ok (.if_icmp .eq 9, 3) := by decide +kernel
theorem dX7_move_71 : decode cX7_move 71 = .ok (.aload_n 0, 1) := by decide +kernel
theorem dX7_move_72 : decode cX7_move 72 = .ok (.iconst 5, 1) := by decide +kernel
theorem dX7_move_73 : decode cX7_move 73 = .ok (.invokevirtual 58, 3) := by decide +kernel
theorem dX7_move_76 : decode cX7_move 76 = .ok (.ireturn, 1) := by decide +kernel
theorem dX7_move_77 : decode cX7_move 77 = .ok (.aload 6, 2) := by decide +kernel
theorem dX7_move_79 : decode cX7_move 79 = .ok (.getfield 212, 3) := by decide +kernel
theorem dX7_move_82 : decode cX7_move 82 = .ok (.iload_n 2, 1) := by decide +kernel
theorem dX7_move_83 : decode cX7_move 83 = .ok (.iload 5, 2) := by decide +kernel
theorem dX7_move_85 : decode cX7_move 85 = .ok (.invokevirtual 264, 3) := by decide +kernel
theorem dX7_move_88 : decode cX7_move 88 = .ok (.ifCond .eq 18, 3) := by decide +kernel
theorem dX7_move_91 : decode cX7_move 91 = .ok (.aload 7, 2) := by decide +kernel
theorem dX7_move_93 : decode cX7_move 93 = .ok (.getfield 212, 3) := by decide +kernel
theorem dX7_move_96 : decode cX7_move 96 = .ok (.iload 4, 2) := by decide +kernel
theorem dX7_move_98 : decode cX7_move 98 = .ok (.iload 5, 2) := by decide +kernel
theorem dX7_move_100 : decode cX7_move 100 = .ok (.invokevirtual 264, 3) := by decide +kernel
theorem dX7_move_103 : decode cX7_move 103 = .ok (.ifCond .ne 9, 3) := by decide +kernel
theorem dX7_move_106 : decode cX7_move 106 = .ok (.aload_n 0, 1) := by decide +kernel
theorem dX7_move_107 : decode cX7_move 107 = .ok (.iconst 1, 1) := by decide +kernel
theorem dX7_move_108 : decode cX7_move 108 = .ok (.invokevirtual 58, 3) := by decide +kernel
theorem dX7_move_111 : decode cX7_move 111 = .ok (.ireturn, 1) := by decide +kernel
theorem dX7_move_112 : decode cX7_move 112 = .ok (.aload 6, 2) := by decide +kernel
theorem dX7_move_114 : decode cX7_move 114 = .ok (.getfield 212, 3) := by decide +kernel
theorem dX7_move_117 : decode cX7_move 117 = .ok (.getfield 255, 3) := by decide +kernel
theorem dX7_move_120 : decode cX7_move 120 = .ok (.iload_n 2, 1) := by decide +kernel
theorem dX7_move_121 : decode cX7_move 121 = .ok (.aload 7, 2) := by decide +kernel
theorem dX7_move_123 : decode cX7_move 123 = .ok (.getfield 212, 3) := by decide +kernel
theorem dX7_move_126 : decode cX7_move 126 = .ok (.getfield 255, 3) := by decide +kernel
theorem dX7_move_129 : decode cX7_move 129 = .ok (.iload 4, 2) := by decide +kernel
theorem dX7_move_131 : decode cX7_move 131 = .ok (.iload 5, 2) := by decide +kernel
theorem dX7_move_133 : decode cX7_move 133 = .ok (.invokestatic 267, 3) := by decide +kernel
theorem dX7_move_136 : decode cX7_move 136 = .ok (.iload 5, 2) := by decide +kernel
theorem dX7_move_138 : decode cX7_move 138 = .ok (.ireturn, 1) := by decide +kernel
theorem dX7_heats_0 : decode cX7_heats 0 = .ok (.iload_n 1, 1) := by decide +kernel
theorem dX7_heats_1 : decode cX7_heats 1 = .ok (.invokestatic 205, 3) := by decide +kernel
theorem dX7_heats_4 : decode cX7_heats 4 = .ok (.ifCond .ne 9, 3) := by decide +kernel
theorem dX7_heats_7 : decode cX7_heats 7 = .ok (.aload_n 0, 1) := by decide +kernel
theorem dX7_heats_8 : decode cX7_heats 8 = .ok (.iconst 1, 1) := by decide +kernel
theorem dX7_heats_9 : decode cX7_heats 9 = .ok (.invokevirtual 58, 3) := by decide +kernel
theorem dX7_heats_12 : decode cX7_heats 12 = .ok (.ireturn, 1) := by decide +kernel
theorem dX7_heats_13 : decode cX7_heats 13 = .ok (.aload_n 0, 1) := by decide +kernel
theorem dX7_heats_14 : decode cX7_heats 14 = .ok (.getfield 38, 3) := by decide +kernel
theorem dX7_heats_17 : decode cX7_heats 17 = .ok (.iload_n 1, 1) := by decide +kernel
theorem dX7_heats_18 : decode cX7_heats 18 = .ok (.aaload, 1) := by decide +kernel
theorem dX7_heats_19 : decode cX7_heats 19 = .ok (.astore_n 2, 1) := by decide +kernel
theorem dX7_heats_20 : decode cX7_heats 20 = .ok (.aload_n 2, 1) := by decide +kernel
theorem dX7_heats_21 : decode cX7_heats 21 = .ok (.invokevirtual 208, 3) := by decide +kernel
theorem dX7_heats_24 : decode cX7_heats 24 = .ok (.ifCond .eq 9, 3) := by decide +kernel
theorem dX7_heats_27 : decode cX7_heats 27 = .ok (.aload_n 0, 1) := by decide +kernel
theorem dX7_heats_28 : decode cX7_heats 28 = .ok (.iconst 2, 1) := by decide +kernel
theorem dX7_heats_29 : decode cX7_heats 29 = .ok (.invokevirtual 58, 3) := by decide +kernel
theorem dX7_heats_32 : decode cX7_heats 32 = .ok (.ireturn, 1) := by decide +kernel
theorem dX7_heats_33 : decode cX7_heats 33 = .ok (.iconst 0, 1) := by decide +kernel
theorem dX7_heats_34 : decode cX7_heats 34 = .ok (.istore_n 3, 1) := by decide +kernel
theorem dX7_heats_35 : decode cX7_heats 35 = .ok (.iconst 0, 1) := by decide +kernel
theorem dX7_heats_36 : decode cX7_heats 36 = .ok (.istore 4, 2) := by decide +kernel
theorem dX7_heats_38 : decode cX7_heats 38 = .ok (.iload 4, 2) := by decide +kernel
theorem dX7_heats_40 : decode cX7_heats 40 = .ok (.bipush 16, 2) := by decide +kernel
theorem dX7_heats_42 : decode cX7_heats 42 = .ok (.if_icmp .ge 62, 3) := by decide +kernel
theorem dX7_heats_45 : decode cX7_heats 45 = .ok (.aload_n 2, 1) := by decide +kernel
theorem dX7_heats_46 : decode cX7_heats 46 = .ok (.getfield 212, 3) := by decide +kernel
theorem dX7_heats_49 : decode cX7_heats 49 = .ok (.iload 4, 2) := by decide +kernel
theorem dX7_heats_51 : decode cX7_heats 51 = .ok (.invokevirtual 246, 3) := by decide +kernel
theorem dX7_heats_54 : decode cX7_heats 54 = .ok (.ifCond .eq 50, 3) := by decide +kernel
theorem dX7_heats_57 : decode cX7_heats 57 = .ok (.aload_n 2, 1) := by decide +kernel
theorem dX7_heats_58 : decode cX7_heats 58 = .ok (.getfield 212, 3) := by decide +kernel
theorem dX7_heats_61 : decode cX7_heats 61 = .ok (.iload 4, 2) := by decide +kernel
theorem dX7_heats_63 : decode cX7_heats 63 = .ok (.invokevirtual 249, 3) := by decide +kernel
theorem dX7_heats_66 : decode cX7_heats 66 = .ok (.istore 5, 2) := by decide +kernel
theorem dX7_heats_68 : decode cX7_heats 68 = .ok (.iload 5, 2) := by decide +kernel
theorem dX7_heats_70 : decode cX7_heats 70 = .ok (.iconst 0, 1) := by decide +kernel
theorem dX7_heats_71 : decode cX7_heats 71 = .ok (.sipush 999, 3) := by decide +kernel
theorem dX7_heats_74 : decode cX7_heats 74 = .ok (.invokestatic 54, 3) := by decide +kernel
theorem dX7_heats_77 : decode cX7_heats 77 = .ok (.ifCond .ne 6, 3) := by decide +kernel
theorem dX7_heats_80 : decode cX7_heats 80 = .ok (.goto 24, 3) := by decide +kernel
theorem dX7_heats_83 : decode cX7_heats 83 = .ok (.aload_n 0, 1) := by decide +kernel
theorem dX7_heats_84 : decode cX7_heats 84 = .ok (.getfield 10, 3) := by decide +kernel
theorem dX7_heats_87 : decode cX7_heats 87 = .ok (.getfield 62, 3) := by decide +kernel
theorem dX7_heats_90 : decode cX7_heats 90 = .ok (.iload 4, 2) := by decide +kernel
theorem dX7_heats_92 : decode cX7_heats 92 = .ok (.iload 5, 2) := by decide +kernel
theorem dX7_heats_94 : decode cX7_heats 94 = .ok (.iastore, 1) := by decide +kernel
theorem dX7_heats_95 : decode cX7_heats 95 = .ok (.iinc 3 1, 3) := by decide +kernel
theorem dX7_heats_98 : decode cX7_heats 98 = .ok (.iinc 4 1, 3) := by decide +kernel
theorem dX7_heats_101 : decode cX7_heats 101 = .ok (.goto (-63), 3) := by decide +kernel
theorem dX7_heats_104 : decode cX7_heats 104 = .ok (.iload_n 3, 1) := by decide +kernel
theorem dX7_heats_105 : decode cX7_heats 105 = .ok (.ireturn, 1) := by decide +kernel
theorem dX7_judge_0 : decode cX7_judge 0 = .ok (.iload_n 1, 1) := by decide +kernel
theorem dX7_judge_1 : decode cX7_judge 1 = .ok (.invokestatic 205, 3) := by decide +kernel
theorem dX7_judge_4 : decode cX7_judge 4 = .ok (.ifCond .ne 9, 3) := by decide +kernel
theorem dX7_judge_7 : decode cX7_judge 7 = .ok (.aload_n 0, 1) := by decide +kernel
theorem dX7_judge_8 : decode cX7_judge 8 = .ok (.iconst 1, 1) := by decide +kernel
theorem dX7_judge_9 : decode cX7_judge 9 = .ok (.invokevirtual 58, 3) := by decide +kernel
theorem dX7_judge_12 : decode cX7_judge 12 = .ok (.ireturn, 1) := by decide +kernel
theorem dX7_judge_13 : decode cX7_judge 13 = .ok (.aload_n 0, 1) := by decide +kernel
theorem dX7_judge_14 : decode cX7_judge 14 = .ok (.getfield 38, 3) := by decide +kernel
theorem dX7_judge_17 : decode cX7_judge 17 = .ok (.iload_n 1, 1) := by decide +kernel
theorem dX7_judge_18 : decode cX7_judge 18 = .ok (.aaload, 1) := by decide +kernel
theorem dX7_judge_19 : decode cX7_judge 19 = .ok (.astore_n 2, 1) := by decide +kernel
theorem dX7_judge_20 : decode cX7_judge 20 = .ok (.aload_n 2, 1) := by decide +kernel
theorem dX7_judge_21 : decode cX7_judge 21 = .ok (.invokevirtual 208, 3) := by decide +kernel
theorem dX7_judge_24 : decode cX7_judge 24 = .ok (.ifCond .eq 9, 3) := by decide +kernel
theorem dX7_judge_27 : decode cX7_judge 27 = .ok (.aload_n 0, 1) := by decide +kernel
theorem dX7_judge_28 : decode cX7_judge 28 = .ok (.iconst 2, 1) := by decide +kernel
theorem dX7_judge_29 : decode cX7_judge 29 = .ok (.invokevirtual 58, 3) := by decide +kernel
theorem dX7_judge_32 : decode cX7_judge 32 = .ok (.ireturn, 1) := by decide +kernel
theorem dX7_judge_33 : decode cX7_judge 33 = .ok (.aload_n 2, 1) := by decide +kernel
theorem dX7_judge_34 : decode cX7_judge 34 = .ok (.getfield 212, 3) := by decide +kernel
theorem dX7_judge_37 : decode cX7_judge 37 = .ok (.getfield 140, 3) := by decide +kernel
theorem dX7_judge_40 : decode cX7_judge 40 = .ok (.istore_n 3, 1) := by decide +kernel
theorem dX7_judge_41 : decode cX7_judge 41 = .ok (.iload_n 3, 1) := by decide +kernel
theorem dX7_judge_42 : decode cX7_judge 42 = .ok (.aload_n 0, 1) := by decide +kernel
theorem dX7_judge_43 : decode cX7_judge 43 = .ok (.getfield 10, 3) := by decide +kernel
theorem dX7_judge_46 : decode cX7_judge 46 = .ok (.getfield 85, 3) := by decide +kernel
theorem dX7_judge_49 : decode cX7_judge 49 = .ok (.bipush 8, 2) := by decide +kernel
theorem dX7_judge_51 : decode cX7_judge 51 = .ok (.invokestatic 273, 3) := by decide +kernel
theorem dX7_judge_54 : decode cX7_judge 54 = .ok (.invokestatic 273, 3) := by decide +kernel
theorem dX7_judge_57 : decode cX7_judge 57 = .ok (.istore 4, 2) := by decide +kernel
theorem dX7_judge_59 : decode cX7_judge 59 = .ok (.iconst 0, 1) := by decide +kernel
theorem dX7_judge_60 : decode cX7_judge 60 = .ok (.istore 5, 2) := by decide +kernel
theorem dX7_judge_62 : decode cX7_judge 62 = .ok (.iload 5, 2) := by decide +kernel
theorem dX7_judge_64 : decode cX7_judge 64 = .ok (.iload 4, 2) := by decide +kernel
theorem dX7_judge_66 : decode cX7_judge 66 = .ok (.if_icmp .ge 34, 3) := by decide +kernel
theorem dX7_judge_69 : decode cX7_judge 69 = .ok (.aload_n 2, 1) := by decide +kernel
theorem dX7_judge_70 : decode cX7_judge 70 = .ok (.getfield 212, 3) := by decide +kernel
theorem dX7_judge_73 : decode cX7_judge 73 = .ok (.iload 5, 2) := by decide +kernel
theorem dX7_judge_75 : decode cX7_judge 75 = .ok (.invokevirtual 249, 3) := by decide +kernel
theorem dX7_judge_78 : decode cX7_judge 78 = .ok (.aload_n 0, 1) := by decide +kernel
theorem dX7_judge_79 : decode cX7_judge 79 = .ok (.getfield 10, 3) := by decide +kernel
theorem dX7_judge_82 : decode cX7_judge 82 = .ok (.getfield 91, 3) := by decide +kernel
theorem dX7_judge_85 : decode cX7_judge 85 = .ok (.iload 5, 2) := by decide +kernel
theorem dX7_judge_87 : decode cX7_judge 87 = .ok (.iaload, 1) := by decide +kernel
theorem dX7_judge_88 : decode cX7_judge 88 = .ok (.if_icmp .eq 6, 3) := by decide +kernel
theorem dX7_judge_91 : decode cX7_judge 91 = .ok (.iload 5, 2) := by decide +kernel
theorem dX7_judge_93 : decode cX7_judge 93 = .ok (.ireturn, 1) := by decide +kernel
theorem dX7_judge_94 : decode cX7_judge 94 = .ok (.iinc 5 1, 3) := by decide +kernel
theorem dX7_judge_97 : decode cX7_judge 97 = .ok (.goto (-35), 3) := by decide +kernel
theorem dX7_judge_100 : decode cX7_judge 100 = .ok (.iload_n 3, 1) := by decide +kernel
theorem dX7_judge_101 : decode cX7_judge 101 = .ok (.aload_n 0, 1) := by decide +kernel
theorem dX7_judge_102 : decode cX7_judge 102 = .ok (.getfield 10, 3) := by decide +kernel
theorem dX7_judge_105 : decode cX7_judge 105 = .ok (.getfield 85, 3) := by decide +kernel
theorem dX7_judge_108 : decode cX7_judge 108 = .ok (.if_icmp .ne 7, 3) := by decide +kernel
theorem dX7_judge_111 : decode cX7_judge 111 = .ok (.iconst (-1), 1) := by decide +kernel
theorem dX7_judge_112 : decode cX7_judge 112 = .ok (.goto 5, 3) := by decide +kernel
theorem dX7_judge_115 : decode cX7_judge 115 = .ok (.iload 4, 2) := by decide +kernel
theorem dX7_judge_117 : decode cX7_judge 117 = .ok (.ireturn, 1) := by decide +kernel
theorem dX7_image_0 : decode cX7_image 0 = .ok (.aload_n 0, 1) := by decide +kernel
theorem dX7_image_1 : decode cX7_image 1 = .ok (.getfield 16, 3) := by decide +kernel
theorem dX7_image_4 : decode cX7_image 4 = .ok (.aload_n 0, 1) := by decide +kernel
theorem dX7_image_5 : decode cX7_image 5 = .ok (.getfield 10, 3) := by decide +kernel
theorem dX7_image_8 : decode cX7_image 8 = .ok (.invokevirtual 278, 3) := by decide +kernel
theorem dX7_image_11 : decode cX7_image 11 = .ok (.aload_n 0, 1) := by decide +kernel
theorem dX7_image_12 : decode cX7_image 12 = .ok (.dup, 1) := by decide +kernel
theorem dX7_image_13 : decode cX7_image 13 = .ok (.getfield 281, 3) := by decide +kernel
theorem dX7_image_16 : decode cX7_image 16 = .ok (.iconst 1, 1) := by decide +kernel
theorem dX7_image_17 : decode cX7_image 17 = .ok (.iadd, 1) := by decide +kernel
theorem dX7_image_18 : decode cX7_image 18 = .ok (.putfield 281, 3) := by decide +kernel
theorem dX7_image_21 : decode cX7_image 21 = .ok (.aload_n 0, 1) := by decide +kernel
theorem dX7_image_22 : decode cX7_image 22 = .ok (.getfield 281, 3) := by decide +kernel
theorem dX7_image_25 : decode cX7_image 25 = .ok (.ireturn, 1) := by decide +kernel
theorem dX7_restore_0 : decode cX7_restore 0 = .ok (.aload_n 0, 1) := by decide +kernel
theorem dX7_restore_1 : decode cX7_restore 1 = .ok (.getfield 281, 3) := by decide +kernel
theorem dX7_restore_4 : decode cX7_restore 4 = .ok (.ifCond .ne 9, 3) := by decide +kernel
theorem dX7_restore_7 : decode cX7_restore 7 = .ok (.aload_n 0, 1) := by decide +kernel
theorem dX7_restore_8 : decode cX7_restore 8 = .ok (.iconst 2, 1) := by decide +kernel
theorem dX7_restore_9 : decode cX7_restore 9 = .ok (.invokevirtual 58, 3) := by decide +kernel
theorem dX7_restore_12 : decode cX7_restore 12 = .ok (.ireturn, 1) := by decide +kernel
theorem dX7_restore_13 : decode cX7_restore 13 = .ok (.aload_n 0, 1) := by decide +kernel
theorem dX7_restore_14 : decode cX7_restore 14 = .ok (.getfield 10, 3) := by decide +kernel
theorem dX7_restore_17 : decode cX7_restore 17 = .ok (.aload_n 0, 1) := by decide +kernel
theorem dX7_restore_18 : decode cX7_restore 18 = .ok (.getfield 16, 3) := by decide +kernel
theorem dX7_restore_21 : decode cX7_restore 21 = .ok (.invokevirtual 278, 3) := by decide +kernel
theorem dX7_restore_24 : decode cX7_restore 24 = .ok (.aload_n 0, 1) := by decide +kernel
theorem dX7_restore_25 : decode cX7_restore 25 = .ok (.getfield 10, 3) := by decide +kernel
theorem dX7_restore_28 : decode cX7_restore 28 = .ok (.getfield 178, 3) := by decide +kernel
theorem dX7_restore_31 : decode cX7_restore 31 = .ok (.ireturn, 1) := by decide +kernel
theorem dX7_tell_0 : decode cX7_tell 0 = .ok (.aload_n 0, 1) := by decide +kernel
theorem dX7_tell_1 : decode cX7_tell 1 = .ok (.getfield 10, 3) := by decide +kernel
theorem dX7_tell_4 : decode cX7_tell 4 = .ok (.getfield 284, 3) := by decide +kernel
theorem dX7_tell_7 : decode cX7_tell 7 = .ok (.invokevirtual 131, 3) := by decide +kernel
theorem dX7_tell_10 : decode cX7_tell 10 = .ok (.ifCond .ne 9, 3) := by decide +kernel
theorem dX7_tell_13 : decode cX7_tell 13 = .ok (.aload_n 0, 1) := by decide +kernel
theorem dX7_tell_14 : decode cX7_tell 14 = .ok (.iconst 4, 1) := by decide +kernel
theorem dX7_tell_15 : decode cX7_tell 15 = .ok (.invokevirtual 58, 3) := by decide +kernel
theorem dX7_tell_18 : decode cX7_tell 18 = .ok (.ireturn, 1) := by decide +kernel
theorem dX7_tell_19 : decode cX7_tell 19 = .ok (.aload_n 0, 1) := by decide +kernel
theorem dX7_tell_20 : decode cX7_tell 20 = .ok (.getfield 10, 3) := by decide +kernel
theorem dX7_tell_23 : decode cX7_tell 23 = .ok (.getfield 284, 3) := by decide +kernel
theorem dX7_tell_26 : decode cX7_tell 26 = .ok (.iload_n 1, 1) := by decide +kernel
theorem dX7_tell_27 : decode cX7_tell 27 = .ok (.invokevirtual 137, 3) := by decide +kernel
theorem dX7_tell_30 : decode cX7_tell 30 = .ok (.pop, 1) := by decide +kernel
theorem dX7_tell_31 : decode cX7_tell 31 = .ok (.aload_n 0, 1) := by decide +kernel
theorem dX7_tell_32 : decode cX7_tell 32 = .ok (.getfield 10, 3) := by decide +kernel
theorem dX7_tell_35 : decode cX7_tell 35 = .ok (.getfield 284, 3) := by decide +kernel
theorem dX7_tell_38 : decode cX7_tell 38 = .ok (.getfield 140, 3) := by decide +kernel
theorem dX7_tell_41 : decode cX7_tell 41 = .ok (.ireturn, 1) := by decide +kernel
theorem dX7_check_0 : decode cX7_check 0 = .ok (.aload_n 0, 1) := by decide +kernel
theorem dX7_check_1 : decode cX7_check 1 = .ok (.iconst 0, 1) := by decide +kernel
theorem dX7_check_2 : decode cX7_check 2 = .ok (.iconst 0, 1) := by decide +kernel
theorem dX7_check_3 : decode cX7_check 3 = .ok (.invokevirtual 191, 3) := by decide +kernel
theorem dX7_check_6 : decode cX7_check 6 = .ok (.astore_n 1, 1) := by decide +kernel
theorem dX7_check_7 : decode cX7_check 7 = .ok (.aload_n 0, 1) := by decide +kernel
theorem dX7_check_8 : decode cX7_check 8 = .ok (.getfield 10, 3) := by decide +kernel
theorem dX7_check_11 : decode cX7_check 11 = .ok (.getfield 284, 3) := by decide +kernel
theorem dX7_check_14 : decode cX7_check 14 = .ok (.astore_n 2, 1) := by decide +kernel
theorem dX7_check_15 : decode cX7_check 15 = .ok (.iconst 0, 1) := by decide +kernel
theorem dX7_check_16 : decode cX7_check 16 = .ok (.istore_n 3, 1) := by decide +kernel
theorem dX7_check_17 : decode cX7_check 17 = .ok (.iconst 0, 1) := by decide +kernel
theorem dX7_check_18 : decode cX7_check 18 = .ok (.istore 4, 2) := by decide +kernel
theorem dX7_check_20 : decode cX7_check 20 = .ok (.iload 4, 2) := by decide +kernel
theorem dX7_check_22 : decode cX7_check 22 = .ok (.aload_n 2, 1) := by decide +kernel
theorem dX7_check_23 : decode cX7_check 23 = .ok (.getfield 140, 3) := by decide +kernel
theorem dX7_check_26 : decode cX7_check 26 = .ok (.if_icmp .ge 36, 3) := by decide +kernel
theorem dX7_check_29 : decode cX7_check 29 = .ok (.iload_n 3, 1) := by decide +kernel
theorem dX7_check_30 : decode cX7_check 30 = .ok (.ifCond .ne 32, 3) := by decide +kernel
theorem dX7_check_33 : decode cX7_check 33 = .ok (.aload_n 1, 1) := by decide +kernel
theorem dX7_check_34 : decode cX7_check 34 = .ok (.iconst 1, 1) := by decide +kernel
theorem dX7_check_35 : decode cX7_check 35 = .ok (.invokevirtual 181, 3) := by decide +kernel
theorem dX7_check_38 : decode cX7_check 38 = .ok (.aload_n 2, 1) := by decide +kernel
theorem dX7_check_39 : decode cX7_check 39 = .ok (.iload 4, 2) := by decide +kernel
theorem dX7_check_41 : decode cX7_check 41 = .ok (.invokevirtual 249, 3) := by decide +kernel
theorem dX7_check_44 : decode cX7_check 44 = .ok (.aload_n 1, 1) := by decide +kernel
theorem dX7_check_45 : decode cX7_check 45 = .ok (.invokevirtual 185, 3) := by decide +kernel
theorem dX7_check_48 : decode cX7_check 48 = .ok (.if_icmp .eq 8, 3) := by decide +kernel
theorem dX7_check_51 : decode cX7_check 51 = .ok (.iconst 1, 1) := by decide +kernel
theorem dX7_check_52 : decode cX7_check 52 = .ok (.iload 4, 2) := by decide +kernel
theorem dX7_check_54 : decode cX7_check 54 = .ok (.iadd, 1) := by decide +kernel
theorem dX7_check_55 : decode cX7_check 55 = .ok (.istore_n 3, 1) := by decide +kernel
theorem dX7_check_56 : decode cX7_check 56 = .ok (.iinc 4 1, 3) := by decide +kernel
theorem dX7_check_59 : decode cX7_check 59 = .ok (.goto (-39), 3) := by decide +kernel
theorem dX7_check_62 : decode cX7_check 62 = .ok (.aload_n 2, 1) := by decide +kernel
theorem dX7_check_63 : decode cX7_check 63 = .ok (.iconst 0, 1) := by decide +kernel
theorem dX7_check_64 : decode cX7_check 64 = .ok (.putfield 140, 3) := by decide +kernel
theorem dX7_check_67 : decode cX7_check 67 = .ok (.iload_n 3, 1) := by decide +kernel
theorem dX7_check_68 : decode cX7_check 68 = .ok (.ireturn, 1) := by decide +kernel
theorem dX7_count_0 : decode cX7_count 0 = .ok (.iload_n 1, 1) := by decide +kernel
theorem dX7_count_1 : decode cX7_count 1 = .ok (.tableswitch 156 0 10 #[59, 67, 75, 83, 91, 99, 107, 115, 126, 137, 148], 59) := by decide +kernel
theorem dX7_count_60 : decode cX7_count 60 = .ok (.aload_n 0, 1) := by decide +kernel
theorem dX7_count_61 : decode cX7_count 61 = .ok (.getfield 10, 3) := by decide +kernel
theorem dX7_count_64 : decode cX7_count 64 = .ok (.getfield 85, 3) := by decide +kernel
theorem dX7_count_67 : decode cX7_count 67 = .ok (.ireturn, 1) := by decide +kernel
theorem dX7_count_68 : decode cX7_count 68 = .ok (.aload_n 0, 1) := by decide +kernel
theorem dX7_count_69 : decode cX7_count 69 = .ok (.getfield 10, 3) := by decide +kernel
theorem dX7_count_72 : decode cX7_count 72 = .ok (.getfield 178, 3) := by decide +kernel
theorem dX7_count_75 : decode cX7_count 75 = .ok (.ireturn, 1) := by decide +kernel
theorem dX7_count_76 : decode cX7_count 76 = .ok (.aload_n 0, 1) := by decide +kernel
theorem dX7_count_77 : decode cX7_count 77 = .ok (.getfield 10, 3) := by decide +kernel
theorem dX7_count_80 : decode cX7_count 80 = .ok (.getfield 75, 3) := by decide +kernel
theorem dX7_count_83 : decode cX7_count 83 = .ok (.ireturn, 1) := by decide +kernel
theorem dX7_count_84 : decode cX7_count 84 = .ok (.aload_n 0, 1) := by decide +kernel
theorem dX7_count_85 : decode cX7_count 85 = .ok (.getfield 10, 3) := by decide +kernel
theorem dX7_count_88 : decode cX7_count 88 = .ok (.getfield 78, 3) := by decide +kernel
theorem dX7_count_91 : decode cX7_count 91 = .ok (.ireturn, 1) := by decide +kernel
theorem dX7_count_92 : decode cX7_count 92 = .ok (.aload_n 0, 1) := by decide +kernel
theorem dX7_count_93 : decode cX7_count 93 = .ok (.getfield 10, 3) := by decide +kernel
theorem dX7_count_96 : decode cX7_count 96 = .ok (.getfield 82, 3) := by decide +kernel
theorem dX7_count_99 : decode cX7_count 99 = .ok (.ireturn, 1) := by decide +kernel
theorem dX7_count_100 : decode cX7_count 100 = .ok (.aload_n 0, 1) := by decide +kernel
theorem dX7_count_101 : decode cX7_count 101 = .ok (.getfield 10, 3) := by decide +kernel
theorem dX7_count_104 : decode cX7_count 104 = .ok (.invokevirtual 185, 3) := by decide +kernel
theorem dX7_count_107 : decode cX7_count 107 = .ok (.ireturn, 1) := by decide +kernel
theorem dX7_count_108 : decode cX7_count 108 = .ok (.aload_n 0, 1) := by decide +kernel
theorem dX7_count_109 : decode cX7_count 109 = .ok (.getfield 10, 3) := by decide +kernel
theorem dX7_count_112 : decode cX7_count 112 = .ok (.invokevirtual 230, 3) := by decide +kernel
theorem dX7_count_115 : decode cX7_count 115 = .ok (.ireturn, 1) := by decide +kernel
theorem dX7_count_116 : decode cX7_count 116 = .ok (.aload_n 0, 1) := by decide +kernel
theorem dX7_count_117 : decode cX7_count 117 = .ok (.getfield 10, 3) := by decide +kernel
theorem dX7_count_120 : decode cX7_count 120 = .ok (.getfield 127, 3) := by decide +kernel
theorem dX7_count_123 : decode cX7_count 123 = .ok (.getfield 140, 3) := by decide +kernel
theorem dX7_count_126 : decode cX7_count 126 = .ok (.ireturn, 1) := by decide +kernel
theorem dX7_count_127 : decode cX7_count 127 = .ok (.aload_n 0, 1) := by decide +kernel
theorem dX7_count_128 : decode cX7_count 128 = .ok (.getfield 10, 3) := by decide +kernel
theorem dX7_count_131 : decode cX7_count 131 = .ok (.getfield 284, 3) := by decide +kernel
theorem dX7_count_134 : decode cX7_count 134 = .ok (.getfield 140, 3) := by decide +kernel
theorem dX7_count_137 : decode cX7_count 137 = .ok (.ireturn, 1) := by decide +kernel
theorem dX7_count_138 : decode cX7_count 138 = .ok (.aload_n 0, 1) := by decide +kernel
theorem dX7_count_139 : decode cX7_count 139 = .ok (.getfield 32, 3) := by decide +kernel
theorem dX7_count_142 : decode cX7_count 142 = .ok (.getfield 243, 3) := by decide +kernel
theorem dX7_count_145 : decode cX7_count 145 = .ok (.getfield 140, 3) := by decide +kernel
theorem dX7_count_148 : decode cX7_count 148 = .ok (.ireturn, 1) := by decide +kernel
theorem dX7_count_149 : decode cX7_count 149 = .ok (.aload_n 0, 1) := by decide +kernel
theorem dX7_count_150 : decode cX7_count 150 = .ok (.getfield 10, 3) := by decide +kernel
theorem dX7_count_153 : decode cX7_count 153 = .ok (.getfield 236, 3) := by decide +kernel
theorem dX7_count_156 : decode cX7_count 156 = .ok (.ireturn, 1) := by decide +kernel
theorem dX7_count_157 : decode cX7_count 157 = .ok (.aload_n 0, 1) := by decide +kernel
theorem dX7_count_158 : decode cX7_count 158 = .ok (.iconst 1, 1) := by decide +kernel
theorem dX7_count_159 : decode cX7_count 159 = .ok (.invokevirtual 58, 3) := by decide +kernel
theorem dX7_count_162 : decode cX7_count 162 = .ok (.ireturn, 1) := by decide +kernel
theorem dX7_told_0 : decode cX7_told 0 = .ok (.iload_n 1, 1) := by decide +kernel
theorem dX7_told_1 : decode cX7_told 1 = .ok (.iconst 1, 1) := by decide +kernel
theorem dX7_told_2 : decode cX7_told 2 = .ok (.iconst 5, 1) := by decide +kernel
theorem dX7_told_3 : decode cX7_told 3 = .ok (.invokestatic 54, 3) := by decide +kernel
theorem dX7_told_6 : decode cX7_told 6 = .ok (.ifCond .ne 9, 3) := by decide +kernel
theorem dX7_told_9 : decode cX7_told 9 = .ok (.aload_n 0, 1) := by decide +kernel
theorem dX7_told_10 : decode cX7_told 10 = .ok (.iconst 1, 1) := by decide +kernel
theorem dX7_told_11 : decode cX7_told 11 = .ok (.invokevirtual 58, 3) := by decide +kernel
theorem dX7_told_14 : decode cX7_told 14 = .ok (.ireturn, 1) := by decide +kernel
theorem dX7_told_15 : decode cX7_told 15 = .ok (.aload_n 0, 1) := by decide +kernel
theorem dX7_told_16 : decode cX7_told 16 = .ok (.getfield 46, 3) := by decide +kernel
theorem dX7_told_19 : decode cX7_told 19 = .ok (.iload_n 1, 1) := by decide +kernel
theorem dX7_told_20 : decode cX7_told 20 = .ok (.iaload, 1) := by decide +kernel
theorem dX7_told_21 : decode cX7_told 21 = .ok (.ireturn, 1) := by decide +kernel
theorem dX7_error_0 : decode cX7_error 0 = .ok (.iload_n 1, 1) := by decide +kernel
theorem dX7_error_1 : decode cX7_error 1 = .ok (.ifCond .lt 22, 3) := by decide +kernel
theorem dX7_error_4 : decode cX7_error 4 = .ok (.iload_n 1, 1) := by decide +kernel
theorem dX7_error_5 : decode cX7_error 5 = .ok (.aload_n 0, 1) := by decide +kernel
theorem dX7_error_6 : decode cX7_error 6 = .ok (.getfield 46, 3) := by decide +kernel
theorem dX7_error_9 : decode cX7_error 9 = .ok (.arraylength, 1) := by decide +kernel
theorem dX7_error_10 : decode cX7_error 10 = .ok (.if_icmp .ge 13, 3) := by decide +kernel
theorem dX7_error_13 : decode cX7_error 13 = .ok (.aload_n 0, 1) := by decide +kernel
theorem dX7_error_14 : decode cX7_error 14 = .ok (.getfield 46, 3) := by decide +kernel
theorem dX7_error_17 : decode cX7_error 17 = .ok (.iload_n 1, 1) := by decide +kernel
theorem dX7_error_18 : decode cX7_error 18 = .ok (.dup2, 1) := by decide +kernel
theorem dX7_error_19 : decode cX7_error 19 = .ok (.iaload, 1) := by decide +kernel
theorem dX7_error_20 : decode cX7_error 20 = .ok (.iconst 1, 1) := by decide +kernel
theorem dX7_error_21 : decode cX7_error 21 = .ok (.iadd, 1) := by decide +kernel
theorem dX7_error_22 : decode cX7_error 22 = .ok (.iastore, 1) := by decide +kernel
theorem dX7_error_23 : decode cX7_error 23 = .ok (.ldc_w 287, 3) := by decide +kernel
theorem dX7_error_26 : decode cX7_error 26 = .ok (.iload_n 1, 1) := by decide +kernel
theorem dX7_error_27 : decode cX7_error 27 = .ok (.isub, 1) := by decide +kernel
theorem dX7_error_28 : decode cX7_error 28 = .ok (.ireturn, 1) := by decide +kernel
theorem dX7_within_0 : decode cX7_within 0 = .ok (.iload_n 0, 1) := by decide +kernel
theorem dX7_within_1 : decode cX7_within 1 = .ok (.iload_n 1, 1) := by decide +kernel
theorem dX7_within_2 : decode cX7_within 2 = .ok (.if_icmp .lt 12, 3) := by decide +kernel
theorem dX7_within_5 : decode cX7_within 5 = .ok (.iload_n 0, 1) := by decide +kernel
theorem dX7_within_6 : decode cX7_within 6 = .ok (.iload_n 2, 1) := by decide +kernel
theorem dX7_within_7 : decode cX7_within 7 = .ok (.if_icmp .gt 7, 3) := by decide +kernel
theorem dX7_within_10 : decode cX7_within 10 = .ok (.iconst 1, 1) := by decide +kernel
theorem dX7_within_11 : decode cX7_within 11 = .ok (.goto 4, 3) := by decide +kernel
theorem dX7_within_14 : decode cX7_within 14 = .ok (.iconst 0, 1) := by decide +kernel
theorem dX7_within_15 : decode cX7_within 15 = .ok (.ireturn, 1) := by decide +kernel
theorem dX7_isCell_0 : decode cX7_isCell 0 = .ok (.iload_n 0, 1) := by decide +kernel
theorem dX7_isCell_1 : decode cX7_isCell 1 = .ok (.iconst 0, 1) := by decide +kernel
theorem dX7_isCell_2 : decode cX7_isCell 2 = .ok (.bipush 15, 2) := by decide +kernel
theorem dX7_isCell_4 : decode cX7_isCell 4 = .ok (.invokestatic 54, 3) := by decide +kernel
theorem dX7_isCell_7 : decode cX7_isCell 7 = .ok (.ireturn, 1) := by decide +kernel
theorem dX7_isDoor_0 : decode cX7_isDoor 0 = .ok (.iload_n 0, 1) := by decide +kernel
theorem dX7_isDoor_1 : decode cX7_isDoor 1 = .ok (.iconst 0, 1) := by decide +kernel
theorem dX7_isDoor_2 : decode cX7_isDoor 2 = .ok (.bipush 11, 2) := by decide +kernel
theorem dX7_isDoor_4 : decode cX7_isDoor 4 = .ok (.invokestatic 54, 3) := by decide +kernel
theorem dX7_isDoor_7 : decode cX7_isDoor 7 = .ok (.ireturn, 1) := by decide +kernel
theorem dX7_isUse_0 : decode cX7_isUse 0 = .ok (.iload_n 0, 1) := by decide +kernel
theorem dX7_isUse_1 : decode cX7_isUse 1 = .ok (.ifCond .eq 8, 3) := by decide +kernel
theorem dX7_isUse_4 : decode cX7_isUse 4 = .ok (.iload_n 0, 1) := by decide +kernel
theorem dX7_isUse_5 : decode cX7_isUse 5 = .ok (.iconst 1, 1) := by decide +kernel
theorem dX7_isUse_6 : decode cX7_isUse 6 = .ok (.if_icmp .ne 7, 3) := by decide +kernel
theorem dX7_isUse_9 : decode cX7_isUse 9 = .ok (.iconst 1, 1) := by decide +kernel
theorem dX7_isUse_10 : decode cX7_isUse 10 = .ok (.goto 4, 3) := by decide +kernel
theorem dX7_isUse_13 : decode cX7_isUse 13 = .ok (.iconst 0, 1) := by decide +kernel
theorem dX7_isUse_14 : decode cX7_isUse 14 = .ok (.ireturn, 1) := by decide +kernel
theorem dX7_isSheet_0 : decode cX7_isSheet 0 = .ok (.iload_n 0, 1) := by decide +kernel
theorem dX7_isSheet_1 : decode cX7_isSheet 1 = .ok (.iconst 0, 1) := by decide +kernel
theorem dX7_isSheet_2 : decode cX7_isSheet 2 = .ok (.iconst 3, 1) := by decide +kernel
theorem dX7_isSheet_3 : decode cX7_isSheet 3 = .ok (.invokestatic 54, 3) := by decide +kernel
theorem dX7_isSheet_6 : decode cX7_isSheet 6 = .ok (.ireturn, 1) := by decide +kernel
theorem dX7_isHouse_0 : decode cX7_isHouse 0 = .ok (.iload_n 1, 1) := by decide +kernel
theorem dX7_isHouse_1 : decode cX7_isHouse 1 = .ok (.ifCond .lt 24, 3) := by decide +kernel
theorem dX7_isHouse_4 : decode cX7_isHouse 4 = .ok (.iload_n 1, 1) := by decide +kernel
theorem dX7_isHouse_5 : decode cX7_isHouse 5 = .ok (.aload_n 0, 1) := by decide +kernel
theorem dX7_isHouse_6 : decode cX7_isHouse 6 = .ok (.getfield 10, 3) := by decide +kernel
theorem dX7_isHouse_9 : decode cX7_isHouse 9 = .ok (.getfield 85, 3) := by decide +kernel
theorem dX7_isHouse_12 : decode cX7_isHouse 12 = .ok (.if_icmp .ge 13, 3) := by decide +kernel
theorem dX7_isHouse_15 : decode cX7_isHouse 15 = .ok (.iload_n 1, 1) := by decide +kernel
theorem dX7_isHouse_16 : decode cX7_isHouse 16 = .ok (.bipush 8, 2) := by decide +kernel
theorem dX7_isHouse_18 : decode cX7_isHouse 18 = .ok (.if_icmp .ge 7, 3) := by decide +kernel
theorem dX7_isHouse_21 : decode cX7_isHouse 21 = .ok (.iconst 1, 1) := by decide +kernel
theorem dX7_isHouse_22 : decode cX7_isHouse 22 = .ok (.goto 4, 3) := by decide +kernel
theorem dX7_isHouse_25 : decode cX7_isHouse 25 = .ok (.iconst 0, 1) := by decide +kernel
theorem dX7_isHouse_26 : decode cX7_isHouse 26 = .ok (.ireturn, 1) := by decide +kernel
theorem dX7_behind_0 : decode cX7_behind 0 = .ok (.aload_n 0, 1) := by decide +kernel
theorem dX7_behind_1 : decode cX7_behind 1 = .ok (.getfield 19, 3) := by decide +kernel
theorem dX7_behind_4 : decode cX7_behind 4 = .ok (.aload_n 0, 1) := by decide +kernel
theorem dX7_behind_5 : decode cX7_behind 5 = .ok (.getfield 10, 3) := by decide +kernel
theorem dX7_behind_8 : decode cX7_behind 8 = .ok (.invokevirtual 278, 3) := by decide +kernel
theorem dX7_behind_11 : decode cX7_behind 11 = .ok (.aload_n 0, 1) := by decide +kernel
theorem dX7_behind_12 : decode cX7_behind 12 = .ok (.getfield 19, 3) := by decide +kernel
theorem dX7_behind_15 : decode cX7_behind 15 = .ok (.dup, 1) := by decide +kernel
theorem dX7_behind_16 : decode cX7_behind 16 = .ok (.getfield 71, 3) := by decide +kernel
theorem dX7_behind_19 : decode cX7_behind 19 = .ok (.iload_n 1, 1) := by decide +kernel
theorem dX7_behind_20 : decode cX7_behind 20 = .ok (.ixor, 1) := by decide +kernel
theorem dX7_behind_21 : decode cX7_behind 21 = .ok (.putfield 71, 3) := by decide +kernel
theorem dX7_behind_24 : decode cX7_behind 24 = .ok (.aload_n 0, 1) := by decide +kernel
theorem dX7_behind_25 : decode cX7_behind 25 = .ok (.getfield 19, 3) := by decide +kernel
theorem dX7_behind_28 : decode cX7_behind 28 = .ok (.iload_n 2, 1) := by decide +kernel
theorem dX7_behind_29 : decode cX7_behind 29 = .ok (.invokevirtual 181, 3) := by decide +kernel
theorem dX7_behind_32 : decode cX7_behind 32 = .ok (.aload_n 0, 1) := by decide +kernel
theorem dX7_behind_33 : decode cX7_behind 33 = .ok (.getfield 19, 3) := by decide +kernel
theorem dX7_behind_36 : decode cX7_behind 36 = .ok (.areturn, 1) := by decide +kernel
theorem dX7_contentWith_0 : decode cX7_contentWith 0 = .ok (.aload_n 0, 1) := by decide +kernel
theorem dX7_contentWith_1 : decode cX7_contentWith 1 = .ok (.getfield 19, 3) := by decide +kernel
theorem dX7_contentWith_4 : decode cX7_contentWith 4 = .ok (.aload_n 0, 1) := by decide +kernel
theorem dX7_contentWith_5 : decode cX7_contentWith 5 = .ok (.getfield 10, 3) := by decide +kernel
theorem dX7_contentWith_8 : decode cX7_contentWith 8 = .ok (.invokevirtual 278, 3) := by decide +kernel
theorem dX7_contentWith_11 : decode cX7_contentWith 11 = .ok (.aload_n 0, 1) := by decide +kernel
theorem dX7_contentWith_12 : decode cX7_contentWith 12 = .ok (.getfield 19, 3) := by decide +kernel
theorem dX7_contentWith_15 : decode cX7_contentWith 15 = .ok (.iload_n 1, 1) := by decide +kernel
theorem dX7_contentWith_16 : decode cX7_contentWith 16 = .ok (.putfield 75, 3) := by decide +kernel
theorem dX7_contentWith_19 : decode cX7_contentWith 19 = .ok (.aload_n 0, 1) := by decide +kernel
theorem dX7_contentWith_20 : decode cX7_contentWith 20 = .ok (.getfield 19, 3) := by decide +kernel
theorem dX7_contentWith_23 : decode cX7_contentWith 23 = .ok (.iload_n 2, 1) := by decide +kernel
theorem dX7_contentWith_24 : decode cX7_contentWith 24 = .ok (.invokevirtual 181, 3) := by decide +kernel
theorem dX7_contentWith_27 : decode cX7_contentWith 27 = .ok (.aload_n 0, 1) := by decide +kernel
theorem dX7_contentWith_28 : decode cX7_contentWith 28 = .ok (.getfield 19, 3) := by decide +kernel
theorem dX7_contentWith_31 : decode cX7_contentWith 31 = .ok (.getfield 288, 3) := by decide +kernel
theorem dX7_contentWith_34 : decode cX7_contentWith 34 = .ok (.ireturn, 1) := by decide +kernel
theorem dX7_commonWithTen_0 : decode cX7_commonWithTen 0 = .ok (.iload_n 0, 1) := by decide +kernel
theorem dX7_commonWithTen_1 : decode cX7_commonWithTen 1 = .ok (.bipush 10, 2) := by decide +kernel
theorem dX7_commonWithTen_3 : decode cX7_commonWithTen 3 = .ok (.irem, 1) := by decide +kernel
theorem dX7_commonWithTen_4 : decode cX7_commonWithTen 4 = .ok (.ifCond .ne 6, 3) := by decide +kernel
theorem dX7_commonWithTen_7 : decode cX7_commonWithTen 7 = .ok (.bipush 10, 2) := by decide +kernel
theorem dX7_commonWithTen_9 : decode cX7_commonWithTen 9 = .ok (.ireturn, 1) := by decide +kernel
theorem dX7_commonWithTen_10 : decode cX7_commonWithTen 10 = .ok (.iload_n 0, 1) := by decide +kernel
theorem dX7_commonWithTen_11 : decode cX7_commonWithTen 11 = .ok (.iconst 5, 1) := by decide +kernel
theorem dX7_commonWithTen_12 : decode cX7_commonWithTen 12 = .ok (.irem, 1) := by decide +kernel
theorem dX7_commonWithTen_13 : decode cX7_commonWithTen 13 = .ok (.ifCond .ne 5, 3) := by decide +kernel
theorem dX7_commonWithTen_16 : decode cX7_commonWithTen 16 = .ok (.iconst 5, 1) := by decide +kernel
theorem dX7_commonWithTen_17 : decode cX7_commonWithTen 17 = .ok (.ireturn, 1) := by decide +kernel
theorem dX7_commonWithTen_18 : decode cX7_commonWithTen 18 = .ok (.iload_n 0, 1) := by decide +kernel
theorem dX7_commonWithTen_19 : decode cX7_commonWithTen 19 = .ok (.iconst 2, 1) := by decide +kernel
theorem dX7_commonWithTen_20 : decode cX7_commonWithTen 20 = .ok (.irem, 1) := by decide +kernel
theorem dX7_commonWithTen_21 : decode cX7_commonWithTen 21 = .ok (.ifCond .ne 7, 3) := by decide +kernel
theorem dX7_commonWithTen_24 : decode cX7_commonWithTen 24 = .ok (.iconst 2, 1) := by decide +kernel
theorem dX7_commonWithTen_25 : decode cX7_commonWithTen 25 = .ok (.goto 4, 3) := by decide +kernel
theorem dX7_commonWithTen_28 : decode cX7_commonWithTen 28 = .ok (.iconst 1, 1) := by decide +kernel
theorem dX7_commonWithTen_29 : decode cX7_commonWithTen 29 = .ok (.ireturn, 1) := by decide +kernel
