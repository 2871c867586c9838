theorem dX5_copyFrom_150 : decode cX5_copyFrom 150 = .ok (.aload_n 0, 1) := by decide +kernel
theorem dX5_copyFrom_151 : decode cX5_copyFrom 151 = .ok (.getfield 49, 3) := by decide +kernel
theorem dX5_copyFrom_154 : decode cX5_copyFrom 154 = .ok (.aload_n 1, 1) := by decide +kernel
theorem dX5_copyFrom_155 : decode cX5_copyFrom 155 = .ok (.getfield 49, 3) := by decide +kernel
theorem dX5_copyFrom_158 : decode cX5_copyFrom 158 = .ok (.invokevirtual 83, 3) := by decide +kernel
theorem dX5_copyFrom_161 : decode cX5_copyFrom 161 = .ok (.aload_n 0, 1) := by decide +kernel
theorem dX5_copyFrom_162 : decode cX5_copyFrom 162 = .ok (.getfield 53, 3) := by decide +kernel
theorem dX5_copyFrom_165 : decode cX5_copyFrom 165 = .ok (.aload_n 1, 1) := by decide +kernel
theorem dX5_copyFrom_166 : decode cX5_copyFrom 166 = .ok (.getfield 53, 3) := by decide +kernel
theorem dX5_copyFrom_169 : decode cX5_copyFrom 169 = .ok (.invokevirtual 83, 3) := by decide +kernel
theorem dX5_copyFrom_172 : decode cX5_copyFrom 172 = .ok (.aload_n 0, 1) := by decide +kernel
theorem dX5_copyFrom_173 : decode cX5_copyFrom 173 = .ok (.aload_n 1, 1) := by decide +kernel
theorem dX5_copyFrom_174 : decode cX5_copyFrom 174 = .ok (.getfield 56, 3) := by decide +kernel
theorem dX5_copyFrom_177 : decode cX5_copyFrom 177 = .ok (.putfield 56, 3) := by decide +kernel
theorem dX5_copyFrom_180 : decode cX5_copyFrom 180 = .ok (.return_, 1) := by decide +kernel
theorem dX5_pass_0 : decode cX5_pass 0 = .ok (.iconst 0, 1) := by decide +kernel
theorem dX5_pass_1 : decode cX5_pass 1 = .ok (.istore_n 2, 1) := by decide +kernel
theorem dX5_pass_2 : decode cX5_pass 2 = .ok (.iload_n 2, 1) := by decide +kernel
theorem dX5_pass_3 : decode cX5_pass 3 = .ok (.iload_n 1, 1) := by decide +kernel
theorem dX5_pass_4 : decode cX5_pass 4 = .ok (.if_icmp .ge 35, 3) := by decide +kernel
theorem dX5_pass_7 : decode cX5_pass 7 = .ok (.aload_n 0, 1) := by decide +kernel
theorem dX5_pass_8 : decode cX5_pass 8 = .ok (.invokevirtual 87, 3) := by decide +kernel
theorem dX5_pass_11 : decode cX5_pass 11 = .ok (.aload_n 0, 1) := by decide +kernel
theorem dX5_pass_12 : decode cX5_pass 12 = .ok (.invokevirtual 90, 3) := by decide +kernel
theorem dX5_pass_15 : decode cX5_pass 15 = .ok (.aload_n 0, 1) := by decide +kernel
theorem dX5_pass_16 : decode cX5_pass 16 = .ok (.invokevirtual 93, 3) := by decide +kernel
theorem dX5_pass_19 : decode cX5_pass 19 = .ok (.aload_n 0, 1) := by decide +kernel
theorem dX5_pass_20 : decode cX5_pass 20 = .ok (.invokevirtual 96, 3) := by decide +kernel
theorem dX5_pass_23 : decode cX5_pass 23 = .ok (.aload_n 0, 1) := by decide +kernel
theorem dX5_pass_24 : decode cX5_pass 24 = .ok (.dup, 1) := by decide +kernel
theorem dX5_pass_25 : decode cX5_pass 25 = .ok (.getfield 71, 3) := by decide +kernel
theorem dX5_pass_28 : decode cX5_pass 28 = .ok (.iconst 1, 1) := by decide +kernel
theorem dX5_pass_29 : decode cX5_pass 29 = .ok (.iadd, 1) := by decide +kernel
theorem dX5_pass_30 : decode cX5_pass 30 = .ok (.putfield 71, 3) := by decide +kernel
theorem dX5_pass_33 : decode cX5_pass 33 = .ok (.iinc 2 1, 3) := by decide +kernel
theorem dX5_pass_36 : decode cX5_pass 36 = .ok (.goto (-34), 3) := by decide +kernel
theorem dX5_pass_39 : decode cX5_pass 39 = .ok (.return_, 1) := by decide +kernel
theorem dX5_burn_0 : decode cX5_burn 0 = .ok (.iconst 0, 1) := by decide +kernel
theorem dX5_burn_1 : decode cX5_burn 1 = .ok (.istore_n 1, 1) := by decide +kernel
theorem dX5_burn_2 : decode cX5_burn 2 = .ok (.iload_n 1, 1) := by decide +kernel
theorem dX5_burn_3 : decode cX5_burn 3 = .ok (.iconst 4, 1) := by decide +kernel
theorem dX5_burn_4 : decode cX5_burn 4 = .ok (.if_icmp .ge 32, 3) := by decide +kernel
theorem dX5_burn_7 : decode cX5_burn 7 = .ok (.aload_n 0, 1) := by decide +kernel
theorem dX5_burn_8 : decode cX5_burn 8 = .ok (.getfield 9, 3) := by decide +kernel
theorem dX5_burn_11 : decode cX5_burn 11 = .ok (.iload_n 1, 1) := by decide +kernel
theorem dX5_burn_12 : decode cX5_burn 12 = .ok (.aload_n 0, 1) := by decide +kernel
theorem dX5_burn_13 : decode cX5_burn 13 = .ok (.getfield 9, 3) := by decide +kernel
theorem dX5_burn_16 : decode cX5_burn 16 = .ok (.iload_n 1, 1) := by decide +kernel
theorem dX5_burn_17 : decode cX5_burn 17 = .ok (.iaload, 1) := by decide +kernel
theorem dX5_burn_18 : decode cX5_burn 18 = .ok (.aload_n 0, 1) := by decide +kernel
theorem dX5_burn_19 : decode cX5_burn 19 = .ok (.getfield 19, 3) := by decide +kernel
theorem dX5_burn_22 : decode cX5_burn 22 = .ok (.iadd, 1) := by decide +kernel
theorem dX5_burn_23 : decode cX5_burn 23 = .ok (.sipush 999, 3) := by decide +kernel
theorem dX5_burn_26 : decode cX5_burn 26 = .ok (.invokestatic 99, 3) := by decide +kernel
theorem dX5_burn_29 : decode cX5_burn 29 = .ok (.iastore, 1) := by decide +kernel
theorem dX5_burn_30 : decode cX5_burn 30 = .ok (.iinc 1 1, 3) := by decide +kernel
theorem dX5_burn_33 : decode cX5_burn 33 = .ok (.goto (-31), 3) := by decide +kernel
theorem dX5_burn_36 : decode cX5_burn 36 = .ok (.aload_n 0, 1) := by decide +kernel
theorem dX5_burn_37 : decode cX5_burn 37 = .ok (.aload_n 0, 1) := by decide +kernel
theorem dX5_burn_38 : decode cX5_burn 38 = .ok (.getfield 68, 3) := by decide +kernel
theorem dX5_burn_41 : decode cX5_burn 41 = .ok (.iconst 4, 1) := by decide +kernel
theorem dX5_burn_42 : decode cX5_burn 42 = .ok (.aload_n 0, 1) := by decide +kernel
theorem dX5_burn_43 : decode cX5_burn 43 = .ok (.getfield 19, 3) := by decide +kernel
theorem dX5_burn_46 : decode cX5_burn 46 = .ok (.imul, 1) := by decide +kernel
theorem dX5_burn_47 : decode cX5_burn 47 = .ok (.iadd, 1) := by decide +kernel
theorem dX5_burn_48 : decode cX5_burn 48 = .ok (.ldc 105, 2) := by decide +kernel
theorem dX5_burn_50 : decode cX5_burn 50 = .ok (.invokestatic 99, 3) := by decide +kernel
theorem dX5_burn_53 : decode cX5_burn 53 = .ok (.putfield 68, 3) := by decide +kernel
theorem dX5_burn_56 : decode cX5_burn 56 = .ok (.aload_n 0, 1) := by decide +kernel
theorem dX5_burn_57 : decode cX5_burn 57 = .ok (.getfield 39, 3) := by decide +kernel
theorem dX5_burn_60 : decode cX5_burn 60 = .ok (.aload_n 0, 1) := by decide +kernel
theorem dX5_burn_61 : decode cX5_burn 61 = .ok (.getfield 19, 3) := by decide +kernel
theorem dX5_burn_64 : decode cX5_burn 64 = .ok (.aload_n 0, 1) := by decide +kernel
theorem dX5_burn_65 : decode cX5_burn 65 = .ok (.getfield 71, 3) := by decide +kernel
theorem dX5_burn_68 : decode cX5_burn 68 = .ok (.bipush 24, 2) := by decide +kernel
theorem dX5_burn_70 : decode cX5_burn 70 = .ok (.irem, 1) := by decide +kernel
theorem dX5_burn_71 : decode cX5_burn 71 = .ok (.aload_n 0, 1) := by decide +kernel
theorem dX5_burn_72 : decode cX5_burn 72 = .ok (.getfield 65, 3) := by decide +kernel
theorem dX5_burn_75 : decode cX5_burn 75 = .ok (.bipush 100, 2) := by decide +kernel
theorem dX5_burn_77 : decode cX5_burn 77 = .ok (.irem, 1) := by decide +kernel
theorem dX5_burn_78 : decode cX5_burn 78 = .ok (.invokevirtual 106, 3) := by decide +kernel
theorem dX5_burn_81 : decode cX5_burn 81 = .ok (.istore_n 1, 1) := by decide +kernel
theorem dX5_burn_82 : decode cX5_burn 82 = .ok (.aload_n 0, 1) := by decide +kernel
theorem dX5_burn_83 : decode cX5_burn 83 = .ok (.iconst 0, 1) := by decide +kernel
theorem dX5_burn_84 : decode cX5_burn 84 = .ok (.aload_n 0, 1) := by decide +kernel
theorem dX5_burn_85 : decode cX5_burn 85 = .ok (.getfield 65, 3) := by decide +kernel
theorem dX5_burn_88 : decode cX5_burn 88 = .ok (.iload_n 1, 1) := by decide +kernel
theorem dX5_burn_89 : decode cX5_burn 89 = .ok (.iadd, 1) := by decide +kernel
theorem dX5_burn_90 : decode cX5_burn 90 = .ok (.aload_n 0, 1) := by decide +kernel
theorem dX5_burn_91 : decode cX5_burn 91 = .ok (.getfield 19, 3) := by decide +kernel
theorem dX5_burn_94 : decode cX5_burn 94 = .ok (.isub, 1) := by decide +kernel
theorem dX5_burn_95 : decode cX5_burn 95 = .ok (.sipush 9999, 3) := by decide +kernel
theorem dX5_burn_98 : decode cX5_burn 98 = .ok (.invokestatic 99, 3) := by decide +kernel
theorem dX5_burn_101 : decode cX5_burn 101 = .ok (.invokestatic 110, 3) := by decide +kernel
theorem dX5_burn_104 : decode cX5_burn 104 = .ok (.putfield 65, 3) := by decide +kernel
theorem dX5_burn_107 : decode cX5_burn 107 = .ok (.return_, 1) := by decide +kernel
theorem dX5_flow_0 : decode cX5_flow 0 = .ok (.iconst 0, 1) := by decide +kernel
theorem dX5_flow_1 : decode cX5_flow 1 = .ok (.istore_n 1, 1) := by decide +kernel
theorem dX5_flow_2 : decode cX5_flow 2 = .ok (.iload_n 1, 1) := by decide +kernel
theorem dX5_flow_3 : decode cX5_flow 3 = .ok (.bipush 12, 2) := by decide +kernel
theorem dX5_flow_5 : decode cX5_flow 5 = .ok (.if_icmp .ge 78, 3) := by decide +kernel
theorem dX5_flow_8 : decode cX5_flow 8 = .ok (.aload_n 0, 1) := by decide +kernel
theorem dX5_flow_9 : decode cX5_flow 9 = .ok (.getfield 9, 3) := by decide +kernel
theorem dX5_flow_12 : decode cX5_flow 12 = .ok (.iload_n 1, 1) := by decide +kernel
theorem dX5_flow_13 : decode cX5_flow 13 = .ok (.iaload, 1) := by decide +kernel
theorem dX5_flow_14 : decode cX5_flow 14 = .ok (.aload_n 0, 1) := by decide +kernel
theorem dX5_flow_15 : decode cX5_flow 15 = .ok (.getfield 9, 3) := by decide +kernel
theorem dX5_flow_18 : decode cX5_flow 18 = .ok (.iload_n 1, 1) := by decide +kernel
theorem dX5_flow_19 : decode cX5_flow 19 = .ok (.iconst 4, 1) := by decide +kernel
theorem dX5_flow_20 : decode cX5_flow 20 = .ok (.iadd, 1) := by decide +kernel
theorem dX5_flow_21 : decode cX5_flow 21 = .ok (.iaload, 1) := by decide +kernel
theorem dX5_flow_22 : decode cX5_flow 22 = .ok (.isub, 1) := by decide +kernel
theorem dX5_flow_23 : decode cX5_flow 23 = .ok (.istore_n 2, 1) := by decide +kernel
theorem dX5_flow_24 : decode cX5_flow 24 = .ok (.aload_n 0, 1) := by decide +kernel
theorem dX5_flow_25 : decode cX5_flow 25 = .ok (.getfield 31, 3) := by decide +kernel
theorem dX5_flow_28 : decode cX5_flow 28 = .ok (.iload_n 1, 1) := by decide +kernel
theorem dX5_flow_29 : decode cX5_flow 29 = .ok (.iconst 0, 1) := by decide +kernel
theorem dX5_flow_30 : decode cX5_flow 30 = .ok (.iastore, 1) := by decide +kernel
theorem dX5_flow_31 : decode cX5_flow 31 = .ok (.iload_n 2, 1) := by decide +kernel
theorem dX5_flow_32 : decode cX5_flow 32 = .ok (.ifCond .le 45, 3) := by decide +kernel
theorem dX5_flow_35 : decode cX5_flow 35 = .ok (.aload_n 0, 1) := by decide +kernel
theorem dX5_flow_36 : decode cX5_flow 36 = .ok (.getfield 15, 3) := by decide +kernel
theorem dX5_flow_39 : decode cX5_flow 39 = .ok (.iload_n 1, 1) := by decide +kernel
theorem dX5_flow_40 : decode cX5_flow 40 = .ok (.ishr, 1) := by decide +kernel
theorem dX5_flow_41 : decode cX5_flow 41 = .ok (.iconst 1, 1) := by decide +kernel
theorem dX5_flow_42 : decode cX5_flow 42 = .ok (.iand, 1) := by decide +kernel
theorem dX5_flow_43 : decode cX5_flow 43 = .ok (.iconst 1, 1) := by decide +kernel
theorem dX5_flow_44 : decode cX5_flow 44 = .ok (.if_icmp .ne 33, 3) := by decide +kernel
theorem dX5_flow_47 : decode cX5_flow 47 = .ok (.aload_n 0, 1) := by decide +kernel
theorem dX5_flow_48 : decode cX5_flow 48 = .ok (.getfield 31, 3) := by decide +kernel
theorem dX5_flow_51 : decode cX5_flow 51 = .ok (.iload_n 1, 1) := by decide +kernel
theorem dX5_flow_52 : decode cX5_flow 52 = .ok (.aload_n 0, 1) := by decide +kernel
theorem dX5_flow_53 : decode cX5_flow 53 = .ok (.getfield 43, 3) := by decide +kernel
theorem dX5_flow_56 : decode cX5_flow 56 = .ok (.iload_n 2, 1) := by decide +kernel
theorem dX5_flow_57 : decode cX5_flow 57 = .ok (.iload_n 1, 1) := by decide +kernel
theorem dX5_flow_58 : decode cX5_flow 58 = .ok (.iconst 4, 1) := by decide +kernel
theorem dX5_flow_59 : decode cX5_flow 59 = .ok (.idiv, 1) := by decide +kernel
theorem dX5_flow_60 : decode cX5_flow 60 = .ok (.aload_n 0, 1) := by decide +kernel
theorem dX5_flow_61 : decode cX5_flow 61 = .ok (.getfield 71, 3) := by decide +kernel
theorem dX5_flow_64 : decode cX5_flow 64 = .ok (.bipush 24, 2) := by decide +kernel
theorem dX5_flow_66 : decode cX5_flow 66 = .ok (.irem, 1) := by decide +kernel
theorem dX5_flow_67 : decode cX5_flow 67 = .ok (.invokevirtual 106, 3) := by decide +kernel
theorem dX5_flow_70 : decode cX5_flow 70 = .ok (.iload_n 2, 1) := by decide +kernel
theorem dX5_flow_71 : decode cX5_flow 71 = .ok (.iconst 2, 1) := by decide +kernel
theorem dX5_flow_72 : decode cX5_flow 72 = .ok (.idiv, 1) := by decide +kernel
theorem dX5_flow_73 : decode cX5_flow 73 = .ok (.invokestatic 99, 3) := by decide +kernel
theorem dX5_flow_76 : decode cX5_flow 76 = .ok (.iastore, 1) := by decide +kernel
theorem dX5_flow_77 : decode cX5_flow 77 = .ok (.iinc 1 1, 3) := by decide +kernel
theorem dX5_flow_80 : decode cX5_flow 80 = .ok (.goto (-78), 3) := by decide +kernel
theorem dX5_flow_83 : decode cX5_flow 83 = .ok (.iconst 0, 1) := by decide +kernel
theorem dX5_flow_84 : decode cX5_flow 84 = .ok (.istore_n 1, 1) := by decide +kernel
theorem dX5_flow_85 : decode cX5_flow 85 = .ok (.iload_n 1, 1) := by decide +kernel
theorem dX5_flow_86 : decode cX5_flow 86 = .ok (.bipush 12, 2) := by decide +kernel
theorem dX5_flow_88 : decode cX5_flow 88 = .ok (.if_icmp .ge 41, 3) := by decide +kernel
theorem dX5_flow_91 : decode cX5_flow 91 = .ok (.aload_n 0, 1) := by decide +kernel
theorem dX5_flow_92 : decode cX5_flow 92 = .ok (.getfield 9, 3) := by decide +kernel
theorem dX5_flow_95 : decode cX5_flow 95 = .ok (.iload_n 1, 1) := by decide +kernel
theorem dX5_flow_96 : decode cX5_flow 96 = .ok (.dup2, 1) := by decide +kernel
theorem dX5_flow_97 : decode cX5_flow 97 = .ok (.iaload, 1) := by decide +kernel
theorem dX5_flow_98 : decode cX5_flow 98 = .ok (.aload_n 0, 1) := by decide +kernel
theorem dX5_flow_99 : decode cX5_flow 99 = .ok (.getfield 31, 3) := by decide +kernel
theorem dX5_flow_102 : decode cX5_flow 102 = .ok (.iload_n 1, 1) := by decide +kernel
theorem dX5_flow_103 : decode cX5_flow 103 = .ok (.iaload, 1) := by decide +kernel
theorem dX5_flow_104 : decode cX5_flow 104 = .ok (.isub, 1) := by decide +kernel
theorem dX5_flow_105 : decode cX5_flow 105 = .ok (.iastore, 1) := by decide +kernel
theorem dX5_flow_106 : decode cX5_flow 106 = .ok (.aload_n 0, 1) := by decide +kernel
theorem dX5_flow_107 : decode cX5_flow 107 = .ok (.getfield 9, 3) := by decide +kernel
theorem dX5_flow_110 : decode cX5_flow 110 = .ok (.iload_n 1, 1) := by decide +kernel
theorem dX5_flow_111 : decode cX5_flow 111 = .ok (.iconst 4, 1) := by decide +kernel
theorem dX5_flow_112 : decode cX5_flow 112 = .ok (.iadd, 1) := by decide +kernel
theorem dX5_flow_113 : decode cX5_flow 113 = .ok (.dup2, 1) := by decide +kernel
theorem dX5_flow_114 : decode cX5_flow 114 = .ok (.iaload, 1) := by decide +kernel
theorem dX5_flow_115 : decode cX5_flow 115 = .ok (.aload_n 0, 1) := by decide +kernel
theorem dX5_flow_116 : decode cX5_flow 116 = .ok (.getfield 31, 3) := by decide +kernel
theorem dX5_flow_119 : decode cX5_flow 119 = .ok (.iload_n 1, 1) := by decide +kernel
theorem dX5_flow_120 : decode cX5_flow 120 = .ok (.iaload, 1) := by decide +kernel
theorem dX5_flow_121 : decode cX5_flow 121 = .ok (.iadd, 1) := by decide +kernel
theorem dX5_flow_122 : decode cX5_flow 122 = .ok (.iastore, 1) := by decide +kernel
theorem dX5_flow_123 : decode cX5_flow 123 = .ok (.iinc 1 1, 3) := by decide +kernel
theorem dX5_flow_126 : decode cX5_flow 126 = .ok (.goto (-41), 3) := by decide +kernel
theorem dX5_flow_129 : decode cX5_flow 129 = .ok (.return_, 1) := by decide +kernel
theorem dX5_live_0 : decode cX5_live 0 = .ok (.aload_n 0, 1) := by decide +kernel
theorem dX5_live_1 : decode cX5_live 1 = .ok (.iconst 0, 1) := by decide +kernel
theorem dX5_live_2 : decode cX5_live 2 = .ok (.putfield 77, 3) := by decide +kernel
theorem dX5_live_5 : decode cX5_live 5 = .ok (.iconst 0, 1) := by decide +kernel
theorem dX5_live_6 : decode cX5_live 6 = .ok (.istore_n 1, 1) := by decide +kernel
theorem dX5_live_7 : decode cX5_live 7 = .ok (.iload_n 1, 1) := by decide +kernel
theorem dX5_live_8 : decode cX5_live 8 = .ok (.aload_n 0, 1) := by decide +kernel
theorem dX5_live_9 : decode cX5_live 9 = .ok (.getfield 74, 3) := by decide +kernel
theorem dX5_live_12 : decode cX5_live 12 = .ok (.if_icmp .ge 86, 3) := by decide +kernel
theorem dX5_live_15 : decode cX5_live 15 = .ok (.iload_n 1, 1) := by decide +kernel
theorem dX5_live_16 : decode cX5_live 16 = .ok (.bipush 8, 2) := by decide +kernel
theorem dX5_live_18 : decode cX5_live 18 = .ok (.if_icmp .ge 80, 3) := by decide +kernel
theorem dX5_live_21 : decode cX5_live 21 = .ok (.aload_n 0, 1) := by decide +kernel
theorem dX5_live_22 : decode cX5_live 22 = .ok (.getfield 25, 3) := by decide +kernel
theorem dX5_live_25 : decode cX5_live 25 = .ok (.iload_n 1, 1) := by decide +kernel
theorem dX5_live_26 : decode cX5_live 26 = .ok (.iaload, 1) := by decide +kernel
theorem dX5_live_27 : decode cX5_live 27 = .ok (.istore_n 2, 1) := by decide +kernel
theorem dX5_live_28 : decode cX5_live 28 = .ok (.iload_n 2, 1) := by decide +kernel
theorem dX5_live_29 : decode cX5_live 29 = .ok (.ifCond .lt 23, 3) := by decide +kernel
theorem dX5_live_32 : decode cX5_live 32 = .ok (.iload_n 2, 1) := by decide +kernel
theorem dX5_live_33 : decode cX5_live 33 = .ok (.bipush 16, 2) := by decide +kernel
theorem dX5_live_35 : decode cX5_live 35 = .ok (.if_icmp .ge 17, 3) := by decide +kernel
theorem dX5_live_38 : decode cX5_live 38 = .ok (.aload_n 0, 1) := by decide +kernel
theorem dX5_live_39 : decode cX5_live 39 = .ok (.getfield 9, 3) := by decide +kernel
theorem dX5_live_42 : decode cX5_live 42 = .ok (.iload_n 2, 1) := by decide +kernel
theorem dX5_live_43 : decode cX5_live 43 = .ok (.dup2, 1) := by decide +kernel
theorem dX5_live_44 : decode cX5_live 44 = .ok (.iaload, 1) := by decide +kernel
theorem dX5_live_45 : decode cX5_live 45 = .ok (.aload_n 0, 1) := by decide +kernel
theorem dX5_live_46 : decode cX5_live 46 = .ok (.iload_n 1, 1) := by decide +kernel
theorem dX5_live_47 : decode cX5_live 47 = .ok (.invokevirtual 113, 3) := by decide +kernel
theorem dX5_live_50 : decode cX5_live 50 = .ok (.isub, 1) := by decide +kernel
theorem dX5_live_51 : decode cX5_live 51 = .ok (.iastore, 1) := by decide +kernel
theorem dX5_live_52 : decode cX5_live 52 = .ok (.aload_n 0, 1) := by decide +kernel
theorem dX5_live_53 : decode cX5_live 53 = .ok (.iload_n 1, 1) := by decide +kernel
theorem dX5_live_54 : decode cX5_live 54 = .ok (.invokevirtual 117, 3) := by decide +kernel
theorem dX5_live_57 : decode cX5_live 57 = .ok (.ifCond .eq 35, 3) := by decide +kernel
theorem dX5_live_60 : decode cX5_live 60 = .ok (.aload_n 0, 1) := by decide +kernel
theorem dX5_live_61 : decode cX5_live 61 = .ok (.dup, 1) := by decide +kernel
theorem dX5_live_62 : decode cX5_live 62 = .ok (.getfield 77, 3) := by decide +kernel
theorem dX5_live_65 : decode cX5_live 65 = .ok (.iconst 1, 1) := by decide +kernel
theorem dX5_live_66 : decode cX5_live 66 = .ok (.iload_n 1, 1) := by decide +kernel
theorem dX5_live_67 : decode cX5_live 67 = .ok (.ishl, 1) := by decide +kernel
theorem dX5_live_68 : decode cX5_live 68 = .ok (.ior, 1) := by decide +kernel
theorem dX5_live_69 : decode cX5_live 69 = .ok (.putfield 77, 3) := by decide +kernel
theorem dX5_live_72 : decode cX5_live 72 = .ok (.aload_n 0, 1) := by decide +kernel
theorem dX5_live_73 : decode cX5_live 73 = .ok (.getfield 28, 3) := by decide +kernel
theorem dX5_live_76 : decode cX5_live 76 = .ok (.iload_n 1, 1) := by decide +kernel
theorem dX5_live_77 : decode cX5_live 77 = .ok (.aload_n 0, 1) := by decide +kernel
theorem dX5_live_78 : decode cX5_live 78 = .ok (.getfield 28, 3) := by decide +kernel
theorem dX5_live_81 : decode cX5_live 81 = .ok (.iload_n 1, 1) := by decide +kernel
theorem dX5_live_82 : decode cX5_live 82 = .ok (.iaload, 1) := by decide +kernel
theorem dX5_live_83 : decode cX5_live 83 = .ok (.iconst 1, 1) := by decide +kernel
theorem dX5_live_84 : decode cX5_live 84 = .ok (.iadd, 1) := by decide +kernel
theorem dX5_live_85 : decode cX5_live 85 = .ok (.sipush 9999, 3) := by decide +kernel
theorem dX5_live_88 : decode cX5_live 88 = .ok (.invokestatic 99, 3) := by decide +kernel
theorem dX5_live_91 : decode cX5_live 91 = .ok (.iastore, 1) := by decide +kernel
theorem dX5_live_92 : decode cX5_live 92 = .ok (.iinc 1 1, 3) := by decide +kernel
theorem dX5_live_95 : decode cX5_live 95 = .ok (.goto (-88), 3) := by decide +kernel
theorem dX5_live_98 : decode cX5_live 98 = .ok (.return_, 1) := by decide +kernel
theorem dX5_cool_0 : decode cX5_cool 0 = .ok (.bipush 12, 2) := by decide +kernel
theorem dX5_cool_2 : decode cX5_cool 2 = .ok (.istore_n 1, 1) := by decide +kernel
theorem dX5_cool_3 : decode cX5_cool 3 = .ok (.iload_n 1, 1) := by decide +kernel
theorem dX5_cool_4 : decode cX5_cool 4 = .ok (.bipush 16, 2) := by decide +kernel
theorem dX5_cool_6 : decode cX5_cool 6 = .ok (.if_icmp .ge 26, 3) := by decide +kernel
theorem dX5_cool_9 : decode cX5_cool 9 = .ok (.aload_n 0, 1) := by decide +kernel
theorem dX5_cool_10 : decode cX5_cool 10 = .ok (.getfield 9, 3) := by decide +kernel
theorem dX5_cool_13 : decode cX5_cool 13 = .ok (.iload_n 1, 1) := by decide +kernel
theorem dX5_cool_14 : decode cX5_cool 14 = .ok (.dup2, 1) := by decide +kernel
theorem dX5_cool_15 : decode cX5_cool 15 = .ok (.iaload, 1) := by decide +kernel
theorem dX5_cool_16 : decode cX5_cool 16 = .ok (.aload_n 0, 1) := by decide +kernel
theorem dX5_cool_17 : decode cX5_cool 17 = .ok (.getfield 9, 3) := by decide +kernel
theorem dX5_cool_20 : decode cX5_cool 20 = .ok (.iload_n 1, 1) := by decide +kernel
theorem dX5_cool_21 : decode cX5_cool 21 = .ok (.iaload, 1) := by decide +kernel
theorem dX5_cool_22 : decode cX5_cool 22 = .ok (.iconst 4, 1) := by decide +kernel
theorem dX5_cool_23 : decode cX5_cool 23 = .ok (.idiv, 1) := by decide +kernel
theorem dX5_cool_24 : decode cX5_cool 24 = .ok (.isub, 1) := by decide +kernel
theorem dX5_cool_25 : decode cX5_cool 25 = .ok (.iastore, 1) := by decide +kernel
theorem dX5_cool_26 : decode cX5_cool 26 = .ok (.iinc 1 1, 3) := by decide +kernel
theorem dX5_cool_29 : decode cX5_cool 29 = .ok (.goto (-26), 3) := by decide +kernel
theorem dX5_cool_32 : decode cX5_cool 32 = .ok (.return_, 1) := by decide +kernel
theorem dX5_draw_0 : decode cX5_draw 0 = .ok (.aload_n 0, 1) := by decide +kernel
theorem dX5_draw_1 : decode cX5_draw 1 = .ok (.aload_n 0, 1) := by decide +kernel
theorem dX5_draw_2 : decode cX5_draw 2 = .ok (.getfield 56, 3) := by decide +kernel
theorem dX5_draw_5 : decode cX5_draw 5 = .ok (.ldc 121, 2) := by decide +kernel
theorem dX5_draw_7 : decode cX5_draw 7 = .ok (.imul, 1) := by decide +kernel
theorem dX5_draw_8 : decode cX5_draw 8 = .ok (.sipush 12345, 3) := by decide +kernel
theorem dX5_draw_11 : decode cX5_draw 11 = .ok (.iadd, 1) := by decide +kernel
theorem dX5_draw_12 : decode cX5_draw 12 = .ok (.putfield 56, 3) := by decide +kernel
theorem dX5_draw_15 : decode cX5_draw 15 = .ok (.aload_n 0, 1) := by decide +kernel
theorem dX5_draw_16 : decode cX5_draw 16 = .ok (.getfield 56, 3) := by decide +kernel
theorem dX5_draw_19 : decode cX5_draw 19 = .ok (.bipush 8, 2) := by decide +kernel
theorem dX5_draw_21 : decode cX5_draw 21 = .ok (.iushr, 1) := by decide +kernel
theorem dX5_draw_22 : decode cX5_draw 22 = .ok (.ireturn, 1) := by decide +kernel
theorem dX5_drawFedAndDoor_0 : decode cX5_drawFedAndDoor 0 = .ok (.aload_n 0, 1) := by decide +kernel
theorem dX5_drawFedAndDoor_1 : decode cX5_drawFedAndDoor 1 = .ok (.aload_n 0, 1) := by decide +kernel
theorem dX5_drawFedAndDoor_2 : decode cX5_drawFedAndDoor 2 = .ok (.invokevirtual 122, 3) := by decide +kernel
theorem dX5_drawFedAndDoor_5 : decode cX5_drawFedAndDoor 5 = .ok (.bipush 40, 2) := by decide +kernel
theorem dX5_drawFedAndDoor_7 : decode cX5_drawFedAndDoor 7 = .ok (.irem, 1) := by decide +kernel
theorem dX5_drawFedAndDoor_8 : decode cX5_drawFedAndDoor 8 = .ok (.putfield 19, 3) := by decide +kernel
theorem dX5_drawFedAndDoor_11 : decode cX5_drawFedAndDoor 11 = .ok (.aload_n 0, 1) := by decide +kernel
theorem dX5_drawFedAndDoor_12 : decode cX5_drawFedAndDoor 12 = .ok (.invokevirtual 122, 3) := by decide +kernel
theorem dX5_drawFedAndDoor_15 : decode cX5_drawFedAndDoor 15 = .ok (.istore_n 1, 1) := by decide +kernel
theorem dX5_drawFedAndDoor_16 : decode cX5_drawFedAndDoor 16 = .ok (.iload_n 1, 1) := by decide +kernel
theorem dX5_drawFedAndDoor_17 : decode cX5_drawFedAndDoor 17 = .ok (.iconst 4, 1) := by decide +kernel
theorem dX5_drawFedAndDoor_18 : decode cX5_drawFedAndDoor 18 = .ok (.irem, 1) := by decide +kernel
theorem dX5_drawFedAndDoor_19 : decode cX5_drawFedAndDoor 19 = .ok (.ifCond .ne 21, 3) := by decide +kernel
theorem dX5_drawFedAndDoor_22 : decode cX5_drawFedAndDoor 22 = .ok (.aload_n 0, 1) := by decide +kernel
theorem dX5_drawFedAndDoor_23 : decode cX5_drawFedAndDoor 23 = .ok (.dup, 1) := by decide +kernel
theorem dX5_drawFedAndDoor_24 : decode cX5_drawFedAndDoor 24 = .ok (.getfield 15, 3) := by decide +kernel
theorem dX5_drawFedAndDoor_27 : decode cX5_drawFedAndDoor 27 = .ok (.iconst 1, 1) := by decide +kernel
theorem dX5_drawFedAndDoor_28 : decode cX5_drawFedAndDoor 28 = .ok (.iload_n 1, 1) := by decide +kernel
theorem dX5_drawFedAndDoor_29 : decode cX5_drawFedAndDoor 29 = .ok (.bipush 8, 2) := by decide +kernel
theorem dX5_drawFedAndDoor_31 : decode cX5_drawFedAndDoor 31 = .ok (.idiv, 1) := by decide +kernel
theorem dX5_drawFedAndDoor_32 : decode cX5_drawFedAndDoor 32 = .ok (.bipush 12, 2) := by decide +kernel
theorem dX5_drawFedAndDoor_34 : decode cX5_drawFedAndDoor 34 = .ok (.irem, 1) := by decide +kernel
theorem dX5_drawFedAndDoor_35 : decode cX5_drawFedAndDoor 35 = .ok (.ishl, 1) := by decide +kernel
theorem dX5_drawFedAndDoor_36 : decode cX5_drawFedAndDoor 36 = .ok (.ixor, 1) := by decide +kernel
theorem dX5_drawFedAndDoor_37 : decode cX5_drawFedAndDoor 37 = .ok (.putfield 15, 3) := by decide +kernel
theorem dX5_drawFedAndDoor_40 : decode cX5_drawFedAndDoor 40 = .ok (.return_, 1) := by decide +kernel
theorem dX5_heatOf_0 : decode cX5_heatOf 0 = .ok (.iload_n 1, 1) := by decide +kernel
theorem dX5_heatOf_1 : decode cX5_heatOf 1 = .ok (.ifCond .lt 18, 3) := by decide +kernel
theorem dX5_heatOf_4 : decode cX5_heatOf 4 = .ok (.iload_n 1, 1) := by decide +kernel
theorem dX5_heatOf_5 : decode cX5_heatOf 5 = .ok (.bipush 16, 2) := by decide +kernel
theorem dX5_heatOf_7 : decode cX5_heatOf 7 = .ok (.if_icmp .ge 12, 3) := by decide +kernel
theorem dX5_heatOf_10 : decode cX5_heatOf 10 = .ok (.aload_n 0, 1) := by decide +kernel
theorem dX5_heatOf_11 : decode cX5_heatOf 11 = .ok (.getfield 9, 3) := by decide +kernel
theorem dX5_heatOf_14 : decode cX5_heatOf 14 = .ok (.iload_n 1, 1) := by decide +kernel
theorem dX5_heatOf_15 : decode cX5_heatOf 15 = .ok (.iaload, 1) := by decide +kernel
theorem dX5_heatOf_16 : decode cX5_heatOf 16 = .ok (.goto 4, 3) := by decide +kernel
theorem dX5_heatOf_19 : decode cX5_heatOf 19 = .ok (.iconst 0, 1) := by decide +kernel
theorem dX5_heatOf_20 : decode cX5_heatOf 20 = .ok (.ireturn, 1) := by decide +kernel
theorem dX5_heatOfAll_0 : decode cX5_heatOfAll 0 = .ok (.iconst 0, 1) := by decide +kernel
theorem dX5_heatOfAll_1 : decode cX5_heatOfAll 1 = .ok (.istore_n 1, 1) := by decide +kernel
theorem dX5_heatOfAll_2 : decode cX5_heatOfAll 2 = .ok (.iconst 0, 1) := by decide +kernel
theorem dX5_heatOfAll_3 : decode cX5_heatOfAll 3 = .ok (.istore_n 2, 1) := by decide +kernel
theorem dX5_heatOfAll_4 : decode cX5_heatOfAll 4 = .ok (.iload_n 2, 1) := by decide +kernel
theorem dX5_heatOfAll_5 : decode cX5_heatOfAll 5 = .ok (.bipush 16, 2) := by decide +kernel
theorem dX5_heatOfAll_7 : decode cX5_heatOfAll 7 = .ok (.if_icmp .ge 18, 3) := by decide +kernel
theorem dX5_heatOfAll_10 : decode cX5_heatOfAll 10 = .ok (.iload_n 1, 1) := by decide +kernel
theorem dX5_heatOfAll_11 : decode cX5_heatOfAll 11 = .ok (.aload_n 0, 1) := by decide +kernel
theorem dX5_heatOfAll_12 : decode cX5_heatOfAll 12 = .ok (.getfield 9, 3) := by decide +kernel
theorem dX5_heatOfAll_15 : decode cX5_heatOfAll 15 = .ok (.iload_n 2, 1) := by decide +kernel
theorem dX5_heatOfAll_16 : decode cX5_heatOfAll 16 = .ok (.iaload, 1) := by decide +kernel
theorem dX5_heatOfAll_17 : decode cX5_heatOfAll 17 = .ok (.iadd, 1) := by decide +kernel
theorem dX5_heatOfAll_18 : decode cX5_heatOfAll 18 = .ok (.istore_n 1, 1) := by decide +kernel
theorem dX5_heatOfAll_19 : decode cX5_heatOfAll 19 = .ok (.iinc 2 1, 3) := by decide +kernel
theorem dX5_heatOfAll_22 : decode cX5_heatOfAll 22 = .ok (.goto (-18), 3) := by decide +kernel
theorem dX5_heatOfAll_25 : decode cX5_heatOfAll 25 = .ok (.iload_n 1, 1) := by decide +kernel
theorem dX5_heatOfAll_26 : decode cX5_heatOfAll 26 = .ok (.ireturn, 1) := by decide +kernel
theorem dX5_warmOfAll_0 : decode cX5_warmOfAll 0 = .ok (.iconst 0, 1) := by decide +kernel
theorem dX5_warmOfAll_1 : decode cX5_warmOfAll 1 = .ok (.istore_n 1, 1) := by decide +kernel
theorem dX5_warmOfAll_2 : decode cX5_warmOfAll 2 = .ok (.iconst 0, 1) := by decide +kernel
theorem dX5_warmOfAll_3 : decode cX5_warmOfAll 3 = .ok (.istore_n 2, 1) := by decide +kernel
theorem dX5_warmOfAll_4 : decode cX5_warmOfAll 4 = .ok (.iload_n 2, 1) := by decide +kernel
theorem dX5_warmOfAll_5 : decode cX5_warmOfAll 5 = .ok (.aload_n 0, 1) := by decide +kernel
theorem dX5_warmOfAll_6 : decode cX5_warmOfAll 6 = .ok (.getfield 74, 3) := by decide +kernel
theorem dX5_warmOfAll_9 : decode cX5_warmOfAll 9 = .ok (.if_icmp .ge 24, 3) := by decide +kernel
theorem dX5_warmOfAll_12 : decode cX5_warmOfAll 12 = .ok (.iload_n 2, 1) := by decide +kernel
theorem dX5_warmOfAll_13 : decode cX5_warmOfAll 13 = .ok (.bipush 8, 2) := by decide +kernel
theorem dX5_warmOfAll_15 : decode cX5_warmOfAll 15 = .ok (.if_icmp .ge 18, 3) := by decide +kernel
theorem dX5_warmOfAll_18 : decode cX5_warmOfAll 18 = .ok (.iload_n 1, 1) := by decide +kernel
theorem dX5_warmOfAll_19 : decode cX5_warmOfAll 19 = .ok (.aload_n 0, 1) := by decide +kernel
theorem dX5_warmOfAll_20 : decode cX5_warmOfAll 20 = .ok (.getfield 28, 3) := by decide +kernel
theorem dX5_warmOfAll_23 : decode cX5_warmOfAll 23 = .ok (.iload_n 2, 1) := by decide +kernel
theorem dX5_warmOfAll_24 : decode cX5_warmOfAll 24 = .ok (.iaload, 1) := by decide +kernel
theorem dX5_warmOfAll_25 : decode cX5_warmOfAll 25 = .ok (.iadd, 1) := by decide +kernel
theorem dX5_warmOfAll_26 : decode cX5_warmOfAll 26 = .ok (.istore_n 1, 1) := by decide +kernel
theorem dX5_warmOfAll_27 : decode cX5_warmOfAll 27 = .ok (.iinc 2 1, 3) := by decide +kernel
theorem dX5_warmOfAll_30 : decode cX5_warmOfAll 30 = .ok (.goto (-26), 3) := by decide +kernel
theorem dX5_warmOfAll_33 : decode cX5_warmOfAll 33 = .ok (.iload_n 1, 1) := by decide +kernel
theorem dX5_warmOfAll_34 : decode cX5_warmOfAll 34 = .ok (.ireturn, 1) := by decide +kernel
theorem dX5_firstOf_0 : decode cX5_firstOf 0 = .ok (.iconst 0, 1) := by decide +kernel
theorem dX5_firstOf_1 : decode cX5_firstOf 1 = .ok (.istore_n 2, 1) := by decide +kernel
theorem dX5_firstOf_2 : decode cX5_firstOf 2 = .ok (.iload_n 2, 1) := by decide +kernel
theorem dX5_firstOf_3 : decode cX5_firstOf 3 = .ok (.bipush 16, 2) := by decide +kernel
theorem dX5_firstOf_5 : decode cX5_firstOf 5 = .ok (.if_icmp .ge 21, 3) := by decide +kernel
theorem dX5_firstOf_8 : decode cX5_firstOf 8 = .ok (.aload_n 0, 1) := by decide +kernel
theorem dX5_firstOf_9 : decode cX5_firstOf 9 = .ok (.getfield 9, 3) := by decide +kernel
theorem dX5_firstOf_12 : decode cX5_firstOf 12 = .ok (.iload_n 2, 1) := by decide +kernel
theorem dX5_firstOf_13 : decode cX5_firstOf 13 = .ok (.iaload, 1) := by decide +kernel
theorem dX5_firstOf_14 : decode cX5_firstOf 14 = .ok (.iload_n 1, 1) := by decide +kernel
theorem dX5_firstOf_15 : decode cX5_firstOf 15 = .ok (.if_icmp .lt 5, 3) := by decide +kernel
theorem dX5_firstOf_18 : decode cX5_firstOf 18 = .ok (.iload_n 2, 1) := by decide +kernel
theorem dX5_firstOf_19 : decode cX5_firstOf 19 = .ok (.ireturn, 1) := by decide +kernel
theorem dX5_firstOf_20 : decode cX5_firstOf 20 = .ok (.iinc 2 1, 3) := by decide +kernel
theorem dX5_firstOf_23 : decode cX5_firstOf 23 = .ok (.goto (-21), 3) := by decide +kernel
theorem dX5_firstOf_26 : decode cX5_firstOf 26 = .ok (.iconst (-1), 1) := by decide +kernel
theorem dX5_firstOf_27 : decode cX5_firstOf 27 = .ok (.ireturn, 1) := by decide +kernel
theorem dX5_coldest_0 : decode cX5_coldest 0 = .ok (.iconst 0, 1) := by decide +kernel
theorem dX5_coldest_1 : decode cX5_coldest 1 = .ok (.istore_n 1, 1) := by decide +kernel
theorem dX5_coldest_2 : decode cX5_coldest 2 = .ok (.iconst 1, 1) := by decide +kernel
theorem dX5_coldest_3 : decode cX5_coldest 3 = .ok (.istore_n 2, 1) := by decide +kernel
theorem dX5_coldest_4 : decode cX5_coldest 4 = .ok (.iload_n 2, 1) := by decide +kernel
theorem dX5_coldest_5 : decode cX5_coldest 5 = .ok (.bipush 16, 2) := by decide +kernel
theorem dX5_coldest_7 : decode cX5_coldest 7 = .ok (.if_icmp .ge 26, 3) := by decide +kernel
theorem dX5_coldest_10 : decode cX5_coldest 10 = .ok (.aload_n 0, 1) := by decide +kernel
theorem dX5_coldest_11 : decode cX5_coldest 11 = .ok (.getfield 9, 3) := by decide +kernel
theorem dX5_coldest_14 : decode cX5_coldest 14 = .ok (.iload_n 2, 1) := by decide +kernel
theorem dX5_coldest_15 : decode cX5_coldest 15 = .ok (.iaload, 1) := by decide +kernel
theorem dX5_coldest_16 : decode cX5_coldest 16 = .ok (.aload_n 0, 1) := by decide +kernel
theorem dX5_coldest_17 : decode cX5_coldest 17 = .ok (.getfield 9, 3) := by decide +kernel
theorem dX5_coldest_20 : decode cX5_coldest 20 = .ok (.iload_n 1, 1) := by decide +kernel
theorem dX5_coldest_21 : decode cX5_coldest 21 = .ok (.iaload, 1) := by decide +kernel
theorem dX5_coldest_22 : decode cX5_coldest 22 = .ok (.if_icmp .ge 5, 3) := by decide +kernel
theorem dX5_coldest_25 : decode cX5_coldest 25 = .ok (.iload_n 2, 1) := by decide +kernel
theorem dX5_coldest_26 : decode cX5_coldest 26 = .ok (.istore_n 1, 1) := by decide +kernel
theorem dX5_coldest_27 : decode cX5_coldest 27 = .ok (.iinc 2 1, 3) := by decide +kernel
theorem dX5_coldest_30 : decode cX5_coldest 30 = .ok (.goto (-26), 3) := by decide +kernel
theorem dX5_coldest_33 : decode cX5_coldest 33 = .ok (.iload_n 1, 1) := by decide +kernel
theorem dX5_coldest_34 : decode cX5_coldest 34 = .ok (.ireturn, 1) := by decide +kernel
theorem dX5_hasHeats_0 : decode cX5_hasHeats 0 = .ok (.iconst 0, 1) := by decide +kernel
theorem dX5_hasHeats_1 : decode cX5_hasHeats 1 = .ok (.istore_n 2, 1) := by decide +kernel
theorem dX5_hasHeats_2 : decode cX5_hasHeats 2 = .ok (.iload_n 2, 1) := by decide +kernel
theorem dX5_hasHeats_3 : decode cX5_hasHeats 3 = .ok (.bipush 16, 2) := by decide +kernel
theorem dX5_hasHeats_5 : decode cX5_hasHeats 5 = .ok (.if_icmp .ge 25, 3) := by decide +kernel
theorem dX5_hasHeats_8 : decode cX5_hasHeats 8 = .ok (.aload_n 1, 1) := by decide +kernel
theorem dX5_hasHeats_9 : decode cX5_hasHeats 9 = .ok (.iload_n 2, 1) := by decide +kernel
theorem dX5_hasHeats_10 : decode cX5_hasHeats 10 = .ok (.invokevirtual 126, 3) := by decide +kernel
theorem dX5_hasHeats_13 : decode cX5_hasHeats 13 = .ok (.aload_n 0, 1) := by decide +kernel
theorem dX5_hasHeats_14 : decode cX5_hasHeats 14 = .ok (.getfield 9, 3) := by decide +kernel
theorem dX5_hasHeats_17 : decode cX5_hasHeats 17 = .ok (.iload_n 2, 1) := by decide +kernel
theorem dX5_hasHeats_18 : decode cX5_hasHeats 18 = .ok (.iaload, 1) := by decide +kernel
theorem dX5_hasHeats_19 : decode cX5_hasHeats 19 = .ok (.if_icmp .eq 5, 3) := by decide +kernel
theorem dX5_hasHeats_22 : decode cX5_hasHeats 22 = .ok (.iconst 0, 1) := by decide +kernel
theorem dX5_hasHeats_23 : decode cX5_hasHeats 23 = .ok (.ireturn, 1) := by decide +kernel
theorem dX5_hasHeats_24 : decode cX5_hasHeats 24 = .ok (.iinc 2 1, 3) := by decide +kernel
theorem dX5_hasHeats_27 : decode cX5_hasHeats 27 = .ok (.goto (-25), 3) := by decide +kernel
theorem dX5_hasHeats_30 : decode cX5_hasHeats 30 = .ok (.iconst 1, 1) := by decide +kernel
theorem dX5_hasHeats_31 : decode cX5_hasHeats 31 = .ok (.ireturn, 1) := by decide +kernel
theorem dX5_housesIn_0 : decode cX5_housesIn 0 = .ok (.iconst 0, 1) := by decide +kernel
theorem dX5_housesIn_1 : decode cX5_housesIn 1 = .ok (.istore_n 2, 1) := by decide +kernel
theorem dX5_housesIn_2 : decode cX5_housesIn 2 = .ok (.iconst 0, 1) := by decide +kernel
theorem dX5_housesIn_3 : decode cX5_housesIn 3 = .ok (.istore_n 3, 1) := by decide +kernel
theorem dX5_housesIn_4 : decode cX5_housesIn 4 = .ok (.iload_n 3, 1) := by decide +kernel
theorem dX5_housesIn_5 : decode cX5_housesIn 5 = .ok (.aload_n 0, 1) := by decide +kernel
theorem dX5_housesIn_6 : decode cX5_housesIn 6 = .ok (.getfield 74, 3) := by decide +kernel
theorem dX5_housesIn_9 : decode cX5_housesIn 9 = .ok (.if_icmp .ge 31, 3) := by decide +kernel
theorem dX5_housesIn_12 : decode cX5_housesIn 12 = .ok (.iload_n 3, 1) := by decide +kernel
theorem dX5_housesIn_13 : decode cX5_housesIn 13 = .ok (.bipush 8, 2) := by decide +kernel
theorem dX5_housesIn_15 : decode cX5_housesIn 15 = .ok (.if_icmp .ge 25, 3) := by decide +kernel
theorem dX5_housesIn_18 : decode cX5_housesIn 18 = .ok (.aload_n 0, 1) := by decide +kernel
theorem dX5_housesIn_19 : decode cX5_housesIn 19 = .ok (.getfield 25, 3) := by decide +kernel
theorem dX5_housesIn_22 : decode cX5_housesIn 22 = .ok (.iload_n 3, 1) := by decide +kernel
theorem dX5_housesIn_23 : decode cX5_housesIn 23 = .ok (.iaload, 1) := by decide +kernel
theorem dX5_housesIn_24 : decode cX5_housesIn 24 = .ok (.iload_n 1, 1) := by decide +kernel
theorem dX5_housesIn_25 : decode cX5_housesIn 25 = .ok (.if_icmp .ne 9, 3) := by decide +kernel
theorem dX5_housesIn_28 : decode cX5_housesIn 28 = .ok (.iload_n 2, 1) := by decide +kernel
theorem dX5_housesIn_29 : decode cX5_housesIn 29 = .ok (.iconst 1, 1) := by decide +kernel
theorem dX5_housesIn_30 : decode cX5_housesIn 30 = .ok (.iload_n 3, 1) := by decide +kernel
theorem dX5_housesIn_31 : decode cX5_housesIn 31 = .ok (.ishl, 1) := by decide +kernel
theorem dX5_housesIn_32 : decode cX5_housesIn 32 = .ok (.ior, 1) := by decide +kernel
theorem dX5_housesIn_33 : decode cX5_housesIn 33 = .ok (.istore_n 2, 1) := by decide +kernel
theorem dX5_housesIn_34 : decode cX5_housesIn 34 = .ok (.iinc 3 1, 3) := by decide +kernel
theorem dX5_housesIn_37 : decode cX5_housesIn 37 = .ok (.goto (-33), 3) := by decide +kernel
theorem dX5_housesIn_40 : decode cX5_housesIn 40 = .ok (.iload_n 2, 1) := by decide +kernel
theorem dX5_housesIn_41 : decode cX5_housesIn 41 = .ok (.ireturn, 1) := by decide +kernel
theorem dX5_kindOf_0 : decode cX5_kindOf 0 = .ok (.iload_n 1, 1) := by decide +kernel
theorem dX5_kindOf_1 : decode cX5_kindOf 1 = .ok (.ifCond .lt 21, 3) := by decide +kernel
theorem dX5_kindOf_4 : decode cX5_kindOf 4 = .ok (.iload_n 1, 1) := by decide +kernel
theorem dX5_kindOf_5 : decode cX5_kindOf 5 = .ok (.bipush 8, 2) := by decide +kernel
theorem dX5_kindOf_7 : decode cX5_kindOf 7 = .ok (.if_icmp .ge 15, 3) := by decide +kernel
theorem dX5_kindOf_10 : decode cX5_kindOf 10 = .ok (.aload_n 0, 1) := by decide +kernel
theorem dX5_kindOf_11 : decode cX5_kindOf 11 = .ok (.getfield 22, 3) := by decide +kernel
theorem dX5_kindOf_14 : decode cX5_kindOf 14 = .ok (.iload_n 1, 1) := by decide +kernel
theorem dX5_kindOf_15 : decode cX5_kindOf 15 = .ok (.iaload, 1) := by decide +kernel
theorem dX5_kindOf_16 : decode cX5_kindOf 16 = .ok (.bipush 10, 2) := by decide +kernel
theorem dX5_kindOf_18 : decode cX5_kindOf 18 = .ok (.idiv, 1) := by decide +kernel
theorem dX5_kindOf_19 : decode cX5_kindOf 19 = .ok (.goto 4, 3) := by decide +kernel
theorem dX5_kindOf_22 : decode cX5_kindOf 22 = .ok (.iconst 0, 1) := by decide +kernel
theorem dX5_kindOf_23 : decode cX5_kindOf 23 = .ok (.ireturn, 1) := by decide +kernel
theorem dX5_mOf_0 : decode cX5_mOf 0 = .ok (.iload_n 1, 1) := by decide +kernel
theorem dX5_mOf_1 : decode cX5_mOf 1 = .ok (.ifCond .lt 21, 3) := by decide +kernel
theorem dX5_mOf_4 : decode cX5_mOf 4 = .ok (.iload_n 1, 1) := by decide +kernel
theorem dX5_mOf_5 : decode cX5_mOf 5 = .ok (.bipush 8, 2) := by decide +kernel
theorem dX5_mOf_7 : decode cX5_mOf 7 = .ok (.if_icmp .ge 15, 3) := by decide +kernel
theorem dX5_mOf_10 : decode cX5_mOf 10 = .ok (.aload_n 0, 1) := by decide +kernel
theorem dX5_mOf_11 : decode cX5_mOf 11 = .ok (.getfield 22, 3) := by decide +kernel
theorem dX5_mOf_14 : decode cX5_mOf 14 = .ok (.iload_n 1, 1) := by decide +kernel
theorem dX5_mOf_15 : decode cX5_mOf 15 = .ok (.iaload, 1) := by decide +kernel
theorem dX5_mOf_16 : decode cX5_mOf 16 = .ok (.bipush 10, 2) := by decide +kernel
theorem dX5_mOf_18 : decode cX5_mOf 18 = .ok (.irem, 1) := by decide +kernel
theorem dX5_mOf_19 : decode cX5_mOf 19 = .ok (.goto 4, 3) := by decide +kernel
theorem dX5_mOf_22 : decode cX5_mOf 22 = .ok (.iconst 0, 1) := by decide +kernel
theorem dX5_mOf_23 : decode cX5_mOf 23 = .ok (.ireturn, 1) := by decide +kernel
theorem dX5_leastOf_0 : decode cX5_leastOf 0 = .ok (.aload_n 0, 1) := by decide +kernel
theorem dX5_leastOf_1 : decode cX5_leastOf 1 = .ok (.iload_n 1, 1) := by decide +kernel
theorem dX5_leastOf_2 : decode cX5_leastOf 2 = .ok (.invokevirtual 129, 3) := by decide +kernel
theorem dX5_leastOf_5 : decode cX5_leastOf 5 = .ok (.aload_n 0, 1) := by decide +kernel
theorem dX5_leastOf_6 : decode cX5_leastOf 6 = .ok (.iload_n 1, 1) := by decide +kernel
theorem dX5_leastOf_7 : decode cX5_leastOf 7 = .ok (.invokevirtual 132, 3) := by decide +kernel
theorem dX5_leastOf_10 : decode cX5_leastOf 10 = .ok (.aload_n 0, 1) := by decide +kernel
theorem dX5_leastOf_11 : decode cX5_leastOf 11 = .ok (.getfield 71, 3) := by decide +kernel
theorem dX5_leastOf_14 : decode cX5_leastOf 14 = .ok (.invokestatic 135, 3) := by decide +kernel
theorem dX5_leastOf_17 : decode cX5_leastOf 17 = .ok (.ireturn, 1) := by decide +kernel
theorem dX5_mostOf_0 : decode cX5_mostOf 0 = .ok (.aload_n 0, 1) := by decide +kernel
theorem dX5_mostOf_1 : decode cX5_mostOf 1 = .ok (.iload_n 1, 1) := by decide +kernel
theorem dX5_mostOf_2 : decode cX5_mostOf 2 = .ok (.invokevirtual 129, 3) := by decide +kernel
theorem dX5_mostOf_5 : decode cX5_mostOf 5 = .ok (.invokestatic 140, 3) := by decide +kernel
theorem dX5_mostOf_8 : decode cX5_mostOf 8 = .ok (.ireturn, 1) := by decide +kernel
theorem dX5_takesOf_0 : decode cX5_takesOf 0 = .ok (.iload_n 1, 1) := by decide +kernel
theorem dX5_takesOf_1 : decode cX5_takesOf 1 = .ok (.ifCond .lt 9, 3) := by decide +kernel
theorem dX5_takesOf_4 : decode cX5_takesOf 4 = .ok (.iload_n 1, 1) := by decide +kernel
theorem dX5_takesOf_5 : decode cX5_takesOf 5 = .ok (.bipush 8, 2) := by decide +kernel
theorem dX5_takesOf_7 : decode cX5_takesOf 7 = .ok (.if_icmp .lt 5, 3) := by decide +kernel
theorem dX5_takesOf_10 : decode cX5_takesOf 10 = .ok (.iconst 0, 1) := by decide +kernel
theorem dX5_takesOf_11 : decode cX5_takesOf 11 = .ok (.ireturn, 1) := by decide +kernel
theorem dX5_takesOf_12 : decode cX5_takesOf 12 = .ok (.aload_n 0, 1) := by decide +kernel
theorem dX5_takesOf_13 : decode cX5_takesOf 13 = .ok (.iload_n 1, 1) := by decide +kernel
theorem dX5_takesOf_14 : decode cX5_takesOf 14 = .ok (.invokevirtual 129, 3) := by decide +kernel
theorem dX5_takesOf_17 : decode cX5_takesOf 17 = .ok (.aload_n 0, 1) := by decide +kernel
theorem dX5_takesOf_18 : decode cX5_takesOf 18 = .ok (.getfield 71, 3) := by decide +kernel
theorem dX5_takesOf_21 : decode cX5_takesOf 21 = .ok (.invokestatic 143, 3) := by decide +kernel
theorem dX5_takesOf_24 : decode cX5_takesOf 24 = .ok (.aload_n 0, 1) := by decide +kernel
theorem dX5_takesOf_25 : decode cX5_takesOf 25 = .ok (.aload_n 0, 1) := by decide +kernel
theorem dX5_takesOf_26 : decode cX5_takesOf 26 = .ok (.getfield 25, 3) := by decide +kernel
theorem dX5_takesOf_29 : decode cX5_takesOf 29 = .ok (.iload_n 1, 1) := by decide +kernel
theorem dX5_takesOf_30 : decode cX5_takesOf 30 = .ok (.iaload, 1) := by decide +kernel
theorem dX5_takesOf_31 : decode cX5_takesOf 31 = .ok (.invokevirtual 146, 3) := by decide +kernel
theorem dX5_takesOf_34 : decode cX5_takesOf 34 = .ok (.invokestatic 99, 3) := by decide +kernel
theorem dX5_takesOf_37 : decode cX5_takesOf 37 = .ok (.ireturn, 1) := by decide +kernel
theorem dX5_isContent_0 : decode cX5_isContent 0 = .ok (.iload_n 1, 1) := by decide +kernel
theorem dX5_isContent_1 : decode cX5_isContent 1 = .ok (.ifCond .lt 9, 3) := by decide +kernel
theorem dX5_isContent_4 : decode cX5_isContent 4 = .ok (.iload_n 1, 1) := by decide +kernel
theorem dX5_isContent_5 : decode cX5_isContent 5 = .ok (.bipush 8, 2) := by decide +kernel
theorem dX5_isContent_7 : decode cX5_isContent 7 = .ok (.if_icmp .lt 5, 3) := by decide +kernel
theorem dX5_isContent_10 : decode cX5_isContent 10 = .ok (.iconst 0, 1) := by decide +kernel
theorem dX5_isContent_11 : decode cX5_isContent 11 = .ok (.ireturn, 1) := by decide +kernel
theorem dX5_isContent_12 : decode cX5_isContent 12 = .ok (.aload_n 0, 1) := by decide +kernel
theorem dX5_isContent_13 : decode cX5_isContent 13 = .ok (.aload_n 0, 1) := by decide +kernel
theorem dX5_isContent_14 : decode cX5_isContent 14 = .ok (.getfield 25, 3) := by decide +kernel
theorem dX5_isContent_17 : decode cX5_isContent 17 = .ok (.iload_n 1, 1) := by decide +kernel
theorem dX5_isContent_18 : decode cX5_isContent 18 = .ok (.iaload, 1) := by decide +kernel
theorem dX5_isContent_19 : decode cX5_isContent 19 = .ok (.invokevirtual 146, 3) := by decide +kernel
theorem dX5_isContent_22 : decode cX5_isContent 22 = .ok (.istore_n 2, 1) := by decide +kernel
theorem dX5_isContent_23 : decode cX5_isContent 23 = .ok (.iload_n 2, 1) := by decide +kernel
theorem dX5_isContent_24 : decode cX5_isContent 24 = .ok (.aload_n 0, 1) := by decide +kernel
theorem dX5_isContent_25 : decode cX5_isContent 25 = .ok (.iload_n 1, 1) := by decide +kernel
theorem dX5_isContent_26 : decode cX5_isContent 26 = .ok (.invokevirtual 149, 3) := by decide +kernel
theorem dX5_isContent_29 : decode cX5_isContent 29 = .ok (.if_icmp .lt 16, 3) := by decide +kernel
theorem dX5_isContent_32 : decode cX5_isContent 32 = .ok (.iload_n 2, 1) := by decide +kernel
theorem dX5_isContent_33 : decode cX5_isContent 33 = .ok (.aload_n 0, 1) := by decide +kernel
theorem dX5_isContent_34 : decode cX5_isContent 34 = .ok (.iload_n 1, 1) := by decide +kernel
theorem dX5_isContent_35 : decode cX5_isContent 35 = .ok (.invokevirtual 152, 3) := by decide +kernel
theorem dX5_isContent_38 : decode cX5_isContent 38 = .ok (.if_icmp .gt 7, 3) := by decide +kernel
theorem dX5_isContent_41 : decode cX5_isContent 41 = .ok (.iconst 1, 1) := by decide +kernel
theorem dX5_isContent_42 : decode cX5_isContent 42 = .ok (.goto 4, 3) := by decide +kernel
theorem dX5_isContent_45 : decode cX5_isContent 45 = .ok (.iconst 0, 1) := by decide +kernel
theorem dX5_isContent_46 : decode cX5_isContent 46 = .ok (.ireturn, 1) := by decide +kernel
theorem dX6_init_0 : decode cX6_init 0 = .ok (.aload_n 0, 1) := by decide +kernel
theorem dX6_init_1 : decode cX6_init 1 = .ok (.invokespecial 3, 3) := by decide +kernel
theorem dX6_init_4 : decode cX6_init 4 = .ok (.aload_n 0, 1) := by decide +kernel
theorem dX6_init_5 : decode cX6_init 5 = .ok (.new 9, 3) := by decide +kernel
theorem dX6_init_8 : decode cX6_init 8 = .ok (.dup, 1) := by decide +kernel
theorem dX6_init_9 : decode cX6_init 9 = .ok (.bipush 40, 2) := by decide +kernel
theorem dX6_init_11 : decode cX6_init 11 = .ok (.invokespecial 11, 3) := by decide +kernel
theorem dX6_init_14 : decode cX6_init 14 = .ok (.putfield 14, 3) := by decide +kernel
theorem dX6_init_17 : decode cX6_init 17 = .ok (.return_, 1) := by decide +kernel
theorem dX6_speaks_0 : decode cX6_speaks 0 = .ok (.aload_n 0, 1) := by decide +kernel
theorem dX6_speaks_1 : decode cX6_speaks 1 = .ok (.iload_n 1, 1) := by decide +kernel
theorem dX6_speaks_2 : decode cX6_speaks 2 = .ok (.putfield 20, 3) := by decide +kernel
theorem dX6_speaks_5 : decode cX6_speaks 5 = .ok (.aload_n 0, 1) := by decide +kernel
theorem dX6_speaks_6 : decode cX6_speaks 6 = .ok (.iload_n 2, 1) := by decide +kernel
theorem dX6_speaks_7 : decode cX6_speaks 7 = .ok (.bipush 10, 2) := by decide +kernel
theorem dX6_speaks_9 : decode cX6_speaks 9 = .ok (.idiv, 1) := by decide +kernel
theorem dX6_speaks_10 : decode cX6_speaks 10 = .ok (.putfield 24, 3) := by decide +kernel
theorem dX6_speaks_13 : decode cX6_speaks 13 = .ok (.aload_n 0, 1) := by decide +kernel
theorem dX6_speaks_14 : decode cX6_speaks 14 = .ok (.iload_n 2, 1) := by decide +kernel
theorem dX6_speaks_15 : decode cX6_speaks 15 = .ok (.bipush 10, 2) := by decide +kernel
theorem dX6_speaks_17 : decode cX6_speaks 17 = .ok (.irem, 1) := by decide +kernel
theorem dX6_speaks_18 : decode cX6_speaks 18 = .ok (.putfield 27, 3) := by decide +kernel
theorem dX6_speaks_21 : decode cX6_speaks 21 = .ok (.aload_n 0, 1) := by decide +kernel
theorem dX6_speaks_22 : decode cX6_speaks 22 = .ok (.getfield 14, 3) := by decide +kernel
theorem dX6_speaks_25 : decode cX6_speaks 25 = .ok (.iconst 0, 1) := by decide +kernel
theorem dX6_speaks_26 : decode cX6_speaks 26 = .ok (.putfield 30, 3) := by decide +kernel
theorem dX6_speaks_29 : decode cX6_speaks 29 = .ok (.aload_n 0, 1) := by decide +kernel
theorem dX6_speaks_30 : decode cX6_speaks 30 = .ok (.aload_n 0, 1) := by decide +kernel
theorem dX6_speaks_31 : decode cX6_speaks 31 = .ok (.getfield 24, 3) := by decide +kernel
theorem dX6_speaks_34 : decode cX6_speaks 34 = .ok (.iload_n 3, 1) := by decide +kernel
theorem dX6_speaks_35 : decode cX6_speaks 35 = .ok (.iload 4, 2) := by decide +kernel
theorem dX6_speaks_37 : decode cX6_speaks 37 = .ok (.iconst 0, 1) := by decide +kernel
theorem dX6_speaks_38 : decode cX6_speaks 38 = .ok (.invokevirtual 33, 3) := by decide +kernel
theorem dX6_speaks_41 : decode cX6_speaks 41 = .ok (.ireturn, 1) := by decide +kernel
theorem dX6_says_0 : decode cX6_says 0 = .ok (.iload 4, 2) := by decide +kernel
theorem dX6_says_2 : decode cX6_says 2 = .ok (.bipush 40, 2) := by decide +kernel
theorem dX6_says_4 : decode cX6_says 4 = .ok (.if_icmp .le 5, 3) := by decide +kernel
theorem dX6_says_7 : decode cX6_says 7 = .ok (.iconst 0, 1) := by decide +kernel
theorem dX6_says_8 : decode cX6_says 8 = .ok (.ireturn, 1) := by decide +kernel
theorem dX6_says_9 : decode cX6_says 9 = .ok (.iload 4, 2) := by decide +kernel
theorem dX6_says_11 : decode cX6_says 11 = .ok (.iconst 1, 1) := by decide +kernel
theorem dX6_says_12 : decode cX6_says 12 = .ok (.iadd, 1) := by decide +kernel
theorem dX6_says_13 : decode cX6_says 13 = .ok (.istore 5, 2) := by decide +kernel
theorem dX6_says_15 : decode cX6_says 15 = .ok (.iload_n 1, 1) := by decide +kernel
theorem dX6_says_16 : decode cX6_says 16 = .ok (.iload_n 2, 1) := by decide +kernel
theorem dX6_says_17 : decode cX6_says 17 = .ok (.invokestatic 37, 3) := by decide +kernel
theorem dX6_says_20 : decode cX6_says 20 = .ok (.istore 6, 2) := by decide +kernel
theorem dX6_says_22 : decode cX6_says 22 = .ok (.aload_n 0, 1) := by decide +kernel
theorem dX6_says_23 : decode cX6_says 23 = .ok (.getfield 14, 3) := by decide +kernel
theorem dX6_says_26 : decode cX6_says 26 = .ok (.iload 6, 2) := by decide +kernel
theorem dX6_says_28 : decode cX6_says 28 = .ok (.invokevirtual 41, 3) := by decide +kernel
theorem dX6_says_31 : decode cX6_says 31 = .ok (.pop, 1) := by decide +kernel
theorem dX6_says_32 : decode cX6_says 32 = .ok (.iload 6, 2) := by decide +kernel
theorem dX6_says_34 : decode cX6_says 34 = .ok (.lookupswitch 272 #[(10, 98), (11, 105), (12, 120), (13, 127), (20, 153), (30, 165), (40, 188), (50, 199), (60, 222), (70, 234), (71, 249)], 98) := by decide +kernel
theorem dX6_says_132 : decode cX6_says 132 = .ok (.iload_n 3, 1) := by decide +kernel
theorem dX6_says_133 : decode cX6_says 133 = .ok (.aload_n 0, 1) := by decide +kernel
theorem dX6_says_134 : decode cX6_says 134 = .ok (.getfield 20, 3) := by decide +kernel
theorem dX6_says_137 : decode cX6_says 137 = .ok (.iadd, 1) := by decide +kernel
theorem dX6_says_138 : decode cX6_says 138 = .ok (.ireturn, 1) := by decide +kernel
theorem dX6_says_139 : decode cX6_says 139 = .ok (.aload_n 0, 1) := by decide +kernel
theorem dX6_says_140 : decode cX6_says 140 = .ok (.aload_n 0, 1) := by decide +kernel
theorem dX6_says_141 : decode cX6_says 141 = .ok (.getfield 24, 3) := by decide +kernel
theorem dX6_says_144 : decode cX6_says 144 = .ok (.iconst 0, 1) := by decide +kernel
theorem dX6_says_145 : decode cX6_says 145 = .ok (.iload_n 3, 1) := by decide +kernel
theorem dX6_says_146 : decode cX6_says 146 = .ok (.iload 5, 2) := by decide +kernel
theorem dX6_says_148 : decode cX6_says 148 = .ok (.invokevirtual 33, 3) := by decide +kernel
theorem dX6_says_151 : decode cX6_says 151 = .ok (.iconst 2, 1) := by decide +kernel
theorem dX6_says_152 : decode cX6_says 152 = .ok (.imul, 1) := by decide +kernel
theorem dX6_says_153 : decode cX6_says 153 = .ok (.ireturn, 1) := by decide +kernel
theorem dX6_says_154 : decode cX6_says 154 = .ok (.iload_n 3, 1) := by decide +kernel
theorem dX6_says_155 : decode cX6_says 155 = .ok (.aload_n 0, 1) := by decide +kernel
theorem dX6_says_156 : decode cX6_says 156 = .ok (.getfield 27, 3) := by decide +kernel
theorem dX6_says_159 : decode cX6_says 159 = .ok (.isub, 1) := by decide +kernel
theorem dX6_says_160 : decode cX6_says 160 = .ok (.ireturn, 1) := by decide +kernel
theorem dX6_says_161 : decode cX6_says 161 = .ok (.aload_n 0, 1) := by decide +kernel
theorem dX6_says_162 : decode cX6_says 162 = .ok (.aload_n 0, 1) := by decide +kernel
theorem dX6_says_163 : decode cX6_says 163 = .ok (.getfield 24, 3) := by decide +kernel
theorem dX6_says_166 : decode cX6_says 166 = .ok (.iconst 1, 1) := by decide +kernel
theorem dX6_says_167 : decode cX6_says 167 = .ok (.iload_n 3, 1) := by decide +kernel
theorem dX6_says_168 : decode cX6_says 168 = .ok (.iload 5, 2) := by decide +kernel
theorem dX6_says_170 : decode cX6_says 170 = .ok (.invokevirtual 33, 3) := by decide +kernel
theorem dX6_says_173 : decode cX6_says 173 = .ok (.aload_n 0, 1) := by decide +kernel
theorem dX6_says_174 : decode cX6_says 174 = .ok (.aload_n 0, 1) := by decide +kernel
theorem dX6_says_175 : decode cX6_says 175 = .ok (.getfield 24, 3) := by decide +kernel
theorem dX6_says_178 : decode cX6_says 178 = .ok (.iconst 2, 1) := by decide +kernel
theorem dX6_says_179 : decode cX6_says 179 = .ok (.iload_n 3, 1) := by decide +kernel
theorem dX6_says_180 : decode cX6_says 180 = .ok (.iload 5, 2) := by decide +kernel
theorem dX6_says_182 : decode cX6_says 182 = .ok (.invokevirtual 33, 3) := by decide +kernel
theorem dX6_says_185 : decode cX6_says 185 = .ok (.ixor, 1) := by decide +kernel
theorem dX6_says_186 : decode cX6_says 186 = .ok (.ireturn, 1) := by decide +kernel
theorem dX6_says_187 : decode cX6_says 187 = .ok (.aload_n 0, 1) := by decide +kernel
theorem dX6_says_188 : decode cX6_says 188 = .ok (.iconst 0, 1) := by decide +kernel
theorem dX6_says_189 : decode cX6_says 189 = .ok (.iconst 0, 1) := by decide +kernel
theorem dX6_says_190 : decode cX6_says 190 = .ok (.iload_n 3, 1) := by decide +kernel
theorem dX6_says_191 : decode cX6_says 191 = .ok (.iload 5, 2) := by decide +kernel
theorem dX6_says_193 : decode cX6_says 193 = .ok (.invokevirtual 33, 3) := by decide +kernel
theorem dX6_says_196 : decode cX6_says 196 = .ok (.iconst 3, 1) := by decide +kernel
theorem dX6_says_197 : decode cX6_says 197 = .ok (.imul, 1) := by decide +kernel
theorem dX6_says_198 : decode cX6_says 198 = .ok (.ireturn, 1) := by decide +kernel
theorem dX6_says_199 : decode cX6_says 199 = .ok (.aload_n 0, 1) := by decide +kernel
theorem dX6_says_200 : decode cX6_says 200 = .ok (.iconst 0, 1) := by decide +kernel
theorem dX6_says_201 : decode cX6_says 201 = .ok (.iconst 1, 1) := by decide +kernel
theorem dX6_says_202 : decode cX6_says 202 = .ok (.iload_n 3, 1) := by decide +kernel
theorem dX6_says_203 : decode cX6_says 203 = .ok (.iload 5, 2) := by decide +kernel
theorem dX6_says_205 : decode cX6_says 205 = .ok (.invokevirtual 33, 3) := by decide +kernel
theorem dX6_says_208 : decode cX6_says 208 = .ok (.aload_n 0, 1) := by decide +kernel
theorem dX6_says_209 : decode cX6_says 209 = .ok (.aload_n 0, 1) := by decide +kernel
theorem dX6_says_210 : decode cX6_says 210 = .ok (.getfield 24, 3) := by decide +kernel
theorem dX6_says_213 : decode cX6_says 213 = .ok (.iconst 2, 1) := by decide +kernel
theorem dX6_says_214 : decode cX6_says 214 = .ok (.iconst 1, 1) := by decide +kernel
theorem dX6_says_215 : decode cX6_says 215 = .ok (.iload 5, 2) := by decide +kernel
theorem dX6_says_217 : decode cX6_says 217 = .ok (.invokevirtual 33, 3) := by decide +kernel
theorem dX6_says_220 : decode cX6_says 220 = .ok (.isub, 1) := by decide +kernel
theorem dX6_says_221 : decode cX6_says 221 = .ok (.ireturn, 1) := by decide +kernel
theorem dX6_says_222 : decode cX6_says 222 = .ok (.aload_n 0, 1) := by decide +kernel
theorem dX6_says_223 : decode cX6_says 223 = .ok (.iconst 0, 1) := by decide +kernel
theorem dX6_says_224 : decode cX6_says 224 = .ok (.iconst 2, 1) := by decide +kernel
theorem dX6_says_225 : decode cX6_says 225 = .ok (.iload_n 3, 1) := by decide +kernel
theorem dX6_says_226 : decode cX6_says 226 = .ok (.iload 5, 2) := by decide +kernel
theorem dX6_says_228 : decode cX6_says 228 = .ok (.invokevirtual 33, 3) := by decide +kernel
theorem dX6_says_231 : decode cX6_says 231 = .ok (.ineg, 1) := by decide +kernel
theorem dX6_says_232 : decode cX6_says 232 = .ok (.ireturn, 1) := by decide +kernel
theorem dX6_says_233 : decode cX6_says 233 = .ok (.aload_n 0, 1) := by decide +kernel
theorem dX6_says_234 : decode cX6_says 234 = .ok (.iconst 1, 1) := by decide +kernel
theorem dX6_says_235 : decode cX6_says 235 = .ok (.iconst 3, 1) := by decide +kernel
theorem dX6_says_236 : decode cX6_says 236 = .ok (.iload_n 3, 1) := by decide +kernel
theorem dX6_says_237 : decode cX6_says 237 = .ok (.iload 5, 2) := by decide +kernel
theorem dX6_says_239 : decode cX6_says 239 = .ok (.invokevirtual 33, 3) := by decide +kernel
theorem dX6_says_242 : decode cX6_says 242 = .ok (.aload_n 0, 1) := by decide +kernel
theorem dX6_says_243 : decode cX6_says 243 = .ok (.aload_n 0, 1) := by decide +kernel
theorem dX6_says_244 : decode cX6_says 244 = .ok (.getfield 24, 3) := by decide +kernel
theorem dX6_says_247 : decode cX6_says 247 = .ok (.iconst 0, 1) := by decide +kernel
theorem dX6_says_248 : decode cX6_says 248 = .ok (.iconst 2, 1) := by decide +kernel
theorem dX6_says_249 : decode cX6_says 249 = .ok (.iload 5, 2) := by decide +kernel
theorem dX6_says_251 : decode cX6_says 251 = .ok (.invokevirtual 33, 3) := by decide +kernel
theorem dX6_says_254 : decode cX6_says 254 = .ok (.isub, 1) := by decide +kernel
theorem dX6_says_255 : decode cX6_says 255 = .ok (.ireturn, 1) := by decide +kernel
theorem dX6_says_256 : decode cX6_says 256 = .ok (.aload_n 0, 1) := by decide +kernel
theorem dX6_says_257 : decode cX6_says 257 = .ok (.iconst 2, 1) := by decide +kernel
theorem dX6_says_258 : decode cX6_says 258 = .ok (.iconst 1, 1) := by decide +kernel
theorem dX6_says_259 : decode cX6_says 259 = .ok (.iload_n 3, 1) := by decide +kernel
theorem dX6_says_260 : decode cX6_says 260 = .ok (.iconst 1, 1) := by decide +kernel
theorem dX6_says_261 : decode cX6_says 261 = .ok (.iadd, 1) := by decide +kernel
theorem dX6_says_262 : decode cX6_says 262 = .ok (.iload 5, 2) := by decide +kernel
theorem dX6_says_264 : decode cX6_says 264 = .ok (.invokevirtual 33, 3) := by decide +kernel
theorem dX6_says_267 : decode cX6_says 267 = .ok (.ireturn, 1) := by decide +kernel
theorem dX6_says_268 : decode cX6_says 268 = .ok (.aload_n 0, 1) := by decide +kernel
theorem dX6_says_269 : decode cX6_says 269 = .ok (.iconst 3, 1) := by decide +kernel
theorem dX6_says_270 : decode cX6_says 270 = .ok (.iconst 2, 1) := by decide +kernel
theorem dX6_says_271 : decode cX6_says 271 = .ok (.iload_n 3, 1) := by decide +kernel
theorem dX6_says_272 : decode cX6_says 272 = .ok (.iload 5, 2) := by decide +kernel
theorem dX6_says_274 : decode cX6_says 274 = .ok (.invokevirtual 33, 3) := by decide +kernel
theorem dX6_says_277 : decode cX6_says 277 = .ok (.aload_n 0, 1) := by decide +kernel
theorem dX6_says_278 : decode cX6_says 278 = .ok (.getfield 20, 3) := by decide +kernel
theorem dX6_says_281 : decode cX6_says 281 = .ok (.ixor, 1) := by decide +kernel
theorem dX6_says_282 : decode cX6_says 282 = .ok (.ireturn, 1) := by decide +kernel
theorem dX6_says_283 : decode cX6_says 283 = .ok (.aload_n 0, 1) := by decide +kernel
theorem dX6_says_284 : decode cX6_says 284 = .ok (.aload_n 0, 1) := by decide +kernel
theorem dX6_says_285 : decode cX6_says 285 = .ok (.getfield 24, 3) := by decide +kernel
theorem dX6_says_288 : decode cX6_says 288 = .ok (.iconst 1, 1) := by decide +kernel
theorem dX6_says_289 : decode cX6_says 289 = .ok (.iload_n 3, 1) := by decide +kernel
theorem dX6_says_290 : decode cX6_says 290 = .ok (.iload 5, 2) := by decide +kernel
theorem dX6_says_292 : decode cX6_says 292 = .ok (.invokevirtual 33, 3) := by decide +kernel
theorem dX6_says_295 : decode cX6_says 295 = .ok (.aload_n 0, 1) := by decide +kernel
theorem dX6_says_296 : decode cX6_says 296 = .ok (.iconst 3, 1) := by decide +kernel
theorem dX6_says_297 : decode cX6_says 297 = .ok (.iconst 3, 1) := by decide +kernel
theorem dX6_says_298 : decode cX6_says 298 = .ok (.iload_n 3, 1) := by decide +kernel
theorem dX6_says_299 : decode cX6_says 299 = .ok (.iload 5, 2) := by decide +kernel
theorem dX6_says_301 : decode cX6_says 301 = .ok (.invokevirtual 33, 3) := by decide +kernel
theorem dX6_says_304 : decode cX6_says 304 = .ok (.isub, 1) := by decide +kernel
theorem dX6_says_305 : decode cX6_says 305 = .ok (.ireturn, 1) := by decide +kernel
theorem dX6_says_306 : decode cX6_says 306 = .ok (.iconst 0, 1) := by decide +kernel
theorem dX6_says_307 : decode cX6_says 307 = .ok (.ireturn, 1) := by decide +kernel
theorem dX6_bodyOf_0 : decode cX6_bodyOf 0 = .ok (.iload_n 0, 1) := by decide +kernel
theorem dX6_bodyOf_1 : decode cX6_bodyOf 1 = .ok (.istore_n 2, 1) := by decide +kernel
theorem dX6_bodyOf_2 : decode cX6_bodyOf 2 = .ok (.iconst 0, 1) := by decide +kernel
theorem dX6_bodyOf_3 : decode cX6_bodyOf 3 = .ok (.istore_n 3, 1) := by decide +kernel
theorem dX6_bodyOf_4 : decode cX6_bodyOf 4 = .ok (.iconst 0, 1) := by decide +kernel
theorem dX6_bodyOf_5 : decode cX6_bodyOf 5 = .ok (.istore 4, 2) := by decide +kernel
theorem dX6_bodyOf_7 : decode cX6_bodyOf 7 = .ok (.iload 4, 2) := by decide +kernel
theorem dX6_bodyOf_9 : decode cX6_bodyOf 9 = .ok (.getstatic 47, 3) := by decide +kernel
theorem dX6_bodyOf_12 : decode cX6_bodyOf 12 = .ok (.arraylength, 1) := by decide +kernel
theorem dX6_bodyOf_13 : decode cX6_bodyOf 13 = .ok (.if_icmp .ge 50, 3) := by decide +kernel
theorem dX6_bodyOf_16 : decode cX6_bodyOf 16 = .ok (.iload_n 3, 1) := by decide +kernel
theorem dX6_bodyOf_17 : decode cX6_bodyOf 17 = .ok (.ifCond .ne 46, 3) := by decide +kernel
theorem dX6_bodyOf_20 : decode cX6_bodyOf 20 = .ok (.iload_n 2, 1) := by decide +kernel
theorem dX6_bodyOf_21 : decode cX6_bodyOf 21 = .ok (.ifCond .lt 42, 3) := by decide +kernel
theorem dX6_bodyOf_24 : decode cX6_bodyOf 24 = .ok (.iload_n 2, 1) := by decide +kernel
theorem dX6_bodyOf_25 : decode cX6_bodyOf 25 = .ok (.iconst 4, 1) := by decide +kernel
theorem dX6_bodyOf_26 : decode cX6_bodyOf 26 = .ok (.imul, 1) := by decide +kernel
theorem dX6_bodyOf_27 : decode cX6_bodyOf 27 = .ok (.iload_n 1, 1) := by decide +kernel
theorem dX6_bodyOf_28 : decode cX6_bodyOf 28 = .ok (.iadd, 1) := by decide +kernel
theorem dX6_bodyOf_29 : decode cX6_bodyOf 29 = .ok (.istore 5, 2) := by decide +kernel
theorem dX6_bodyOf_31 : decode cX6_bodyOf 31 = .ok (.iload 5, 2) := by decide +kernel
theorem dX6_bodyOf_33 : decode cX6_bodyOf 33 = .ok (.ifCond .lt 19, 3) := by decide +kernel
theorem dX6_bodyOf_36 : decode cX6_bodyOf 36 = .ok (.iload 5, 2) := by decide +kernel
theorem dX6_bodyOf_38 : decode cX6_bodyOf 38 = .ok (.getstatic 47, 3) := by decide +kernel
theorem dX6_bodyOf_41 : decode cX6_bodyOf 41 = .ok (.arraylength, 1) := by decide +kernel
theorem dX6_bodyOf_42 : decode cX6_bodyOf 42 = .ok (.if_icmp .ge 10, 3) := by decide +kernel
theorem dX6_bodyOf_45 : decode cX6_bodyOf 45 = .ok (.getstatic 47, 3) := by decide +kernel
theorem dX6_bodyOf_48 : decode cX6_bodyOf 48 = .ok (.iload 5, 2) := by decide +kernel
theorem dX6_bodyOf_50 : decode cX6_bodyOf 50 = .ok (.iaload, 1) := by decide +kernel
theorem dX6_bodyOf_51 : decode cX6_bodyOf 51 = .ok (.istore_n 3, 1) := by decide +kernel
theorem dX6_bodyOf_52 : decode cX6_bodyOf 52 = .ok (.iload_n 2, 1) := by decide +kernel
theorem dX6_bodyOf_53 : decode cX6_bodyOf 53 = .ok (.invokestatic 51, 3) := by decide +kernel
theorem dX6_bodyOf_56 : decode cX6_bodyOf 56 = .ok (.istore_n 2, 1) := by decide +kernel
theorem dX6_bodyOf_57 : decode cX6_bodyOf 57 = .ok (.iinc 4 1, 3) := by decide +kernel
theorem dX6_bodyOf_60 : decode cX6_bodyOf 60 = .ok (.goto (-53), 3) := by decide +kernel
theorem dX6_bodyOf_63 : decode cX6_bodyOf 63 = .ok (.iload_n 3, 1) := by decide +kernel
theorem dX6_bodyOf_64 : decode cX6_bodyOf 64 = .ok (.ireturn, 1) := by decide +kernel
