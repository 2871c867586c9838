theorem dX8_least_1 : decode cX8_least 1 = .ok (.iload_n 1, 1) := by decide +kernel
theorem dX8_least_2 : decode cX8_least 2 = .ok (.iconst 1, 1) := by decide +kernel
theorem dX8_least_3 : decode cX8_least 3 = .ok (.invokevirtual 154, 3) := by decide +kernel
theorem dX8_least_6 : decode cX8_least 6 = .ok (.istore_n 2, 1) := by decide +kernel
theorem dX8_least_7 : decode cX8_least 7 = .ok (.aload_n 0, 1) := by decide +kernel
theorem dX8_least_8 : decode cX8_least 8 = .ok (.getfield 7, 3) := by decide +kernel
theorem dX8_least_11 : decode cX8_least 11 = .ok (.iconst 1, 1) := by decide +kernel
theorem dX8_least_12 : decode cX8_least 12 = .ok (.iaload, 1) := by decide +kernel
theorem dX8_least_13 : decode cX8_least 13 = .ok (.iconst 3, 1) := by decide +kernel
theorem dX8_least_14 : decode cX8_least 14 = .ok (.irem, 1) := by decide +kernel
theorem dX8_least_15 : decode cX8_least 15 = .ok (.ifCond .ne 8, 3) := by decide +kernel
theorem dX8_least_18 : decode cX8_least 18 = .ok (.bipush 30, 2) := by decide +kernel
theorem dX8_least_20 : decode cX8_least 20 = .ok (.goto 5, 3) := by decide +kernel
theorem dX8_least_23 : decode cX8_least 23 = .ok (.bipush 40, 2) := by decide +kernel
theorem dX8_least_25 : decode cX8_least 25 = .ok (.istore_n 3, 1) := by decide +kernel
theorem dX8_least_26 : decode cX8_least 26 = .ok (.aload_n 0, 1) := by decide +kernel
theorem dX8_least_27 : decode cX8_least 27 = .ok (.iload_n 1, 1) := by decide +kernel
theorem dX8_least_28 : decode cX8_least 28 = .ok (.iconst 0, 1) := by decide +kernel
theorem dX8_least_29 : decode cX8_least 29 = .ok (.invokevirtual 154, 3) := by decide +kernel
theorem dX8_least_32 : decode cX8_least 32 = .ok (.tableswitch 64 1 6 #[40, 47, 50, 52, 55, 60], 40) := by decide +kernel
theorem dX8_least_72 : decode cX8_least 72 = .ok (.bipush 40, 2) := by decide +kernel
theorem dX8_least_74 : decode cX8_least 74 = .ok (.iconst 2, 1) := by decide +kernel
theorem dX8_least_75 : decode cX8_least 75 = .ok (.iload_n 2, 1) := by decide +kernel
theorem dX8_least_76 : decode cX8_least 76 = .ok (.imul, 1) := by decide +kernel
theorem dX8_least_77 : decode cX8_least 77 = .ok (.iadd, 1) := by decide +kernel
theorem dX8_least_78 : decode cX8_least 78 = .ok (.ireturn, 1) := by decide +kernel
theorem dX8_least_79 : decode cX8_least 79 = .ok (.bipush 20, 2) := by decide +kernel
theorem dX8_least_81 : decode cX8_least 81 = .ok (.ireturn, 1) := by decide +kernel
theorem dX8_least_82 : decode cX8_least 82 = .ok (.iload_n 3, 1) := by decide +kernel
theorem dX8_least_83 : decode cX8_least 83 = .ok (.ireturn, 1) := by decide +kernel
theorem dX8_least_84 : decode cX8_least 84 = .ok (.bipush 100, 2) := by decide +kernel
theorem dX8_least_86 : decode cX8_least 86 = .ok (.ireturn, 1) := by decide +kernel
theorem dX8_least_87 : decode cX8_least 87 = .ok (.bipush 20, 2) := by decide +kernel
theorem dX8_least_89 : decode cX8_least 89 = .ok (.iload_n 2, 1) := by decide +kernel
theorem dX8_least_90 : decode cX8_least 90 = .ok (.isub, 1) := by decide +kernel
theorem dX8_least_91 : decode cX8_least 91 = .ok (.ireturn, 1) := by decide +kernel
theorem dX8_least_92 : decode cX8_least 92 = .ok (.iload_n 3, 1) := by decide +kernel
theorem dX8_least_93 : decode cX8_least 93 = .ok (.iload_n 2, 1) := by decide +kernel
theorem dX8_least_94 : decode cX8_least 94 = .ok (.iadd, 1) := by decide +kernel
theorem dX8_least_95 : decode cX8_least 95 = .ok (.ireturn, 1) := by decide +kernel
theorem dX8_least_96 : decode cX8_least 96 = .ok (.bipush 40, 2) := by decide +kernel
theorem dX8_least_98 : decode cX8_least 98 = .ok (.ireturn, 1) := by decide +kernel
theorem dX8_most_0 : decode cX8_most 0 = .ok (.aload_n 0, 1) := by decide +kernel
theorem dX8_most_1 : decode cX8_most 1 = .ok (.iload_n 1, 1) := by decide +kernel
theorem dX8_most_2 : decode cX8_most 2 = .ok (.iconst 0, 1) := by decide +kernel
theorem dX8_most_3 : decode cX8_most 3 = .ok (.invokevirtual 154, 3) := by decide +kernel
theorem dX8_most_6 : decode cX8_most 6 = .ok (.tableswitch 49 1 6 #[38, 49, 49, 38, 42, 45], 38) := by decide +kernel
theorem dX8_most_44 : decode cX8_most 44 = .ok (.sipush 300, 3) := by decide +kernel
theorem dX8_most_47 : decode cX8_most 47 = .ok (.ireturn, 1) := by decide +kernel
theorem dX8_most_48 : decode cX8_most 48 = .ok (.bipush 60, 2) := by decide +kernel
theorem dX8_most_50 : decode cX8_most 50 = .ok (.ireturn, 1) := by decide +kernel
theorem dX8_most_51 : decode cX8_most 51 = .ok (.sipush 150, 3) := by decide +kernel
theorem dX8_most_54 : decode cX8_most 54 = .ok (.ireturn, 1) := by decide +kernel
theorem dX8_most_55 : decode cX8_most 55 = .ok (.sipush 200, 3) := by decide +kernel
theorem dX8_most_58 : decode cX8_most 58 = .ok (.ireturn, 1) := by decide +kernel
theorem dX8_drains_0 : decode cX8_drains 0 = .ok (.aload_n 0, 1) := by decide +kernel
theorem dX8_drains_1 : decode cX8_drains 1 = .ok (.iload_n 1, 1) := by decide +kernel
theorem dX8_drains_2 : decode cX8_drains 2 = .ok (.iconst 0, 1) := by decide +kernel
theorem dX8_drains_3 : decode cX8_drains 3 = .ok (.invokevirtual 154, 3) := by decide +kernel
theorem dX8_drains_6 : decode cX8_drains 6 = .ok (.tableswitch 52 1 5 #[34, 37, 52, 39, 41], 34) := by decide +kernel
theorem dX8_drains_40 : decode cX8_drains 40 = .ok (.bipush 6, 2) := by decide +kernel
theorem dX8_drains_42 : decode cX8_drains 42 = .ok (.ireturn, 1) := by decide +kernel
theorem dX8_drains_43 : decode cX8_drains 43 = .ok (.iconst 1, 1) := by decide +kernel
theorem dX8_drains_44 : decode cX8_drains 44 = .ok (.ireturn, 1) := by decide +kernel
theorem dX8_drains_45 : decode cX8_drains 45 = .ok (.iconst 0, 1) := by decide +kernel
theorem dX8_drains_46 : decode cX8_drains 46 = .ok (.ireturn, 1) := by decide +kernel
theorem dX8_drains_47 : decode cX8_drains 47 = .ok (.iconst 1, 1) := by decide +kernel
theorem dX8_drains_48 : decode cX8_drains 48 = .ok (.aload_n 0, 1) := by decide +kernel
theorem dX8_drains_49 : decode cX8_drains 49 = .ok (.getfield 7, 3) := by decide +kernel
theorem dX8_drains_52 : decode cX8_drains 52 = .ok (.iconst 1, 1) := by decide +kernel
theorem dX8_drains_53 : decode cX8_drains 53 = .ok (.iaload, 1) := by decide +kernel
theorem dX8_drains_54 : decode cX8_drains 54 = .ok (.iconst 5, 1) := by decide +kernel
theorem dX8_drains_55 : decode cX8_drains 55 = .ok (.irem, 1) := by decide +kernel
theorem dX8_drains_56 : decode cX8_drains 56 = .ok (.iadd, 1) := by decide +kernel
theorem dX8_drains_57 : decode cX8_drains 57 = .ok (.ireturn, 1) := by decide +kernel
theorem dX8_drains_58 : decode cX8_drains 58 = .ok (.iconst 2, 1) := by decide +kernel
theorem dX8_drains_59 : decode cX8_drains 59 = .ok (.ireturn, 1) := by decide +kernel
theorem dX8_isContent_0 : decode cX8_isContent 0 = .ok (.aload_n 0, 1) := by decide +kernel
theorem dX8_isContent_1 : decode cX8_isContent 1 = .ok (.getfield 7, 3) := by decide +kernel
theorem dX8_isContent_4 : decode cX8_isContent 4 = .ok (.bipush 9, 2) := by decide +kernel
theorem dX8_isContent_6 : decode cX8_isContent 6 = .ok (.aload_n 0, 1) := by decide +kernel
theorem dX8_isContent_7 : decode cX8_isContent 7 = .ok (.iload_n 1, 1) := by decide +kernel
theorem dX8_isContent_8 : decode cX8_isContent 8 = .ok (.iconst 2, 1) := by decide +kernel
theorem dX8_isContent_9 : decode cX8_isContent 9 = .ok (.invokevirtual 154, 3) := by decide +kernel
theorem dX8_isContent_12 : decode cX8_isContent 12 = .ok (.iadd, 1) := by decide +kernel
theorem dX8_isContent_13 : decode cX8_isContent 13 = .ok (.iaload, 1) := by decide +kernel
theorem dX8_isContent_14 : decode cX8_isContent 14 = .ok (.i2l, 1) := by decide +kernel
theorem dX8_isContent_15 : decode cX8_isContent 15 = .ok (.aload_n 0, 1) := by decide +kernel
theorem dX8_isContent_16 : decode cX8_isContent 16 = .ok (.iload_n 1, 1) := by decide +kernel
theorem dX8_isContent_17 : decode cX8_isContent 17 = .ok (.invokevirtual 157, 3) := by decide +kernel
theorem dX8_isContent_20 : decode cX8_isContent 20 = .ok (.i2l, 1) := by decide +kernel
theorem dX8_isContent_21 : decode cX8_isContent 21 = .ok (.aload_n 0, 1) := by decide +kernel
theorem dX8_isContent_22 : decode cX8_isContent 22 = .ok (.iload_n 1, 1) := by decide +kernel
theorem dX8_isContent_23 : decode cX8_isContent 23 = .ok (.invokevirtual 160, 3) := by decide +kernel
theorem dX8_isContent_26 : decode cX8_isContent 26 = .ok (.i2l, 1) := by decide +kernel
theorem dX8_isContent_27 : decode cX8_isContent 27 = .ok (.invokestatic 53, 3) := by decide +kernel
theorem dX8_isContent_30 : decode cX8_isContent 30 = .ok (.ireturn, 1) := by decide +kernel
theorem dX8_heatGoes_0 : decode cX8_heatGoes 0 = .ok (.iconst 0, 1) := by decide +kernel
theorem dX8_heatGoes_1 : decode cX8_heatGoes 1 = .ok (.istore_n 1, 1) := by decide +kernel
theorem dX8_heatGoes_2 : decode cX8_heatGoes 2 = .ok (.iload_n 1, 1) := by decide +kernel
theorem dX8_heatGoes_3 : decode cX8_heatGoes 3 = .ok (.bipush 16, 2) := by decide +kernel
theorem dX8_heatGoes_5 : decode cX8_heatGoes 5 = .ok (.if_icmp .ge 16, 3) := by decide +kernel
theorem dX8_heatGoes_8 : decode cX8_heatGoes 8 = .ok (.aload_n 0, 1) := by decide +kernel
theorem dX8_heatGoes_9 : decode cX8_heatGoes 9 = .ok (.getfield 31, 3) := by decide +kernel
theorem dX8_heatGoes_12 : decode cX8_heatGoes 12 = .ok (.iload_n 1, 1) := by decide +kernel
theorem dX8_heatGoes_13 : decode cX8_heatGoes 13 = .ok (.iconst 0, 1) := by decide +kernel
theorem dX8_heatGoes_14 : decode cX8_heatGoes 14 = .ok (.iastore, 1) := by decide +kernel
theorem dX8_heatGoes_15 : decode cX8_heatGoes 15 = .ok (.iinc 1 1, 3) := by decide +kernel
theorem dX8_heatGoes_18 : decode cX8_heatGoes 18 = .ok (.goto (-16), 3) := by decide +kernel
theorem dX8_heatGoes_21 : decode cX8_heatGoes 21 = .ok (.iconst 0, 1) := by decide +kernel
theorem dX8_heatGoes_22 : decode cX8_heatGoes 22 = .ok (.istore_n 1, 1) := by decide +kernel
theorem dX8_heatGoes_23 : decode cX8_heatGoes 23 = .ok (.iload_n 1, 1) := by decide +kernel
theorem dX8_heatGoes_24 : decode cX8_heatGoes 24 = .ok (.bipush 12, 2) := by decide +kernel
theorem dX8_heatGoes_26 : decode cX8_heatGoes 26 = .ok (.if_icmp .ge 98, 3) := by decide +kernel
theorem dX8_heatGoes_29 : decode cX8_heatGoes 29 = .ok (.aload_n 0, 1) := by decide +kernel
theorem dX8_heatGoes_30 : decode cX8_heatGoes 30 = .ok (.getfield 7, 3) := by decide +kernel
theorem dX8_heatGoes_33 : decode cX8_heatGoes 33 = .ok (.bipush 9, 2) := by decide +kernel
theorem dX8_heatGoes_35 : decode cX8_heatGoes 35 = .ok (.iload_n 1, 1) := by decide +kernel
theorem dX8_heatGoes_36 : decode cX8_heatGoes 36 = .ok (.iadd, 1) := by decide +kernel
theorem dX8_heatGoes_37 : decode cX8_heatGoes 37 = .ok (.iaload, 1) := by decide +kernel
theorem dX8_heatGoes_38 : decode cX8_heatGoes 38 = .ok (.aload_n 0, 1) := by decide +kernel
theorem dX8_heatGoes_39 : decode cX8_heatGoes 39 = .ok (.getfield 7, 3) := by decide +kernel
theorem dX8_heatGoes_42 : decode cX8_heatGoes 42 = .ok (.bipush 9, 2) := by decide +kernel
theorem dX8_heatGoes_44 : decode cX8_heatGoes 44 = .ok (.iload_n 1, 1) := by decide +kernel
theorem dX8_heatGoes_45 : decode cX8_heatGoes 45 = .ok (.iadd, 1) := by decide +kernel
theorem dX8_heatGoes_46 : decode cX8_heatGoes 46 = .ok (.iconst 4, 1) := by decide +kernel
theorem dX8_heatGoes_47 : decode cX8_heatGoes 47 = .ok (.iadd, 1) := by decide +kernel
theorem dX8_heatGoes_48 : decode cX8_heatGoes 48 = .ok (.iaload, 1) := by decide +kernel
theorem dX8_heatGoes_49 : decode cX8_heatGoes 49 = .ok (.isub, 1) := by decide +kernel
theorem dX8_heatGoes_50 : decode cX8_heatGoes 50 = .ok (.istore_n 2, 1) := by decide +kernel
theorem dX8_heatGoes_51 : decode cX8_heatGoes 51 = .ok (.aload_n 0, 1) := by decide +kernel
theorem dX8_heatGoes_52 : decode cX8_heatGoes 52 = .ok (.getfield 7, 3) := by decide +kernel
theorem dX8_heatGoes_55 : decode cX8_heatGoes 55 = .ok (.bipush 8, 2) := by decide +kernel
theorem dX8_heatGoes_57 : decode cX8_heatGoes 57 = .ok (.iaload, 1) := by decide +kernel
theorem dX8_heatGoes_58 : decode cX8_heatGoes 58 = .ok (.iload_n 1, 1) := by decide +kernel
theorem dX8_heatGoes_59 : decode cX8_heatGoes 59 = .ok (.ishr, 1) := by decide +kernel
theorem dX8_heatGoes_60 : decode cX8_heatGoes 60 = .ok (.iconst 1, 1) := by decide +kernel
theorem dX8_heatGoes_61 : decode cX8_heatGoes 61 = .ok (.iand, 1) := by decide +kernel
theorem dX8_heatGoes_62 : decode cX8_heatGoes 62 = .ok (.iconst 1, 1) := by decide +kernel
theorem dX8_heatGoes_63 : decode cX8_heatGoes 63 = .ok (.if_icmp .ne 55, 3) := by decide +kernel
theorem dX8_heatGoes_66 : decode cX8_heatGoes 66 = .ok (.iload_n 2, 1) := by decide +kernel
theorem dX8_heatGoes_67 : decode cX8_heatGoes 67 = .ok (.ifCond .le 51, 3) := by decide +kernel
theorem dX8_heatGoes_70 : decode cX8_heatGoes 70 = .ok (.aload_n 0, 1) := by decide +kernel
theorem dX8_heatGoes_71 : decode cX8_heatGoes 71 = .ok (.iconst 1, 1) := by decide +kernel
theorem dX8_heatGoes_72 : decode cX8_heatGoes 72 = .ok (.iload_n 2, 1) := by decide +kernel
theorem dX8_heatGoes_73 : decode cX8_heatGoes 73 = .ok (.iload_n 1, 1) := by decide +kernel
theorem dX8_heatGoes_74 : decode cX8_heatGoes 74 = .ok (.iconst 4, 1) := by decide +kernel
theorem dX8_heatGoes_75 : decode cX8_heatGoes 75 = .ok (.idiv, 1) := by decide +kernel
theorem dX8_heatGoes_76 : decode cX8_heatGoes 76 = .ok (.aload_n 0, 1) := by decide +kernel
theorem dX8_heatGoes_77 : decode cX8_heatGoes 77 = .ok (.getfield 7, 3) := by decide +kernel
theorem dX8_heatGoes_80 : decode cX8_heatGoes 80 = .ok (.iconst 1, 1) := by decide +kernel
theorem dX8_heatGoes_81 : decode cX8_heatGoes 81 = .ok (.iaload, 1) := by decide +kernel
theorem dX8_heatGoes_82 : decode cX8_heatGoes 82 = .ok (.bipush 24, 2) := by decide +kernel
theorem dX8_heatGoes_84 : decode cX8_heatGoes 84 = .ok (.irem, 1) := by decide +kernel
theorem dX8_heatGoes_85 : decode cX8_heatGoes 85 = .ok (.invokevirtual 150, 3) := by decide +kernel
theorem dX8_heatGoes_88 : decode cX8_heatGoes 88 = .ok (.iconst 0, 1) := by decide +kernel
theorem dX8_heatGoes_89 : decode cX8_heatGoes 89 = .ok (.iload_n 2, 1) := by decide +kernel
theorem dX8_heatGoes_90 : decode cX8_heatGoes 90 = .ok (.iconst 2, 1) := by decide +kernel
theorem dX8_heatGoes_91 : decode cX8_heatGoes 91 = .ok (.idiv, 1) := by decide +kernel
theorem dX8_heatGoes_92 : decode cX8_heatGoes 92 = .ok (.invokestatic 147, 3) := by decide +kernel
theorem dX8_heatGoes_95 : decode cX8_heatGoes 95 = .ok (.istore_n 3, 1) := by decide +kernel
theorem dX8_heatGoes_96 : decode cX8_heatGoes 96 = .ok (.aload_n 0, 1) := by decide +kernel
theorem dX8_heatGoes_97 : decode cX8_heatGoes 97 = .ok (.getfield 31, 3) := by decide +kernel
theorem dX8_heatGoes_100 : decode cX8_heatGoes 100 = .ok (.iload_n 1, 1) := by decide +kernel
theorem dX8_heatGoes_101 : decode cX8_heatGoes 101 = .ok (.dup2, 1) := by decide +kernel
theorem dX8_heatGoes_102 : decode cX8_heatGoes 102 = .ok (.iaload, 1) := by decide +kernel
theorem dX8_heatGoes_103 : decode cX8_heatGoes 103 = .ok (.iload_n 3, 1) := by decide +kernel
theorem dX8_heatGoes_104 : decode cX8_heatGoes 104 = .ok (.isub, 1) := by decide +kernel
theorem dX8_heatGoes_105 : decode cX8_heatGoes 105 = .ok (.iastore, 1) := by decide +kernel
theorem dX8_heatGoes_106 : decode cX8_heatGoes 106 = .ok (.aload_n 0, 1) := by decide +kernel
theorem dX8_heatGoes_107 : decode cX8_heatGoes 107 = .ok (.getfield 31, 3) := by decide +kernel
theorem dX8_heatGoes_110 : decode cX8_heatGoes 110 = .ok (.iload_n 1, 1) := by decide +kernel
theorem dX8_heatGoes_111 : decode cX8_heatGoes 111 = .ok (.iconst 4, 1) := by decide +kernel
theorem dX8_heatGoes_112 : decode cX8_heatGoes 112 = .ok (.iadd, 1) := by decide +kernel
theorem dX8_heatGoes_113 : decode cX8_heatGoes 113 = .ok (.dup2, 1) := by decide +kernel
theorem dX8_heatGoes_114 : decode cX8_heatGoes 114 = .ok (.iaload, 1) := by decide +kernel
theorem dX8_heatGoes_115 : decode cX8_heatGoes 115 = .ok (.iload_n 3, 1) := by decide +kernel
theorem dX8_heatGoes_116 : decode cX8_heatGoes 116 = .ok (.iadd, 1) := by decide +kernel
theorem dX8_heatGoes_117 : decode cX8_heatGoes 117 = .ok (.iastore, 1) := by decide +kernel
theorem dX8_heatGoes_118 : decode cX8_heatGoes 118 = .ok (.iinc 1 1, 3) := by decide +kernel
theorem dX8_heatGoes_121 : decode cX8_heatGoes 121 = .ok (.goto (-98), 3) := by decide +kernel
theorem dX8_heatGoes_124 : decode cX8_heatGoes 124 = .ok (.iconst 0, 1) := by decide +kernel
theorem dX8_heatGoes_125 : decode cX8_heatGoes 125 = .ok (.istore_n 1, 1) := by decide +kernel
theorem dX8_heatGoes_126 : decode cX8_heatGoes 126 = .ok (.iload_n 1, 1) := by decide +kernel
theorem dX8_heatGoes_127 : decode cX8_heatGoes 127 = .ok (.bipush 16, 2) := by decide +kernel
theorem dX8_heatGoes_129 : decode cX8_heatGoes 129 = .ok (.if_icmp .ge 27, 3) := by decide +kernel
theorem dX8_heatGoes_132 : decode cX8_heatGoes 132 = .ok (.aload_n 0, 1) := by decide +kernel
theorem dX8_heatGoes_133 : decode cX8_heatGoes 133 = .ok (.getfield 7, 3) := by decide +kernel
theorem dX8_heatGoes_136 : decode cX8_heatGoes 136 = .ok (.bipush 9, 2) := by decide +kernel
theorem dX8_heatGoes_138 : decode cX8_heatGoes 138 = .ok (.iload_n 1, 1) := by decide +kernel
theorem dX8_heatGoes_139 : decode cX8_heatGoes 139 = .ok (.iadd, 1) := by decide +kernel
theorem dX8_heatGoes_140 : decode cX8_heatGoes 140 = .ok (.dup2, 1) := by decide +kernel
theorem dX8_heatGoes_141 : decode cX8_heatGoes 141 = .ok (.iaload, 1) := by decide +kernel
theorem dX8_heatGoes_142 : decode cX8_heatGoes 142 = .ok (.aload_n 0, 1) := by decide +kernel
theorem dX8_heatGoes_143 : decode cX8_heatGoes 143 = .ok (.getfield 31, 3) := by decide +kernel
theorem dX8_heatGoes_146 : decode cX8_heatGoes 146 = .ok (.iload_n 1, 1) := by decide +kernel
theorem dX8_heatGoes_147 : decode cX8_heatGoes 147 = .ok (.iaload, 1) := by decide +kernel
theorem dX8_heatGoes_148 : decode cX8_heatGoes 148 = .ok (.iadd, 1) := by decide +kernel
theorem dX8_heatGoes_149 : decode cX8_heatGoes 149 = .ok (.iastore, 1) := by decide +kernel
theorem dX8_heatGoes_150 : decode cX8_heatGoes 150 = .ok (.iinc 1 1, 3) := by decide +kernel
theorem dX8_heatGoes_153 : decode cX8_heatGoes 153 = .ok (.goto (-27), 3) := by decide +kernel
theorem dX8_heatGoes_156 : decode cX8_heatGoes 156 = .ok (.return_, 1) := by decide +kernel
theorem dX8_hourGoes_0 : decode cX8_hourGoes 0 = .ok (.iconst 0, 1) := by decide +kernel
theorem dX8_hourGoes_1 : decode cX8_hourGoes 1 = .ok (.istore_n 1, 1) := by decide +kernel
theorem dX8_hourGoes_2 : decode cX8_hourGoes 2 = .ok (.iload_n 1, 1) := by decide +kernel
theorem dX8_hourGoes_3 : decode cX8_hourGoes 3 = .ok (.iconst 4, 1) := by decide +kernel
theorem dX8_hourGoes_4 : decode cX8_hourGoes 4 = .ok (.if_icmp .ge 41, 3) := by decide +kernel
theorem dX8_hourGoes_7 : decode cX8_hourGoes 7 = .ok (.aload_n 0, 1) := by decide +kernel
theorem dX8_hourGoes_8 : decode cX8_hourGoes 8 = .ok (.getfield 7, 3) := by decide +kernel
theorem dX8_hourGoes_11 : decode cX8_hourGoes 11 = .ok (.bipush 9, 2) := by decide +kernel
theorem dX8_hourGoes_13 : decode cX8_hourGoes 13 = .ok (.iload_n 1, 1) := by decide +kernel
theorem dX8_hourGoes_14 : decode cX8_hourGoes 14 = .ok (.iadd, 1) := by decide +kernel
theorem dX8_hourGoes_15 : decode cX8_hourGoes 15 = .ok (.aload_n 0, 1) := by decide +kernel
theorem dX8_hourGoes_16 : decode cX8_hourGoes 16 = .ok (.getfield 7, 3) := by decide +kernel
theorem dX8_hourGoes_19 : decode cX8_hourGoes 19 = .ok (.bipush 9, 2) := by decide +kernel
theorem dX8_hourGoes_21 : decode cX8_hourGoes 21 = .ok (.iload_n 1, 1) := by decide +kernel
theorem dX8_hourGoes_22 : decode cX8_hourGoes 22 = .ok (.iadd, 1) := by decide +kernel
theorem dX8_hourGoes_23 : decode cX8_hourGoes 23 = .ok (.iaload, 1) := by decide +kernel
theorem dX8_hourGoes_24 : decode cX8_hourGoes 24 = .ok (.aload_n 0, 1) := by decide +kernel
theorem dX8_hourGoes_25 : decode cX8_hourGoes 25 = .ok (.getfield 7, 3) := by decide +kernel
theorem dX8_hourGoes_28 : decode cX8_hourGoes 28 = .ok (.iconst 2, 1) := by decide +kernel
theorem dX8_hourGoes_29 : decode cX8_hourGoes 29 = .ok (.iaload, 1) := by decide +kernel
theorem dX8_hourGoes_30 : decode cX8_hourGoes 30 = .ok (.iadd, 1) := by decide +kernel
theorem dX8_hourGoes_31 : decode cX8_hourGoes 31 = .ok (.iconst 0, 1) := by decide +kernel
theorem dX8_hourGoes_32 : decode cX8_hourGoes 32 = .ok (.sipush 999, 3) := by decide +kernel
theorem dX8_hourGoes_35 : decode cX8_hourGoes 35 = .ok (.invokestatic 147, 3) := by decide +kernel
theorem dX8_hourGoes_38 : decode cX8_hourGoes 38 = .ok (.iastore, 1) := by decide +kernel
theorem dX8_hourGoes_39 : decode cX8_hourGoes 39 = .ok (.iinc 1 1, 3) := by decide +kernel
theorem dX8_hourGoes_42 : decode cX8_hourGoes 42 = .ok (.goto (-40), 3) := by decide +kernel
theorem dX8_hourGoes_45 : decode cX8_hourGoes 45 = .ok (.aload_n 0, 1) := by decide +kernel
theorem dX8_hourGoes_46 : decode cX8_hourGoes 46 = .ok (.getfield 7, 3) := by decide +kernel
theorem dX8_hourGoes_49 : decode cX8_hourGoes 49 = .ok (.iconst 4, 1) := by decide +kernel
theorem dX8_hourGoes_50 : decode cX8_hourGoes 50 = .ok (.aload_n 0, 1) := by decide +kernel
theorem dX8_hourGoes_51 : decode cX8_hourGoes 51 = .ok (.getfield 7, 3) := by decide +kernel
theorem dX8_hourGoes_54 : decode cX8_hourGoes 54 = .ok (.iconst 4, 1) := by decide +kernel
theorem dX8_hourGoes_55 : decode cX8_hourGoes 55 = .ok (.iaload, 1) := by decide +kernel
theorem dX8_hourGoes_56 : decode cX8_hourGoes 56 = .ok (.iconst 4, 1) := by decide +kernel
theorem dX8_hourGoes_57 : decode cX8_hourGoes 57 = .ok (.aload_n 0, 1) := by decide +kernel
theorem dX8_hourGoes_58 : decode cX8_hourGoes 58 = .ok (.getfield 7, 3) := by decide +kernel
theorem dX8_hourGoes_61 : decode cX8_hourGoes 61 = .ok (.iconst 2, 1) := by decide +kernel
theorem dX8_hourGoes_62 : decode cX8_hourGoes 62 = .ok (.iaload, 1) := by decide +kernel
theorem dX8_hourGoes_63 : decode cX8_hourGoes 63 = .ok (.imul, 1) := by decide +kernel
theorem dX8_hourGoes_64 : decode cX8_hourGoes 64 = .ok (.iadd, 1) := by decide +kernel
theorem dX8_hourGoes_65 : decode cX8_hourGoes 65 = .ok (.iconst 0, 1) := by decide +kernel
theorem dX8_hourGoes_66 : decode cX8_hourGoes 66 = .ok (.ldc 163, 2) := by decide +kernel
theorem dX8_hourGoes_68 : decode cX8_hourGoes 68 = .ok (.invokestatic 147, 3) := by decide +kernel
theorem dX8_hourGoes_71 : decode cX8_hourGoes 71 = .ok (.iastore, 1) := by decide +kernel
theorem dX8_hourGoes_72 : decode cX8_hourGoes 72 = .ok (.aload_n 0, 1) := by decide +kernel
theorem dX8_hourGoes_73 : decode cX8_hourGoes 73 = .ok (.getfield 7, 3) := by decide +kernel
theorem dX8_hourGoes_76 : decode cX8_hourGoes 76 = .ok (.iconst 3, 1) := by decide +kernel
theorem dX8_hourGoes_77 : decode cX8_hourGoes 77 = .ok (.aload_n 0, 1) := by decide +kernel
theorem dX8_hourGoes_78 : decode cX8_hourGoes 78 = .ok (.getfield 7, 3) := by decide +kernel
theorem dX8_hourGoes_81 : decode cX8_hourGoes 81 = .ok (.iconst 3, 1) := by decide +kernel
theorem dX8_hourGoes_82 : decode cX8_hourGoes 82 = .ok (.iaload, 1) := by decide +kernel
theorem dX8_hourGoes_83 : decode cX8_hourGoes 83 = .ok (.aload_n 0, 1) := by decide +kernel
theorem dX8_hourGoes_84 : decode cX8_hourGoes 84 = .ok (.iconst 0, 1) := by decide +kernel
theorem dX8_hourGoes_85 : decode cX8_hourGoes 85 = .ok (.aload_n 0, 1) := by decide +kernel
theorem dX8_hourGoes_86 : decode cX8_hourGoes 86 = .ok (.getfield 7, 3) := by decide +kernel
theorem dX8_hourGoes_89 : decode cX8_hourGoes 89 = .ok (.iconst 2, 1) := by decide +kernel
theorem dX8_hourGoes_90 : decode cX8_hourGoes 90 = .ok (.iaload, 1) := by decide +kernel
theorem dX8_hourGoes_91 : decode cX8_hourGoes 91 = .ok (.aload_n 0, 1) := by decide +kernel
theorem dX8_hourGoes_92 : decode cX8_hourGoes 92 = .ok (.getfield 7, 3) := by decide +kernel
theorem dX8_hourGoes_95 : decode cX8_hourGoes 95 = .ok (.iconst 1, 1) := by decide +kernel
theorem dX8_hourGoes_96 : decode cX8_hourGoes 96 = .ok (.iaload, 1) := by decide +kernel
theorem dX8_hourGoes_97 : decode cX8_hourGoes 97 = .ok (.bipush 24, 2) := by decide +kernel
theorem dX8_hourGoes_99 : decode cX8_hourGoes 99 = .ok (.irem, 1) := by decide +kernel
theorem dX8_hourGoes_100 : decode cX8_hourGoes 100 = .ok (.aload_n 0, 1) := by decide +kernel
theorem dX8_hourGoes_101 : decode cX8_hourGoes 101 = .ok (.getfield 7, 3) := by decide +kernel
theorem dX8_hourGoes_104 : decode cX8_hourGoes 104 = .ok (.iconst 3, 1) := by decide +kernel
theorem dX8_hourGoes_105 : decode cX8_hourGoes 105 = .ok (.iaload, 1) := by decide +kernel
theorem dX8_hourGoes_106 : decode cX8_hourGoes 106 = .ok (.bipush 100, 2) := by decide +kernel
theorem dX8_hourGoes_108 : decode cX8_hourGoes 108 = .ok (.irem, 1) := by decide +kernel
theorem dX8_hourGoes_109 : decode cX8_hourGoes 109 = .ok (.invokevirtual 150, 3) := by decide +kernel
theorem dX8_hourGoes_112 : decode cX8_hourGoes 112 = .ok (.iadd, 1) := by decide +kernel
theorem dX8_hourGoes_113 : decode cX8_hourGoes 113 = .ok (.aload_n 0, 1) := by decide +kernel
theorem dX8_hourGoes_114 : decode cX8_hourGoes 114 = .ok (.getfield 7, 3) := by decide +kernel
theorem dX8_hourGoes_117 : decode cX8_hourGoes 117 = .ok (.iconst 2, 1) := by decide +kernel
theorem dX8_hourGoes_118 : decode cX8_hourGoes 118 = .ok (.iaload, 1) := by decide +kernel
theorem dX8_hourGoes_119 : decode cX8_hourGoes 119 = .ok (.isub, 1) := by decide +kernel
theorem dX8_hourGoes_120 : decode cX8_hourGoes 120 = .ok (.iconst 0, 1) := by decide +kernel
theorem dX8_hourGoes_121 : decode cX8_hourGoes 121 = .ok (.sipush 9999, 3) := by decide +kernel
theorem dX8_hourGoes_124 : decode cX8_hourGoes 124 = .ok (.invokestatic 147, 3) := by decide +kernel
theorem dX8_hourGoes_127 : decode cX8_hourGoes 127 = .ok (.iastore, 1) := by decide +kernel
theorem dX8_hourGoes_128 : decode cX8_hourGoes 128 = .ok (.aload_n 0, 1) := by decide +kernel
theorem dX8_hourGoes_129 : decode cX8_hourGoes 129 = .ok (.invokevirtual 164, 3) := by decide +kernel
theorem dX8_hourGoes_132 : decode cX8_hourGoes 132 = .ok (.aload_n 0, 1) := by decide +kernel
theorem dX8_hourGoes_133 : decode cX8_hourGoes 133 = .ok (.iconst 0, 1) := by decide +kernel
theorem dX8_hourGoes_134 : decode cX8_hourGoes 134 = .ok (.putfield 167, 3) := by decide +kernel
theorem dX8_hourGoes_137 : decode cX8_hourGoes 137 = .ok (.iconst 0, 1) := by decide +kernel
theorem dX8_hourGoes_138 : decode cX8_hourGoes 138 = .ok (.istore_n 1, 1) := by decide +kernel
theorem dX8_hourGoes_139 : decode cX8_hourGoes 139 = .ok (.iload_n 1, 1) := by decide +kernel
theorem dX8_hourGoes_140 : decode cX8_hourGoes 140 = .ok (.aload_n 0, 1) := by decide +kernel
theorem dX8_hourGoes_141 : decode cX8_hourGoes 141 = .ok (.getfield 7, 3) := by decide +kernel
theorem dX8_hourGoes_144 : decode cX8_hourGoes 144 = .ok (.iconst 0, 1) := by decide +kernel
theorem dX8_hourGoes_145 : decode cX8_hourGoes 145 = .ok (.iaload, 1) := by decide +kernel
theorem dX8_hourGoes_146 : decode cX8_hourGoes 146 = .ok (.if_icmp .ge 84, 3) := by decide +kernel
theorem dX8_hourGoes_149 : decode cX8_hourGoes 149 = .ok (.bipush 9, 2) := by decide +kernel
theorem dX8_hourGoes_151 : decode cX8_hourGoes 151 = .ok (.aload_n 0, 1) := by decide +kernel
theorem dX8_hourGoes_152 : decode cX8_hourGoes 152 = .ok (.iload_n 1, 1) := by decide +kernel
theorem dX8_hourGoes_153 : decode cX8_hourGoes 153 = .ok (.iconst 2, 1) := by decide +kernel
theorem dX8_hourGoes_154 : decode cX8_hourGoes 154 = .ok (.invokevirtual 154, 3) := by decide +kernel
theorem dX8_hourGoes_157 : decode cX8_hourGoes 157 = .ok (.iadd, 1) := by decide +kernel
theorem dX8_hourGoes_158 : decode cX8_hourGoes 158 = .ok (.istore_n 2, 1) := by decide +kernel
theorem dX8_hourGoes_159 : decode cX8_hourGoes 159 = .ok (.aload_n 0, 1) := by decide +kernel
theorem dX8_hourGoes_160 : decode cX8_hourGoes 160 = .ok (.getfield 7, 3) := by decide +kernel
theorem dX8_hourGoes_163 : decode cX8_hourGoes 163 = .ok (.iload_n 2, 1) := by decide +kernel
theorem dX8_hourGoes_164 : decode cX8_hourGoes 164 = .ok (.dup2, 1) := by decide +kernel
theorem dX8_hourGoes_165 : decode cX8_hourGoes 165 = .ok (.iaload, 1) := by decide +kernel
theorem dX8_hourGoes_166 : decode cX8_hourGoes 166 = .ok (.aload_n 0, 1) := by decide +kernel
theorem dX8_hourGoes_167 : decode cX8_hourGoes 167 = .ok (.iload_n 1, 1) := by decide +kernel
theorem dX8_hourGoes_168 : decode cX8_hourGoes 168 = .ok (.invokevirtual 170, 3) := by decide +kernel
theorem dX8_hourGoes_171 : decode cX8_hourGoes 171 = .ok (.iconst 0, 1) := by decide +kernel
theorem dX8_hourGoes_172 : decode cX8_hourGoes 172 = .ok (.aload_n 0, 1) := by decide +kernel
theorem dX8_hourGoes_173 : decode cX8_hourGoes 173 = .ok (.getfield 7, 3) := by decide +kernel
theorem dX8_hourGoes_176 : decode cX8_hourGoes 176 = .ok (.iload_n 2, 1) := by decide +kernel
theorem dX8_hourGoes_177 : decode cX8_hourGoes 177 = .ok (.iaload, 1) := by decide +kernel
theorem dX8_hourGoes_178 : decode cX8_hourGoes 178 = .ok (.invokestatic 147, 3) := by decide +kernel
theorem dX8_hourGoes_181 : decode cX8_hourGoes 181 = .ok (.isub, 1) := by decide +kernel
theorem dX8_hourGoes_182 : decode cX8_hourGoes 182 = .ok (.iastore, 1) := by decide +kernel
theorem dX8_hourGoes_183 : decode cX8_hourGoes 183 = .ok (.aload_n 0, 1) := by decide +kernel
theorem dX8_hourGoes_184 : decode cX8_hourGoes 184 = .ok (.iload_n 1, 1) := by decide +kernel
theorem dX8_hourGoes_185 : decode cX8_hourGoes 185 = .ok (.invokevirtual 173, 3) := by decide +kernel
theorem dX8_hourGoes_188 : decode cX8_hourGoes 188 = .ok (.ifCond .eq 36, 3) := by decide +kernel
theorem dX8_hourGoes_191 : decode cX8_hourGoes 191 = .ok (.aload_n 0, 1) := by decide +kernel
theorem dX8_hourGoes_192 : decode cX8_hourGoes 192 = .ok (.dup, 1) := by decide +kernel
theorem dX8_hourGoes_193 : decode cX8_hourGoes 193 = .ok (.getfield 167, 3) := by decide +kernel
theorem dX8_hourGoes_196 : decode cX8_hourGoes 196 = .ok (.iconst 1, 1) := by decide +kernel
theorem dX8_hourGoes_197 : decode cX8_hourGoes 197 = .ok (.iload_n 1, 1) := by decide +kernel
theorem dX8_hourGoes_198 : decode cX8_hourGoes 198 = .ok (.ishl, 1) := by decide +kernel
theorem dX8_hourGoes_199 : decode cX8_hourGoes 199 = .ok (.ior, 1) := by decide +kernel
theorem dX8_hourGoes_200 : decode cX8_hourGoes 200 = .ok (.putfield 167, 3) := by decide +kernel
theorem dX8_hourGoes_203 : decode cX8_hourGoes 203 = .ok (.aload_n 0, 1) := by decide +kernel
theorem dX8_hourGoes_204 : decode cX8_hourGoes 204 = .ok (.iload_n 1, 1) := by decide +kernel
theorem dX8_hourGoes_205 : decode cX8_hourGoes 205 = .ok (.iconst 3, 1) := by decide +kernel
theorem dX8_hourGoes_206 : decode cX8_hourGoes 206 = .ok (.aload_n 0, 1) := by decide +kernel
theorem dX8_hourGoes_207 : decode cX8_hourGoes 207 = .ok (.iload_n 1, 1) := by decide +kernel
theorem dX8_hourGoes_208 : decode cX8_hourGoes 208 = .ok (.iconst 3, 1) := by decide +kernel
theorem dX8_hourGoes_209 : decode cX8_hourGoes 209 = .ok (.invokevirtual 154, 3) := by decide +kernel
theorem dX8_hourGoes_212 : decode cX8_hourGoes 212 = .ok (.iconst 1, 1) := by decide +kernel
theorem dX8_hourGoes_213 : decode cX8_hourGoes 213 = .ok (.iadd, 1) := by decide +kernel
theorem dX8_hourGoes_214 : decode cX8_hourGoes 214 = .ok (.iconst 0, 1) := by decide +kernel
theorem dX8_hourGoes_215 : decode cX8_hourGoes 215 = .ok (.sipush 9999, 3) := by decide +kernel
theorem dX8_hourGoes_218 : decode cX8_hourGoes 218 = .ok (.invokestatic 147, 3) := by decide +kernel
theorem dX8_hourGoes_221 : decode cX8_hourGoes 221 = .ok (.invokevirtual 176, 3) := by decide +kernel
theorem dX8_hourGoes_224 : decode cX8_hourGoes 224 = .ok (.iinc 1 1, 3) := by decide +kernel
theorem dX8_hourGoes_227 : decode cX8_hourGoes 227 = .ok (.goto (-88), 3) := by decide +kernel
theorem dX8_hourGoes_230 : decode cX8_hourGoes 230 = .ok (.bipush 12, 2) := by decide +kernel
theorem dX8_hourGoes_232 : decode cX8_hourGoes 232 = .ok (.istore_n 1, 1) := by decide +kernel
theorem dX8_hourGoes_233 : decode cX8_hourGoes 233 = .ok (.iload_n 1, 1) := by decide +kernel
theorem dX8_hourGoes_234 : decode cX8_hourGoes 234 = .ok (.bipush 16, 2) := by decide +kernel
theorem dX8_hourGoes_236 : decode cX8_hourGoes 236 = .ok (.if_icmp .ge 32, 3) := by decide +kernel
theorem dX8_hourGoes_239 : decode cX8_hourGoes 239 = .ok (.aload_n 0, 1) := by decide +kernel
theorem dX8_hourGoes_240 : decode cX8_hourGoes 240 = .ok (.getfield 7, 3) := by decide +kernel
theorem dX8_hourGoes_243 : decode cX8_hourGoes 243 = .ok (.bipush 9, 2) := by decide +kernel
theorem dX8_hourGoes_245 : decode cX8_hourGoes 245 = .ok (.iload_n 1, 1) := by decide +kernel
theorem dX8_hourGoes_246 : decode cX8_hourGoes 246 = .ok (.iadd, 1) := by decide +kernel
theorem dX8_hourGoes_247 : decode cX8_hourGoes 247 = .ok (.dup2, 1) := by decide +kernel
theorem dX8_hourGoes_248 : decode cX8_hourGoes 248 = .ok (.iaload, 1) := by decide +kernel
theorem dX8_hourGoes_249 : decode cX8_hourGoes 249 = .ok (.aload_n 0, 1) := by decide +kernel
theorem dX8_hourGoes_250 : decode cX8_hourGoes 250 = .ok (.getfield 7, 3) := by decide +kernel
theorem dX8_hourGoes_253 : decode cX8_hourGoes 253 = .ok (.bipush 9, 2) := by decide +kernel
theorem dX8_hourGoes_255 : decode cX8_hourGoes 255 = .ok (.iload_n 1, 1) := by decide +kernel
theorem dX8_hourGoes_256 : decode cX8_hourGoes 256 = .ok (.iadd, 1) := by decide +kernel
theorem dX8_hourGoes_257 : decode cX8_hourGoes 257 = .ok (.iaload, 1) := by decide +kernel
theorem dX8_hourGoes_258 : decode cX8_hourGoes 258 = .ok (.iconst 4, 1) := by decide +kernel
theorem dX8_hourGoes_259 : decode cX8_hourGoes 259 = .ok (.idiv, 1) := by decide +kernel
theorem dX8_hourGoes_260 : decode cX8_hourGoes 260 = .ok (.isub, 1) := by decide +kernel
theorem dX8_hourGoes_261 : decode cX8_hourGoes 261 = .ok (.iastore, 1) := by decide +kernel
theorem dX8_hourGoes_262 : decode cX8_hourGoes 262 = .ok (.iinc 1 1, 3) := by decide +kernel
theorem dX8_hourGoes_265 : decode cX8_hourGoes 265 = .ok (.goto (-32), 3) := by decide +kernel
theorem dX8_hourGoes_268 : decode cX8_hourGoes 268 = .ok (.aload_n 0, 1) := by decide +kernel
theorem dX8_hourGoes_269 : decode cX8_hourGoes 269 = .ok (.getfield 7, 3) := by decide +kernel
theorem dX8_hourGoes_272 : decode cX8_hourGoes 272 = .ok (.iconst 1, 1) := by decide +kernel
theorem dX8_hourGoes_273 : decode cX8_hourGoes 273 = .ok (.dup2, 1) := by decide +kernel
theorem dX8_hourGoes_274 : decode cX8_hourGoes 274 = .ok (.iaload, 1) := by decide +kernel
theorem dX8_hourGoes_275 : decode cX8_hourGoes 275 = .ok (.iconst 1, 1) := by decide +kernel
theorem dX8_hourGoes_276 : decode cX8_hourGoes 276 = .ok (.iadd, 1) := by decide +kernel
theorem dX8_hourGoes_277 : decode cX8_hourGoes 277 = .ok (.iastore, 1) := by decide +kernel
theorem dX8_hourGoes_278 : decode cX8_hourGoes 278 = .ok (.return_, 1) := by decide +kernel
theorem dX8_hoursGo_0 : decode cX8_hoursGo 0 = .ok (.iconst 0, 1) := by decide +kernel
theorem dX8_hoursGo_1 : decode cX8_hoursGo 1 = .ok (.istore_n 2, 1) := by decide +kernel
theorem dX8_hoursGo_2 : decode cX8_hoursGo 2 = .ok (.iload_n 2, 1) := by decide +kernel
theorem dX8_hoursGo_3 : decode cX8_hoursGo 3 = .ok (.iload_n 1, 1) := by decide +kernel
theorem dX8_hoursGo_4 : decode cX8_hoursGo 4 = .ok (.if_icmp .ge 13, 3) := by decide +kernel
theorem dX8_hoursGo_7 : decode cX8_hoursGo 7 = .ok (.aload_n 0, 1) := by decide +kernel
theorem dX8_hoursGo_8 : decode cX8_hoursGo 8 = .ok (.invokevirtual 179, 3) := by decide +kernel
theorem dX8_hoursGo_11 : decode cX8_hoursGo 11 = .ok (.iinc 2 1, 3) := by decide +kernel
theorem dX8_hoursGo_14 : decode cX8_hoursGo 14 = .ok (.goto (-12), 3) := by decide +kernel
theorem dX8_hoursGo_17 : decode cX8_hoursGo 17 = .ok (.return_, 1) := by decide +kernel
theorem dX8_allHeat_0 : decode cX8_allHeat 0 = .ok (.iconst 0, 1) := by decide +kernel
theorem dX8_allHeat_1 : decode cX8_allHeat 1 = .ok (.istore_n 1, 1) := by decide +kernel
theorem dX8_allHeat_2 : decode cX8_allHeat 2 = .ok (.iconst 0, 1) := by decide +kernel
theorem dX8_allHeat_3 : decode cX8_allHeat 3 = .ok (.istore_n 2, 1) := by decide +kernel
theorem dX8_allHeat_4 : decode cX8_allHeat 4 = .ok (.iload_n 2, 1) := by decide +kernel
theorem dX8_allHeat_5 : decode cX8_allHeat 5 = .ok (.bipush 16, 2) := by decide +kernel
theorem dX8_allHeat_7 : decode cX8_allHeat 7 = .ok (.if_icmp .ge 21, 3) := by decide +kernel
theorem dX8_allHeat_10 : decode cX8_allHeat 10 = .ok (.iload_n 1, 1) := by decide +kernel
theorem dX8_allHeat_11 : decode cX8_allHeat 11 = .ok (.aload_n 0, 1) := by decide +kernel
theorem dX8_allHeat_12 : decode cX8_allHeat 12 = .ok (.getfield 7, 3) := by decide +kernel
theorem dX8_allHeat_15 : decode cX8_allHeat 15 = .ok (.bipush 9, 2) := by decide +kernel
theorem dX8_allHeat_17 : decode cX8_allHeat 17 = .ok (.iload_n 2, 1) := by decide +kernel
theorem dX8_allHeat_18 : decode cX8_allHeat 18 = .ok (.iadd, 1) := by decide +kernel
theorem dX8_allHeat_19 : decode cX8_allHeat 19 = .ok (.iaload, 1) := by decide +kernel
theorem dX8_allHeat_20 : decode cX8_allHeat 20 = .ok (.iadd, 1) := by decide +kernel
theorem dX8_allHeat_21 : decode cX8_allHeat 21 = .ok (.istore_n 1, 1) := by decide +kernel
theorem dX8_allHeat_22 : decode cX8_allHeat 22 = .ok (.iinc 2 1, 3) := by decide +kernel
theorem dX8_allHeat_25 : decode cX8_allHeat 25 = .ok (.goto (-21), 3) := by decide +kernel
theorem dX8_allHeat_28 : decode cX8_allHeat 28 = .ok (.iload_n 1, 1) := by decide +kernel
theorem dX8_allHeat_29 : decode cX8_allHeat 29 = .ok (.ireturn, 1) := by decide +kernel
theorem dX8_allWarm_0 : decode cX8_allWarm 0 = .ok (.iconst 0, 1) := by decide +kernel
theorem dX8_allWarm_1 : decode cX8_allWarm 1 = .ok (.istore_n 1, 1) := by decide +kernel
theorem dX8_allWarm_2 : decode cX8_allWarm 2 = .ok (.iconst 0, 1) := by decide +kernel
theorem dX8_allWarm_3 : decode cX8_allWarm 3 = .ok (.istore_n 2, 1) := by decide +kernel
theorem dX8_allWarm_4 : decode cX8_allWarm 4 = .ok (.iload_n 2, 1) := by decide +kernel
theorem dX8_allWarm_5 : decode cX8_allWarm 5 = .ok (.aload_n 0, 1) := by decide +kernel
theorem dX8_allWarm_6 : decode cX8_allWarm 6 = .ok (.getfield 7, 3) := by decide +kernel
theorem dX8_allWarm_9 : decode cX8_allWarm 9 = .ok (.iconst 0, 1) := by decide +kernel
theorem dX8_allWarm_10 : decode cX8_allWarm 10 = .ok (.iaload, 1) := by decide +kernel
theorem dX8_allWarm_11 : decode cX8_allWarm 11 = .ok (.if_icmp .ge 18, 3) := by decide +kernel
theorem dX8_allWarm_14 : decode cX8_allWarm 14 = .ok (.iload_n 1, 1) := by decide +kernel
theorem dX8_allWarm_15 : decode cX8_allWarm 15 = .ok (.aload_n 0, 1) := by decide +kernel
theorem dX8_allWarm_16 : decode cX8_allWarm 16 = .ok (.iload_n 2, 1) := by decide +kernel
theorem dX8_allWarm_17 : decode cX8_allWarm 17 = .ok (.iconst 3, 1) := by decide +kernel
theorem dX8_allWarm_18 : decode cX8_allWarm 18 = .ok (.invokevirtual 154, 3) := by decide +kernel
theorem dX8_allWarm_21 : decode cX8_allWarm 21 = .ok (.iadd, 1) := by decide +kernel
theorem dX8_allWarm_22 : decode cX8_allWarm 22 = .ok (.istore_n 1, 1) := by decide +kernel
theorem dX8_allWarm_23 : decode cX8_allWarm 23 = .ok (.iinc 2 1, 3) := by decide +kernel
theorem dX8_allWarm_26 : decode cX8_allWarm 26 = .ok (.goto (-22), 3) := by decide +kernel
theorem dX8_allWarm_29 : decode cX8_allWarm 29 = .ok (.iload_n 1, 1) := by decide +kernel
theorem dX8_allWarm_30 : decode cX8_allWarm 30 = .ok (.ireturn, 1) := by decide +kernel
theorem dX8_becomes_0 : decode cX8_becomes 0 = .ok (.aload_n 0, 1) := by decide +kernel
theorem dX8_becomes_1 : decode cX8_becomes 1 = .ok (.getfield 7, 3) := by decide +kernel
theorem dX8_becomes_4 : decode cX8_becomes 4 = .ok (.iload_n 1, 1) := by decide +kernel
theorem dX8_becomes_5 : decode cX8_becomes 5 = .ok (.iaload, 1) := by decide +kernel
theorem dX8_becomes_6 : decode cX8_becomes 6 = .ok (.istore_n 3, 1) := by decide +kernel
theorem dX8_becomes_7 : decode cX8_becomes 7 = .ok (.aload_n 0, 1) := by decide +kernel
theorem dX8_becomes_8 : decode cX8_becomes 8 = .ok (.getfield 7, 3) := by decide +kernel
theorem dX8_becomes_11 : decode cX8_becomes 11 = .ok (.iload_n 1, 1) := by decide +kernel
theorem dX8_becomes_12 : decode cX8_becomes 12 = .ok (.iload_n 2, 1) := by decide +kernel
theorem dX8_becomes_13 : decode cX8_becomes 13 = .ok (.iastore, 1) := by decide +kernel
theorem dX8_becomes_14 : decode cX8_becomes 14 = .ok (.iload_n 3, 1) := by decide +kernel
theorem dX8_becomes_15 : decode cX8_becomes 15 = .ok (.ireturn, 1) := by decide +kernel
theorem dX8_heat_0 : decode cX8_heat 0 = .ok (.iload_n 1, 1) := by decide +kernel
theorem dX8_heat_1 : decode cX8_heat 1 = .ok (.invokestatic 182, 3) := by decide +kernel
theorem dX8_heat_4 : decode cX8_heat 4 = .ok (.ifCond .eq 27, 3) := by decide +kernel
theorem dX8_heat_7 : decode cX8_heat 7 = .ok (.iload_n 2, 1) := by decide +kernel
theorem dX8_heat_8 : decode cX8_heat 8 = .ok (.i2l, 1) := by decide +kernel
theorem dX8_heat_9 : decode cX8_heat 9 = .ok (.lconst 0, 1) := by decide +kernel
theorem dX8_heat_10 : decode cX8_heat 10 = .ok (.ldc2_w 185, 3) := by decide +kernel
theorem dX8_heat_13 : decode cX8_heat 13 = .ok (.invokestatic 53, 3) := by decide +kernel
theorem dX8_heat_16 : decode cX8_heat 16 = .ok (.ifCond .eq 15, 3) := by decide +kernel
theorem dX8_heat_19 : decode cX8_heat 19 = .ok (.aload_n 0, 1) := by decide +kernel
theorem dX8_heat_20 : decode cX8_heat 20 = .ok (.bipush 9, 2) := by decide +kernel
theorem dX8_heat_22 : decode cX8_heat 22 = .ok (.iload_n 1, 1) := by decide +kernel
theorem dX8_heat_23 : decode cX8_heat 23 = .ok (.iadd, 1) := by decide +kernel
theorem dX8_heat_24 : decode cX8_heat 24 = .ok (.iload_n 2, 1) := by decide +kernel
theorem dX8_heat_25 : decode cX8_heat 25 = .ok (.invokevirtual 187, 3) := by decide +kernel
theorem dX8_heat_28 : decode cX8_heat 28 = .ok (.goto 8, 3) := by decide +kernel
theorem dX8_heat_31 : decode cX8_heat 31 = .ok (.aload_n 0, 1) := by decide +kernel
theorem dX8_heat_32 : decode cX8_heat 32 = .ok (.iconst 1, 1) := by decide +kernel
theorem dX8_heat_33 : decode cX8_heat 33 = .ok (.invokevirtual 134, 3) := by decide +kernel
theorem dX8_heat_36 : decode cX8_heat 36 = .ok (.ireturn, 1) := by decide +kernel
theorem dX8_ofCell_0 : decode cX8_ofCell 0 = .ok (.iload_n 1, 1) := by decide +kernel
theorem dX8_ofCell_1 : decode cX8_ofCell 1 = .ok (.invokestatic 182, 3) := by decide +kernel
theorem dX8_ofCell_4 : decode cX8_ofCell 4 = .ok (.ifCond .eq 15, 3) := by decide +kernel
theorem dX8_ofCell_7 : decode cX8_ofCell 7 = .ok (.iload_n 2, 1) := by decide +kernel
theorem dX8_ofCell_8 : decode cX8_ofCell 8 = .ok (.i2l, 1) := by decide +kernel
theorem dX8_ofCell_9 : decode cX8_ofCell 9 = .ok (.lconst 0, 1) := by decide +kernel
theorem dX8_ofCell_10 : decode cX8_ofCell 10 = .ok (.ldc2_w 190, 3) := by decide +kernel
theorem dX8_ofCell_13 : decode cX8_ofCell 13 = .ok (.invokestatic 53, 3) := by decide +kernel
theorem dX8_ofCell_16 : decode cX8_ofCell 16 = .ok (.ifCond .ne 9, 3) := by decide +kernel
theorem dX8_ofCell_19 : decode cX8_ofCell 19 = .ok (.aload_n 0, 1) := by decide +kernel
theorem dX8_ofCell_20 : decode cX8_ofCell 20 = .ok (.iconst 1, 1) := by decide +kernel
theorem dX8_ofCell_21 : decode cX8_ofCell 21 = .ok (.invokevirtual 134, 3) := by decide +kernel
theorem dX8_ofCell_24 : decode cX8_ofCell 24 = .ok (.ireturn, 1) := by decide +kernel
theorem dX8_ofCell_25 : decode cX8_ofCell 25 = .ok (.iload_n 2, 1) := by decide +kernel
theorem dX8_ofCell_26 : decode cX8_ofCell 26 = .ok (.iconst 2, 1) := by decide +kernel
theorem dX8_ofCell_27 : decode cX8_ofCell 27 = .ok (.if_icmp .ge 23, 3) := by decide +kernel
theorem dX8_ofCell_30 : decode cX8_ofCell 30 = .ok (.iload_n 2, 1) := by decide +kernel
theorem dX8_ofCell_31 : decode cX8_ofCell 31 = .ok (.ifCond .ne 15, 3) := by decide +kernel
theorem dX8_ofCell_34 : decode cX8_ofCell 34 = .ok (.aload_n 0, 1) := by decide +kernel
theorem dX8_ofCell_35 : decode cX8_ofCell 35 = .ok (.getfield 7, 3) := by decide +kernel
theorem dX8_ofCell_38 : decode cX8_ofCell 38 = .ok (.bipush 9, 2) := by decide +kernel
theorem dX8_ofCell_40 : decode cX8_ofCell 40 = .ok (.iload_n 1, 1) := by decide +kernel
theorem dX8_ofCell_41 : decode cX8_ofCell 41 = .ok (.iadd, 1) := by decide +kernel
theorem dX8_ofCell_42 : decode cX8_ofCell 42 = .ok (.iaload, 1) := by decide +kernel
theorem dX8_ofCell_43 : decode cX8_ofCell 43 = .ok (.goto 6, 3) := by decide +kernel
theorem dX8_ofCell_46 : decode cX8_ofCell 46 = .ok (.iload_n 1, 1) := by decide +kernel
theorem dX8_ofCell_47 : decode cX8_ofCell 47 = .ok (.iconst 4, 1) := by decide +kernel
theorem dX8_ofCell_48 : decode cX8_ofCell 48 = .ok (.idiv, 1) := by decide +kernel
theorem dX8_ofCell_49 : decode cX8_ofCell 49 = .ok (.ireturn, 1) := by decide +kernel
theorem dX8_ofCell_50 : decode cX8_ofCell 50 = .ok (.iconst 0, 1) := by decide +kernel
theorem dX8_ofCell_51 : decode cX8_ofCell 51 = .ok (.istore_n 3, 1) := by decide +kernel
theorem dX8_ofCell_52 : decode cX8_ofCell 52 = .ok (.iconst 0, 1) := by decide +kernel
theorem dX8_ofCell_53 : decode cX8_ofCell 53 = .ok (.istore 4, 2) := by decide +kernel
theorem dX8_ofCell_55 : decode cX8_ofCell 55 = .ok (.iload 4, 2) := by decide +kernel
theorem dX8_ofCell_57 : decode cX8_ofCell 57 = .ok (.aload_n 0, 1) := by decide +kernel
theorem dX8_ofCell_58 : decode cX8_ofCell 58 = .ok (.getfield 7, 3) := by decide +kernel
theorem dX8_ofCell_61 : decode cX8_ofCell 61 = .ok (.iconst 0, 1) := by decide +kernel
theorem dX8_ofCell_62 : decode cX8_ofCell 62 = .ok (.iaload, 1) := by decide +kernel
theorem dX8_ofCell_63 : decode cX8_ofCell 63 = .ok (.if_icmp .ge 31, 3) := by decide +kernel
theorem dX8_ofCell_66 : decode cX8_ofCell 66 = .ok (.iload_n 3, 1) := by decide +kernel
theorem dX8_ofCell_67 : decode cX8_ofCell 67 = .ok (.aload_n 0, 1) := by decide +kernel
theorem dX8_ofCell_68 : decode cX8_ofCell 68 = .ok (.iload 4, 2) := by decide +kernel
theorem dX8_ofCell_70 : decode cX8_ofCell 70 = .ok (.iconst 2, 1) := by decide +kernel
theorem dX8_ofCell_71 : decode cX8_ofCell 71 = .ok (.invokevirtual 154, 3) := by decide +kernel
theorem dX8_ofCell_74 : decode cX8_ofCell 74 = .ok (.iload_n 1, 1) := by decide +kernel
theorem dX8_ofCell_75 : decode cX8_ofCell 75 = .ok (.if_icmp .ne 10, 3) := by decide +kernel
theorem dX8_ofCell_78 : decode cX8_ofCell 78 = .ok (.iconst 1, 1) := by decide +kernel
theorem dX8_ofCell_79 : decode cX8_ofCell 79 = .ok (.iload 4, 2) := by decide +kernel
theorem dX8_ofCell_81 : decode cX8_ofCell 81 = .ok (.ishl, 1) := by decide +kernel
theorem dX8_ofCell_82 : decode cX8_ofCell 82 = .ok (.goto 4, 3) := by decide +kernel
theorem dX8_ofCell_85 : decode cX8_ofCell 85 = .ok (.iconst 0, 1) := by decide +kernel
theorem dX8_ofCell_86 : decode cX8_ofCell 86 = .ok (.ior, 1) := by decide +kernel
theorem dX8_ofCell_87 : decode cX8_ofCell 87 = .ok (.istore_n 3, 1) := by decide +kernel
theorem dX8_ofCell_88 : decode cX8_ofCell 88 = .ok (.iinc 4 1, 3) := by decide +kernel
theorem dX8_ofCell_91 : decode cX8_ofCell 91 = .ok (.goto (-36), 3) := by decide +kernel
theorem dX8_ofCell_94 : decode cX8_ofCell 94 = .ok (.iload_n 3, 1) := by decide +kernel
theorem dX8_ofCell_95 : decode cX8_ofCell 95 = .ok (.ireturn, 1) := by decide +kernel
theorem dX8_door_0 : decode cX8_door 0 = .ok (.iload_n 1, 1) := by decide +kernel
theorem dX8_door_1 : decode cX8_door 1 = .ok (.invokestatic 192, 3) := by decide +kernel
theorem dX8_door_4 : decode cX8_door 4 = .ok (.ifCond .eq 13, 3) := by decide +kernel
theorem dX8_door_7 : decode cX8_door 7 = .ok (.iload_n 2, 1) := by decide +kernel
theorem dX8_door_8 : decode cX8_door 8 = .ok (.i2l, 1) := by decide +kernel
theorem dX8_door_9 : decode cX8_door 9 = .ok (.lconst 0, 1) := by decide +kernel
theorem dX8_door_10 : decode cX8_door 10 = .ok (.lconst 1, 1) := by decide +kernel
theorem dX8_door_11 : decode cX8_door 11 = .ok (.invokestatic 53, 3) := by decide +kernel
theorem dX8_door_14 : decode cX8_door 14 = .ok (.ifCond .ne 9, 3) := by decide +kernel
theorem dX8_door_17 : decode cX8_door 17 = .ok (.aload_n 0, 1) := by decide +kernel
theorem dX8_door_18 : decode cX8_door 18 = .ok (.iconst 1, 1) := by decide +kernel
theorem dX8_door_19 : decode cX8_door 19 = .ok (.invokevirtual 134, 3) := by decide +kernel
theorem dX8_door_22 : decode cX8_door 22 = .ok (.ireturn, 1) := by decide +kernel
theorem dX8_door_23 : decode cX8_door 23 = .ok (.aload_n 0, 1) := by decide +kernel
theorem dX8_door_24 : decode cX8_door 24 = .ok (.getfield 7, 3) := by decide +kernel
theorem dX8_door_27 : decode cX8_door 27 = .ok (.bipush 8, 2) := by decide +kernel
theorem dX8_door_29 : decode cX8_door 29 = .ok (.iaload, 1) := by decide +kernel
theorem dX8_door_30 : decode cX8_door 30 = .ok (.iload_n 1, 1) := by decide +kernel
theorem dX8_door_31 : decode cX8_door 31 = .ok (.ishr, 1) := by decide +kernel
theorem dX8_door_32 : decode cX8_door 32 = .ok (.iconst 1, 1) := by decide +kernel
theorem dX8_door_33 : decode cX8_door 33 = .ok (.iand, 1) := by decide +kernel
theorem dX8_door_34 : decode cX8_door 34 = .ok (.istore_n 3, 1) := by decide +kernel
theorem dX8_door_35 : decode cX8_door 35 = .ok (.aload_n 0, 1) := by decide +kernel
theorem dX8_door_36 : decode cX8_door 36 = .ok (.getfield 7, 3) := by decide +kernel
theorem dX8_door_39 : decode cX8_door 39 = .ok (.bipush 8, 2) := by decide +kernel
theorem dX8_door_41 : decode cX8_door 41 = .ok (.aload_n 0, 1) := by decide +kernel
theorem dX8_door_42 : decode cX8_door 42 = .ok (.getfield 7, 3) := by decide +kernel
theorem dX8_door_45 : decode cX8_door 45 = .ok (.bipush 8, 2) := by decide +kernel
theorem dX8_door_47 : decode cX8_door 47 = .ok (.iaload, 1) := by decide +kernel
theorem dX8_door_48 : decode cX8_door 48 = .ok (.iconst 1, 1) := by decide +kernel
theorem dX8_door_49 : decode cX8_door 49 = .ok (.iload_n 1, 1) := by decide +kernel
theorem dX8_door_50 : decode cX8_door 50 = .ok (.ishl, 1) := by decide +kernel
theorem dX8_door_51 : decode cX8_door 51 = .ok (.iconst (-1), 1) := by decide +kernel
theorem dX8_door_52 : decode cX8_door 52 = .ok (.ixor, 1) := by decide +kernel
theorem dX8_door_53 : decode cX8_door 53 = .ok (.iand, 1) := by decide +kernel
theorem dX8_door_54 : decode cX8_door 54 = .ok (.iload_n 2, 1) := by decide +kernel
theorem dX8_door_55 : decode cX8_door 55 = .ok (.iload_n 1, 1) := by decide +kernel
theorem dX8_door_56 : decode cX8_door 56 = .ok (.ishl, 1) := by decide +kernel
theorem dX8_door_57 : decode cX8_door 57 = .ok (.ior, 1) := by decide +kernel
theorem dX8_door_58 : decode cX8_door 58 = .ok (.iastore, 1) := by decide +kernel
theorem dX8_door_59 : decode cX8_door 59 = .ok (.iload_n 3, 1) := by decide +kernel
theorem dX8_door_60 : decode cX8_door 60 = .ok (.ireturn, 1) := by decide +kernel
theorem dX8_doorsNow_0 : decode cX8_doorsNow 0 = .ok (.aload_n 0, 1) := by decide +kernel
theorem dX8_doorsNow_1 : decode cX8_doorsNow 1 = .ok (.getfield 7, 3) := by decide +kernel
theorem dX8_doorsNow_4 : decode cX8_doorsNow 4 = .ok (.bipush 8, 2) := by decide +kernel
theorem dX8_doorsNow_6 : decode cX8_doorsNow 6 = .ok (.iaload, 1) := by decide +kernel
theorem dX8_doorsNow_7 : decode cX8_doorsNow 7 = .ok (.ireturn, 1) := by decide +kernel
theorem dX8_fire_0 : decode cX8_fire 0 = .ok (.iload_n 1, 1) := by decide +kernel
theorem dX8_fire_1 : decode cX8_fire 1 = .ok (.i2l, 1) := by decide +kernel
theorem dX8_fire_2 : decode cX8_fire 2 = .ok (.lconst 0, 1) := by decide +kernel
theorem dX8_fire_3 : decode cX8_fire 3 = .ok (.ldc2_w 190, 3) := by decide +kernel
theorem dX8_fire_6 : decode cX8_fire 6 = .ok (.invokestatic 53, 3) := by decide +kernel
theorem dX8_fire_9 : decode cX8_fire 9 = .ok (.ifCond .eq 47, 3) := by decide +kernel
theorem dX8_fire_12 : decode cX8_fire 12 = .ok (.iload_n 2, 1) := by decide +kernel
theorem dX8_fire_13 : decode cX8_fire 13 = .ok (.i2l, 1) := by decide +kernel
theorem dX8_fire_14 : decode cX8_fire 14 = .ok (.lconst 0, 1) := by decide +kernel
theorem dX8_fire_15 : decode cX8_fire 15 = .ok (.iload_n 1, 1) := by decide +kernel
theorem dX8_fire_16 : decode cX8_fire 16 = .ok (.ifCond .ne 9, 3) := by decide +kernel
theorem dX8_fire_19 : decode cX8_fire 19 = .ok (.ldc2_w 195, 3) := by decide +kernel
theorem dX8_fire_22 : decode cX8_fire 22 = .ok (.goto 17, 3) := by decide +kernel
theorem dX8_fire_25 : decode cX8_fire 25 = .ok (.iload_n 1, 1) := by decide +kernel
theorem dX8_fire_26 : decode cX8_fire 26 = .ok (.iconst 1, 1) := by decide +kernel
theorem dX8_fire_27 : decode cX8_fire 27 = .ok (.if_icmp .ne 9, 3) := by decide +kernel
theorem dX8_fire_30 : decode cX8_fire 30 = .ok (.ldc2_w 197, 3) := by decide +kernel
theorem dX8_fire_33 : decode cX8_fire 33 = .ok (.goto 6, 3) := by decide +kernel
theorem dX8_fire_36 : decode cX8_fire 36 = .ok (.ldc2_w 199, 3) := by decide +kernel
theorem dX8_fire_39 : decode cX8_fire 39 = .ok (.invokestatic 53, 3) := by decide +kernel
theorem dX8_fire_42 : decode cX8_fire 42 = .ok (.ifCond .eq 14, 3) := by decide +kernel
theorem dX8_fire_45 : decode cX8_fire 45 = .ok (.aload_n 0, 1) := by decide +kernel
theorem dX8_fire_46 : decode cX8_fire 46 = .ok (.iconst 2, 1) := by decide +kernel
theorem dX8_fire_47 : decode cX8_fire 47 = .ok (.iload_n 1, 1) := by decide +kernel
theorem dX8_fire_48 : decode cX8_fire 48 = .ok (.iadd, 1) := by decide +kernel
theorem dX8_fire_49 : decode cX8_fire 49 = .ok (.iload_n 2, 1) := by decide +kernel
theorem dX8_fire_50 : decode cX8_fire 50 = .ok (.invokevirtual 187, 3) := by decide +kernel
theorem dX8_fire_53 : decode cX8_fire 53 = .ok (.goto 8, 3) := by decide +kernel
theorem dX8_fire_56 : decode cX8_fire 56 = .ok (.aload_n 0, 1) := by decide +kernel
theorem dX8_fire_57 : decode cX8_fire 57 = .ok (.iconst 1, 1) := by decide +kernel
theorem dX8_fire_58 : decode cX8_fire 58 = .ok (.invokevirtual 134, 3) := by decide +kernel
theorem dX8_fire_61 : decode cX8_fire 61 = .ok (.ireturn, 1) := by decide +kernel
theorem dX8_house_0 : decode cX8_house 0 = .ok (.iload_n 1, 1) := by decide +kernel
theorem dX8_house_1 : decode cX8_house 1 = .ok (.i2l, 1) := by decide +kernel
theorem dX8_house_2 : decode cX8_house 2 = .ok (.lconst 0, 1) := by decide +kernel
theorem dX8_house_3 : decode cX8_house 3 = .ok (.ldc2_w 201, 3) := by decide +kernel
theorem dX8_house_6 : decode cX8_house 6 = .ok (.invokestatic 53, 3) := by decide +kernel
theorem dX8_house_9 : decode cX8_house 9 = .ok (.ifCond .eq 10, 3) := by decide +kernel
theorem dX8_house_12 : decode cX8_house 12 = .ok (.iload_n 2, 1) := by decide +kernel
theorem dX8_house_13 : decode cX8_house 13 = .ok (.invokestatic 182, 3) := by decide +kernel
theorem dX8_house_16 : decode cX8_house 16 = .ok (.ifCond .ne 9, 3) := by decide +kernel
theorem dX8_house_19 : decode cX8_house 19 = .ok (.aload_n 0, 1) := by decide +kernel
theorem dX8_house_20 : decode cX8_house 20 = .ok (.iconst 1, 1) := by decide +kernel
theorem dX8_house_21 : decode cX8_house 21 = .ok (.invokevirtual 134, 3) := by decide +kernel
theorem dX8_house_24 : decode cX8_house 24 = .ok (.ireturn, 1) := by decide +kernel
theorem dX8_house_25 : decode cX8_house 25 = .ok (.aload_n 0, 1) := by decide +kernel
theorem dX8_house_26 : decode cX8_house 26 = .ok (.getfield 7, 3) := by decide +kernel
theorem dX8_house_29 : decode cX8_house 29 = .ok (.iconst 0, 1) := by decide +kernel
theorem dX8_house_30 : decode cX8_house 30 = .ok (.iaload, 1) := by decide +kernel
theorem dX8_house_31 : decode cX8_house 31 = .ok (.bipush 8, 2) := by decide +kernel
theorem dX8_house_33 : decode cX8_house 33 = .ok (.if_icmp .ne 9, 3) := by decide +kernel
theorem dX8_house_36 : decode cX8_house 36 = .ok (.aload_n 0, 1) := by decide +kernel
theorem dX8_house_37 : decode cX8_house 37 = .ok (.iconst 4, 1) := by decide +kernel
theorem dX8_house_38 : decode cX8_house 38 = .ok (.invokevirtual 134, 3) := by decide +kernel
theorem dX8_house_41 : decode cX8_house 41 = .ok (.ireturn, 1) := by decide +kernel
theorem dX8_house_42 : decode cX8_house 42 = .ok (.aload_n 0, 1) := by decide +kernel
theorem dX8_house_43 : decode cX8_house 43 = .ok (.getfield 7, 3) := by decide +kernel
theorem dX8_house_46 : decode cX8_house 46 = .ok (.iconst 0, 1) := by decide +kernel
theorem dX8_house_47 : decode cX8_house 47 = .ok (.iaload, 1) := by decide +kernel
theorem dX8_house_48 : decode cX8_house 48 = .ok (.istore_n 3, 1) := by decide +kernel
theorem dX8_house_49 : decode cX8_house 49 = .ok (.aload_n 0, 1) := by decide +kernel
theorem dX8_house_50 : decode cX8_house 50 = .ok (.iload_n 3, 1) := by decide +kernel
theorem dX8_house_51 : decode cX8_house 51 = .ok (.iconst 0, 1) := by decide +kernel
theorem dX8_house_52 : decode cX8_house 52 = .ok (.iload_n 1, 1) := by decide +kernel
theorem dX8_house_53 : decode cX8_house 53 = .ok (.bipush 10, 2) := by decide +kernel
theorem dX8_house_55 : decode cX8_house 55 = .ok (.idiv, 1) := by decide +kernel
theorem dX8_house_56 : decode cX8_house 56 = .ok (.invokevirtual 176, 3) := by decide +kernel
theorem dX8_house_59 : decode cX8_house 59 = .ok (.aload_n 0, 1) := by decide +kernel
theorem dX8_house_60 : decode cX8_house 60 = .ok (.iload_n 3, 1) := by decide +kernel
theorem dX8_house_61 : decode cX8_house 61 = .ok (.iconst 1, 1) := by decide +kernel
theorem dX8_house_62 : decode cX8_house 62 = .ok (.iload_n 1, 1) := by decide +kernel
theorem dX8_house_63 : decode cX8_house 63 = .ok (.bipush 10, 2) := by decide +kernel
theorem dX8_house_65 : decode cX8_house 65 = .ok (.irem, 1) := by decide +kernel
theorem dX8_house_66 : decode cX8_house 66 = .ok (.invokevirtual 176, 3) := by decide +kernel
theorem dX8_house_69 : decode cX8_house 69 = .ok (.aload_n 0, 1) := by decide +kernel
theorem dX8_house_70 : decode cX8_house 70 = .ok (.iload_n 3, 1) := by decide +kernel
theorem dX8_house_71 : decode cX8_house 71 = .ok (.iconst 2, 1) := by decide +kernel
theorem dX8_house_72 : decode cX8_house 72 = .ok (.iload_n 2, 1) := by decide +kernel
theorem dX8_house_73 : decode cX8_house 73 = .ok (.invokevirtual 176, 3) := by decide +kernel
theorem dX8_house_76 : decode cX8_house 76 = .ok (.aload_n 0, 1) := by decide +kernel
theorem dX8_house_77 : decode cX8_house 77 = .ok (.iload_n 3, 1) := by decide +kernel
theorem dX8_house_78 : decode cX8_house 78 = .ok (.iconst 3, 1) := by decide +kernel
theorem dX8_house_79 : decode cX8_house 79 = .ok (.iconst 0, 1) := by decide +kernel
theorem dX8_house_80 : decode cX8_house 80 = .ok (.invokevirtual 176, 3) := by decide +kernel
theorem dX8_house_83 : decode cX8_house 83 = .ok (.aload_n 0, 1) := by decide +kernel
theorem dX8_house_84 : decode cX8_house 84 = .ok (.getfield 7, 3) := by decide +kernel
theorem dX8_house_87 : decode cX8_house 87 = .ok (.iconst 0, 1) := by decide +kernel
theorem dX8_house_88 : decode cX8_house 88 = .ok (.dup2, 1) := by decide +kernel
theorem dX8_house_89 : decode cX8_house 89 = .ok (.iaload, 1) := by decide +kernel
theorem dX8_house_90 : decode cX8_house 90 = .ok (.iconst 1, 1) := by decide +kernel
theorem dX8_house_91 : decode cX8_house 91 = .ok (.iadd, 1) := by decide +kernel
theorem dX8_house_92 : decode cX8_house 92 = .ok (.iastore, 1) := by decide +kernel
theorem dX8_house_93 : decode cX8_house 93 = .ok (.iload_n 3, 1) := by decide +kernel
theorem dX8_house_94 : decode cX8_house 94 = .ok (.ireturn, 1) := by decide +kernel
theorem dX8_ofHouse_0 : decode cX8_ofHouse 0 = .ok (.aload_n 0, 1) := by decide +kernel
theorem dX8_ofHouse_1 : decode cX8_ofHouse 1 = .ok (.iload_n 1, 1) := by decide +kernel
theorem dX8_ofHouse_2 : decode cX8_ofHouse 2 = .ok (.invokevirtual 203, 3) := by decide +kernel
theorem dX8_ofHouse_5 : decode cX8_ofHouse 5 = .ok (.ifCond .eq 15, 3) := by decide +kernel
theorem dX8_ofHouse_8 : decode cX8_ofHouse 8 = .ok (.iload_n 2, 1) := by decide +kernel
theorem dX8_ofHouse_9 : decode cX8_ofHouse 9 = .ok (.i2l, 1) := by decide +kernel
theorem dX8_ofHouse_10 : decode cX8_ofHouse 10 = .ok (.lconst 0, 1) := by decide +kernel
theorem dX8_ofHouse_11 : decode cX8_ofHouse 11 = .ok (.ldc2_w 206, 3) := by decide +kernel
theorem dX8_ofHouse_14 : decode cX8_ofHouse 14 = .ok (.invokestatic 53, 3) := by decide +kernel
theorem dX8_ofHouse_17 : decode cX8_ofHouse 17 = .ok (.ifCond .ne 9, 3) := by decide +kernel
theorem dX8_ofHouse_20 : decode cX8_ofHouse 20 = .ok (.aload_n 0, 1) := by decide +kernel
theorem dX8_ofHouse_21 : decode cX8_ofHouse 21 = .ok (.iconst 1, 1) := by decide +kernel
theorem dX8_ofHouse_22 : decode cX8_ofHouse 22 = .ok (.invokevirtual 134, 3) := by decide +kernel
theorem dX8_ofHouse_25 : decode cX8_ofHouse 25 = .ok (.ireturn, 1) := by decide +kernel
theorem dX8_ofHouse_26 : decode cX8_ofHouse 26 = .ok (.iload_n 2, 1) := by decide +kernel
theorem dX8_ofHouse_27 : decode cX8_ofHouse 27 = .ok (.tableswitch 79 4 7 #[29, 35, 41, 65], 29) := by decide +kernel
theorem dX8_ofHouse_56 : decode cX8_ofHouse 56 = .ok (.aload_n 0, 1) := by decide +kernel
theorem dX8_ofHouse_57 : decode cX8_ofHouse 57 = .ok (.iload_n 1, 1) := by decide +kernel
theorem dX8_ofHouse_58 : decode cX8_ofHouse 58 = .ok (.invokevirtual 157, 3) := by decide +kernel
theorem dX8_ofHouse_61 : decode cX8_ofHouse 61 = .ok (.ireturn, 1) := by decide +kernel
theorem dX8_ofHouse_62 : decode cX8_ofHouse 62 = .ok (.aload_n 0, 1) := by decide +kernel
theorem dX8_ofHouse_63 : decode cX8_ofHouse 63 = .ok (.iload_n 1, 1) := by decide +kernel
theorem dX8_ofHouse_64 : decode cX8_ofHouse 64 = .ok (.invokevirtual 160, 3) := by decide +kernel
theorem dX8_ofHouse_67 : decode cX8_ofHouse 67 = .ok (.ireturn, 1) := by decide +kernel
theorem dX8_ofHouse_68 : decode cX8_ofHouse 68 = .ok (.aload_n 0, 1) := by decide +kernel
theorem dX8_ofHouse_69 : decode cX8_ofHouse 69 = .ok (.iload_n 1, 1) := by decide +kernel
theorem dX8_ofHouse_70 : decode cX8_ofHouse 70 = .ok (.invokevirtual 170, 3) := by decide +kernel
theorem dX8_ofHouse_73 : decode cX8_ofHouse 73 = .ok (.iconst 0, 1) := by decide +kernel
theorem dX8_ofHouse_74 : decode cX8_ofHouse 74 = .ok (.aload_n 0, 1) := by decide +kernel
theorem dX8_ofHouse_75 : decode cX8_ofHouse 75 = .ok (.getfield 7, 3) := by decide +kernel
theorem dX8_ofHouse_78 : decode cX8_ofHouse 78 = .ok (.bipush 9, 2) := by decide +kernel
theorem dX8_ofHouse_80 : decode cX8_ofHouse 80 = .ok (.aload_n 0, 1) := by decide +kernel
theorem dX8_ofHouse_81 : decode cX8_ofHouse 81 = .ok (.iload_n 1, 1) := by decide +kernel
theorem dX8_ofHouse_82 : decode cX8_ofHouse 82 = .ok (.iconst 2, 1) := by decide +kernel
theorem dX8_ofHouse_83 : decode cX8_ofHouse 83 = .ok (.invokevirtual 154, 3) := by decide +kernel
theorem dX8_ofHouse_86 : decode cX8_ofHouse 86 = .ok (.iadd, 1) := by decide +kernel
theorem dX8_ofHouse_87 : decode cX8_ofHouse 87 = .ok (.iaload, 1) := by decide +kernel
theorem dX8_ofHouse_88 : decode cX8_ofHouse 88 = .ok (.invokestatic 147, 3) := by decide +kernel
theorem dX8_ofHouse_91 : decode cX8_ofHouse 91 = .ok (.ireturn, 1) := by decide +kernel
theorem dX8_ofHouse_92 : decode cX8_ofHouse 92 = .ok (.aload_n 0, 1) := by decide +kernel
theorem dX8_ofHouse_93 : decode cX8_ofHouse 93 = .ok (.iload_n 1, 1) := by decide +kernel
theorem dX8_ofHouse_94 : decode cX8_ofHouse 94 = .ok (.invokevirtual 173, 3) := by decide +kernel
theorem dX8_ofHouse_97 : decode cX8_ofHouse 97 = .ok (.ifCond .eq 7, 3) := by decide +kernel
theorem dX8_ofHouse_100 : decode cX8_ofHouse 100 = .ok (.iconst 1, 1) := by decide +kernel
theorem dX8_ofHouse_101 : decode cX8_ofHouse 101 = .ok (.goto 4, 3) := by decide +kernel
theorem dX8_ofHouse_104 : decode cX8_ofHouse 104 = .ok (.iconst 0, 1) := by decide +kernel
theorem dX8_ofHouse_105 : decode cX8_ofHouse 105 = .ok (.ireturn, 1) := by decide +kernel
theorem dX8_ofHouse_106 : decode cX8_ofHouse 106 = .ok (.aload_n 0, 1) := by decide +kernel
theorem dX8_ofHouse_107 : decode cX8_ofHouse 107 = .ok (.iload_n 1, 1) := by decide +kernel
theorem dX8_ofHouse_108 : decode cX8_ofHouse 108 = .ok (.iload_n 2, 1) := by decide +kernel
theorem dX8_ofHouse_109 : decode cX8_ofHouse 109 = .ok (.invokevirtual 154, 3) := by decide +kernel
theorem dX8_ofHouse_112 : decode cX8_ofHouse 112 = .ok (.ireturn, 1) := by decide +kernel
theorem dX8_change_0 : decode cX8_change 0 = .ok (.aload_n 0, 1) := by decide +kernel
theorem dX8_change_1 : decode cX8_change 1 = .ok (.iload_n 1, 1) := by decide +kernel
theorem dX8_change_2 : decode cX8_change 2 = .ok (.invokevirtual 203, 3) := by decide +kernel
theorem dX8_change_5 : decode cX8_change 5 = .ok (.ifCond .eq 35, 3) := by decide +kernel
theorem dX8_change_8 : decode cX8_change 8 = .ok (.iload_n 2, 1) := by decide +kernel
theorem dX8_change_9 : decode cX8_change 9 = .ok (.i2l, 1) := by decide +kernel
theorem dX8_change_10 : decode cX8_change 10 = .ok (.lconst 0, 1) := by decide +kernel
theorem dX8_change_11 : decode cX8_change 11 = .ok (.lconst 1, 1) := by decide +kernel
theorem dX8_change_12 : decode cX8_change 12 = .ok (.invokestatic 53, 3) := by decide +kernel
theorem dX8_change_15 : decode cX8_change 15 = .ok (.ifCond .eq 25, 3) := by decide +kernel
theorem dX8_change_18 : decode cX8_change 18 = .ok (.iload_n 3, 1) := by decide +kernel
theorem dX8_change_19 : decode cX8_change 19 = .ok (.i2l, 1) := by decide +kernel
theorem dX8_change_20 : decode cX8_change 20 = .ok (.lconst 0, 1) := by decide +kernel
theorem dX8_change_21 : decode cX8_change 21 = .ok (.iload_n 2, 1) := by decide +kernel
theorem dX8_change_22 : decode cX8_change 22 = .ok (.ifCond .ne 9, 3) := by decide +kernel
theorem dX8_change_25 : decode cX8_change 25 = .ok (.ldc2_w 57, 3) := by decide +kernel
theorem dX8_change_28 : decode cX8_change 28 = .ok (.goto 6, 3) := by decide +kernel
theorem dX8_change_31 : decode cX8_change 31 = .ok (.ldc2_w 197, 3) := by decide +kernel
theorem dX8_change_34 : decode cX8_change 34 = .ok (.invokestatic 53, 3) := by decide +kernel
theorem dX8_change_37 : decode cX8_change 37 = .ok (.ifCond .ne 9, 3) := by decide +kernel
theorem dX8_change_40 : decode cX8_change 40 = .ok (.aload_n 0, 1) := by decide +kernel
theorem dX8_change_41 : decode cX8_change 41 = .ok (.iconst 1, 1) := by decide +kernel
theorem dX8_change_42 : decode cX8_change 42 = .ok (.invokevirtual 134, 3) := by decide +kernel
theorem dX8_change_45 : decode cX8_change 45 = .ok (.ireturn, 1) := by decide +kernel
theorem dX8_change_46 : decode cX8_change 46 = .ok (.aload_n 0, 1) := by decide +kernel
theorem dX8_change_47 : decode cX8_change 47 = .ok (.bipush 25, 2) := by decide +kernel
theorem dX8_change_49 : decode cX8_change 49 = .ok (.iconst 4, 1) := by decide +kernel
theorem dX8_change_50 : decode cX8_change 50 = .ok (.iload_n 1, 1) := by decide +kernel
theorem dX8_change_51 : decode cX8_change 51 = .ok (.imul, 1) := by decide +kernel
theorem dX8_change_52 : decode cX8_change 52 = .ok (.iadd, 1) := by decide +kernel
theorem dX8_change_53 : decode cX8_change 53 = .ok (.iconst 2, 1) := by decide +kernel
theorem dX8_change_54 : decode cX8_change 54 = .ok (.iadd, 1) := by decide +kernel
theorem dX8_change_55 : decode cX8_change 55 = .ok (.iload_n 2, 1) := by decide +kernel
theorem dX8_change_56 : decode cX8_change 56 = .ok (.iadd, 1) := by decide +kernel
theorem dX8_change_57 : decode cX8_change 57 = .ok (.iload_n 3, 1) := by decide +kernel
theorem dX8_change_58 : decode cX8_change 58 = .ok (.invokevirtual 187, 3) := by decide +kernel
theorem dX8_change_61 : decode cX8_change 61 = .ok (.ireturn, 1) := by decide +kernel
theorem dX8_become_0 : decode cX8_become 0 = .ok (.aload_n 0, 1) := by decide +kernel
theorem dX8_become_1 : decode cX8_become 1 = .ok (.iload_n 1, 1) := by decide +kernel
theorem dX8_become_2 : decode cX8_become 2 = .ok (.invokevirtual 203, 3) := by decide +kernel
theorem dX8_become_5 : decode cX8_become 5 = .ok (.ifCond .eq 15, 3) := by decide +kernel
theorem dX8_become_8 : decode cX8_become 8 = .ok (.iload_n 2, 1) := by decide +kernel
theorem dX8_become_9 : decode cX8_become 9 = .ok (.i2l, 1) := by decide +kernel
theorem dX8_become_10 : decode cX8_become 10 = .ok (.lconst 0, 1) := by decide +kernel
theorem dX8_become_11 : decode cX8_become 11 = .ok (.ldc2_w 201, 3) := by decide +kernel
theorem dX8_become_14 : decode cX8_become 14 = .ok (.invokestatic 53, 3) := by decide +kernel
theorem dX8_become_17 : decode cX8_become 17 = .ok (.ifCond .ne 9, 3) := by decide +kernel
theorem dX8_become_20 : decode cX8_become 20 = .ok (.aload_n 0, 1) := by decide +kernel
theorem dX8_become_21 : decode cX8_become 21 = .ok (.iconst 1, 1) := by decide +kernel
theorem dX8_become_22 : decode cX8_become 22 = .ok (.invokevirtual 134, 3) := by decide +kernel
theorem dX8_become_25 : decode cX8_become 25 = .ok (.ireturn, 1) := by decide +kernel
theorem dX8_become_26 : decode cX8_become 26 = .ok (.aload_n 0, 1) := by decide +kernel
theorem dX8_become_27 : decode cX8_become 27 = .ok (.iload_n 1, 1) := by decide +kernel
theorem dX8_become_28 : decode cX8_become 28 = .ok (.iconst 1, 1) := by decide +kernel
theorem dX8_become_29 : decode cX8_become 29 = .ok (.iload_n 2, 1) := by decide +kernel
theorem dX8_become_30 : decode cX8_become 30 = .ok (.bipush 10, 2) := by decide +kernel
theorem dX8_become_32 : decode cX8_become 32 = .ok (.irem, 1) := by decide +kernel
theorem dX8_become_33 : decode cX8_become 33 = .ok (.invokevirtual 176, 3) := by decide +kernel
theorem dX8_become_36 : decode cX8_become 36 = .ok (.aload_n 0, 1) := by decide +kernel
theorem dX8_become_37 : decode cX8_become 37 = .ok (.bipush 25, 2) := by decide +kernel
theorem dX8_become_39 : decode cX8_become 39 = .ok (.iconst 4, 1) := by decide +kernel
theorem dX8_become_40 : decode cX8_become 40 = .ok (.iload_n 1, 1) := by decide +kernel
theorem dX8_become_41 : decode cX8_become 41 = .ok (.imul, 1) := by decide +kernel
theorem dX8_become_42 : decode cX8_become 42 = .ok (.iadd, 1) := by decide +kernel
theorem dX8_become_43 : decode cX8_become 43 = .ok (.iload_n 2, 1) := by decide +kernel
theorem dX8_become_44 : decode cX8_become 44 = .ok (.bipush 10, 2) := by decide +kernel
theorem dX8_become_46 : decode cX8_become 46 = .ok (.idiv, 1) := by decide +kernel
theorem dX8_become_47 : decode cX8_become 47 = .ok (.invokevirtual 187, 3) := by decide +kernel
theorem dX8_become_50 : decode cX8_become 50 = .ok (.ireturn, 1) := by decide +kernel
theorem dX8_as_0 : decode cX8_as 0 = .ok (.aload_n 0, 1) := by decide +kernel
theorem dX8_as_1 : decode cX8_as 1 = .ok (.iload_n 1, 1) := by decide +kernel
theorem dX8_as_2 : decode cX8_as 2 = .ok (.invokevirtual 203, 3) := by decide +kernel
theorem dX8_as_5 : decode cX8_as 5 = .ok (.ifCond .eq 15, 3) := by decide +kernel
theorem dX8_as_8 : decode cX8_as 8 = .ok (.iload_n 2, 1) := by decide +kernel
theorem dX8_as_9 : decode cX8_as 9 = .ok (.i2l, 1) := by decide +kernel
theorem dX8_as_10 : decode cX8_as 10 = .ok (.lconst 0, 1) := by decide +kernel
theorem dX8_as_11 : decode cX8_as 11 = .ok (.ldc2_w 208, 3) := by decide +kernel
theorem dX8_as_14 : decode cX8_as 14 = .ok (.invokestatic 53, 3) := by decide +kernel
theorem dX8_as_17 : decode cX8_as 17 = .ok (.ifCond .ne 9, 3) := by decide +kernel
theorem dX8_as_20 : decode cX8_as 20 = .ok (.aload_n 0, 1) := by decide +kernel
theorem dX8_as_21 : decode cX8_as 21 = .ok (.iconst 1, 1) := by decide +kernel
theorem dX8_as_22 : decode cX8_as 22 = .ok (.invokevirtual 134, 3) := by decide +kernel
theorem dX8_as_25 : decode cX8_as 25 = .ok (.ireturn, 1) := by decide +kernel
theorem dX8_as_26 : decode cX8_as 26 = .ok (.aload_n 0, 1) := by decide +kernel
theorem dX8_as_27 : decode cX8_as 27 = .ok (.iload_n 1, 1) := by decide +kernel
theorem dX8_as_28 : decode cX8_as 28 = .ok (.iconst 0, 1) := by decide +kernel
theorem dX8_as_29 : decode cX8_as 29 = .ok (.invokevirtual 154, 3) := by decide +kernel
theorem dX8_as_32 : decode cX8_as 32 = .ok (.istore_n 3, 1) := by decide +kernel
theorem dX8_as_33 : decode cX8_as 33 = .ok (.iload_n 2, 1) := by decide +kernel
theorem dX8_as_34 : decode cX8_as 34 = .ok (.ifCond .eq 16, 3) := by decide +kernel
theorem dX8_as_37 : decode cX8_as 37 = .ok (.iload_n 3, 1) := by decide +kernel
theorem dX8_as_38 : decode cX8_as 38 = .ok (.iload_n 2, 1) := by decide +kernel
theorem dX8_as_39 : decode cX8_as 39 = .ok (.if_icmp .eq 11, 3) := by decide +kernel
theorem dX8_as_42 : decode cX8_as 42 = .ok (.iload_n 3, 1) := by decide +kernel
theorem dX8_as_43 : decode cX8_as 43 = .ok (.invokestatic 210, 3) := by decide +kernel
theorem dX8_as_46 : decode cX8_as 46 = .ok (.iload_n 2, 1) := by decide +kernel
theorem dX8_as_47 : decode cX8_as 47 = .ok (.if_icmp .ne 12, 3) := by decide +kernel
theorem dX8_as_50 : decode cX8_as 50 = .ok (.aload_n 0, 1) := by decide +kernel
theorem dX8_as_51 : decode cX8_as 51 = .ok (.iload_n 1, 1) := by decide +kernel
theorem dX8_as_52 : decode cX8_as 52 = .ok (.iconst 1, 1) := by decide +kernel
theorem dX8_as_53 : decode cX8_as 53 = .ok (.invokevirtual 154, 3) := by decide +kernel
theorem dX8_as_56 : decode cX8_as 56 = .ok (.goto 8, 3) := by decide +kernel
theorem dX8_as_59 : decode cX8_as 59 = .ok (.aload_n 0, 1) := by decide +kernel
theorem dX8_as_60 : decode cX8_as 60 = .ok (.iconst 5, 1) := by decide +kernel
theorem dX8_as_61 : decode cX8_as 61 = .ok (.invokevirtual 134, 3) := by decide +kernel
theorem dX8_as_64 : decode cX8_as 64 = .ok (.ireturn, 1) := by decide +kernel
theorem dX8_hours_0 : decode cX8_hours 0 = .ok (.iload_n 1, 1) := by decide +kernel
theorem dX8_hours_1 : decode cX8_hours 1 = .ok (.i2l, 1) := by decide +kernel
theorem dX8_hours_2 : decode cX8_hours 2 = .ok (.lconst 1, 1) := by decide +kernel
theorem dX8_hours_3 : decode cX8_hours 3 = .ok (.ldc2_w 213, 3) := by decide +kernel
theorem dX8_hours_6 : decode cX8_hours 6 = .ok (.invokestatic 53, 3) := by decide +kernel
theorem dX8_hours_9 : decode cX8_hours 9 = .ok (.ifCond .ne 9, 3) := by decide +kernel
theorem dX8_hours_12 : decode cX8_hours 12 = .ok (.aload_n 0, 1) := by decide +kernel
theorem dX8_hours_13 : decode cX8_hours 13 = .ok (.iconst 1, 1) := by decide +kernel
theorem dX8_hours_14 : decode cX8_hours 14 = .ok (.invokevirtual 134, 3) := by decide +kernel
theorem dX8_hours_17 : decode cX8_hours 17 = .ok (.ireturn, 1) := by decide +kernel
theorem dX8_hours_18 : decode cX8_hours 18 = .ok (.aload_n 0, 1) := by decide +kernel
theorem dX8_hours_19 : decode cX8_hours 19 = .ok (.getfield 7, 3) := by decide +kernel
theorem dX8_hours_22 : decode cX8_hours 22 = .ok (.iconst 1, 1) := by decide +kernel
theorem dX8_hours_23 : decode cX8_hours 23 = .ok (.iaload, 1) := by decide +kernel
theorem dX8_hours_24 : decode cX8_hours 24 = .ok (.iload_n 1, 1) := by decide +kernel
theorem dX8_hours_25 : decode cX8_hours 25 = .ok (.iadd, 1) := by decide +kernel
theorem dX8_hours_26 : decode cX8_hours 26 = .ok (.sipush 9999, 3) := by decide +kernel
theorem dX8_hours_29 : decode cX8_hours 29 = .ok (.if_icmp .le 9, 3) := by decide +kernel
theorem dX8_hours_32 : decode cX8_hours 32 = .ok (.aload_n 0, 1) := by decide +kernel
theorem dX8_hours_33 : decode cX8_hours 33 = .ok (.iconst 3, 1) := by decide +kernel
theorem dX8_hours_34 : decode cX8_hours 34 = .ok (.invokevirtual 134, 3) := by decide +kernel
theorem dX8_hours_37 : decode cX8_hours 37 = .ok (.ireturn, 1) := by decide +kernel
theorem dX8_hours_38 : decode cX8_hours 38 = .ok (.aload_n 0, 1) := by decide +kernel
theorem dX8_hours_39 : decode cX8_hours 39 = .ok (.iload_n 1, 1) := by decide +kernel
theorem dX8_hours_40 : decode cX8_hours 40 = .ok (.invokevirtual 215, 3) := by decide +kernel
theorem dX8_hours_43 : decode cX8_hours 43 = .ok (.aload_n 0, 1) := by decide +kernel
theorem dX8_hours_44 : decode cX8_hours 44 = .ok (.invokevirtual 218, 3) := by decide +kernel
theorem dX8_hours_47 : decode cX8_hours 47 = .ok (.ireturn, 1) := by decide +kernel
theorem dX8_drawn_0 : decode cX8_drawn 0 = .ok (.aload_n 0, 1) := by decide +kernel
theorem dX8_drawn_1 : decode cX8_drawn 1 = .ok (.getfield 7, 3) := by decide +kernel
theorem dX8_drawn_4 : decode cX8_drawn 4 = .ok (.iconst 5, 1) := by decide +kernel
theorem dX8_drawn_5 : decode cX8_drawn 5 = .ok (.aload_n 0, 1) := by decide +kernel
theorem dX8_drawn_6 : decode cX8_drawn 6 = .ok (.getfield 7, 3) := by decide +kernel
theorem dX8_drawn_9 : decode cX8_drawn 9 = .ok (.iconst 5, 1) := by decide +kernel
theorem dX8_drawn_10 : decode cX8_drawn 10 = .ok (.iaload, 1) := by decide +kernel
theorem dX8_drawn_11 : decode cX8_drawn 11 = .ok (.ldc 221, 2) := by decide +kernel
theorem dX8_drawn_13 : decode cX8_drawn 13 = .ok (.imul, 1) := by decide +kernel
theorem dX8_drawn_14 : decode cX8_drawn 14 = .ok (.sipush 12345, 3) := by decide +kernel
theorem dX8_drawn_17 : decode cX8_drawn 17 = .ok (.iadd, 1) := by decide +kernel
theorem dX8_drawn_18 : decode cX8_drawn 18 = .ok (.iastore, 1) := by decide +kernel
theorem dX8_drawn_19 : decode cX8_drawn 19 = .ok (.aload_n 0, 1) := by decide +kernel
theorem dX8_drawn_20 : decode cX8_drawn 20 = .ok (.getfield 7, 3) := by decide +kernel
theorem dX8_drawn_23 : decode cX8_drawn 23 = .ok (.iconst 5, 1) := by decide +kernel
theorem dX8_drawn_24 : decode cX8_drawn 24 = .ok (.iaload, 1) := by decide +kernel
theorem dX8_drawn_25 : decode cX8_drawn 25 = .ok (.bipush 8, 2) := by decide +kernel
theorem dX8_drawn_27 : decode cX8_drawn 27 = .ok (.iushr, 1) := by decide +kernel
theorem dX8_drawn_28 : decode cX8_drawn 28 = .ok (.ireturn, 1) := by decide +kernel
theorem dX8_loose_0 : decode cX8_loose 0 = .ok (.iload_n 1, 1) := by decide +kernel
theorem dX8_loose_1 : decode cX8_loose 1 = .ok (.i2l, 1) := by decide +kernel
theorem dX8_loose_2 : decode cX8_loose 2 = .ok (.lconst 1, 1) := by decide +kernel
theorem dX8_loose_3 : decode cX8_loose 3 = .ok (.ldc2_w 222, 3) := by decide +kernel
theorem dX8_loose_6 : decode cX8_loose 6 = .ok (.invokestatic 53, 3) := by decide +kernel
theorem dX8_loose_9 : decode cX8_loose 9 = .ok (.ifCond .ne 9, 3) := by decide +kernel
theorem dX8_loose_12 : decode cX8_loose 12 = .ok (.aload_n 0, 1) := by decide +kernel
theorem dX8_loose_13 : decode cX8_loose 13 = .ok (.iconst 1, 1) := by decide +kernel
theorem dX8_loose_14 : decode cX8_loose 14 = .ok (.invokevirtual 134, 3) := by decide +kernel
theorem dX8_loose_17 : decode cX8_loose 17 = .ok (.ireturn, 1) := by decide +kernel
theorem dX8_loose_18 : decode cX8_loose 18 = .ok (.aload_n 0, 1) := by decide +kernel
theorem dX8_loose_19 : decode cX8_loose 19 = .ok (.getfield 7, 3) := by decide +kernel
theorem dX8_loose_22 : decode cX8_loose 22 = .ok (.iconst 1, 1) := by decide +kernel
theorem dX8_loose_23 : decode cX8_loose 23 = .ok (.iaload, 1) := by decide +kernel
theorem dX8_loose_24 : decode cX8_loose 24 = .ok (.iload_n 1, 1) := by decide +kernel
theorem dX8_loose_25 : decode cX8_loose 25 = .ok (.iadd, 1) := by decide +kernel
theorem dX8_loose_26 : decode cX8_loose 26 = .ok (.sipush 9999, 3) := by decide +kernel
theorem dX8_loose_29 : decode cX8_loose 29 = .ok (.if_icmp .le 9, 3) := by decide +kernel
theorem dX8_loose_32 : decode cX8_loose 32 = .ok (.aload_n 0, 1) := by decide +kernel
theorem dX8_loose_33 : decode cX8_loose 33 = .ok (.iconst 3, 1) := by decide +kernel
theorem dX8_loose_34 : decode cX8_loose 34 = .ok (.invokevirtual 134, 3) := by decide +kernel
theorem dX8_loose_37 : decode cX8_loose 37 = .ok (.ireturn, 1) := by decide +kernel
theorem dX8_loose_38 : decode cX8_loose 38 = .ok (.iconst 0, 1) := by decide +kernel
theorem dX8_loose_39 : decode cX8_loose 39 = .ok (.istore_n 2, 1) := by decide +kernel
theorem dX8_loose_40 : decode cX8_loose 40 = .ok (.iload_n 2, 1) := by decide +kernel
theorem dX8_loose_41 : decode cX8_loose 41 = .ok (.iload_n 1, 1) := by decide +kernel
theorem dX8_loose_42 : decode cX8_loose 42 = .ok (.if_icmp .ge 56, 3) := by decide +kernel
theorem dX8_loose_45 : decode cX8_loose 45 = .ok (.aload_n 0, 1) := by decide +kernel
theorem dX8_loose_46 : decode cX8_loose 46 = .ok (.getfield 7, 3) := by decide +kernel
theorem dX8_loose_49 : decode cX8_loose 49 = .ok (.iconst 2, 1) := by decide +kernel
theorem dX8_loose_50 : decode cX8_loose 50 = .ok (.aload_n 0, 1) := by decide +kernel
theorem dX8_loose_51 : decode cX8_loose 51 = .ok (.invokevirtual 224, 3) := by decide +kernel
theorem dX8_loose_54 : decode cX8_loose 54 = .ok (.bipush 40, 2) := by decide +kernel
theorem dX8_loose_56 : decode cX8_loose 56 = .ok (.irem, 1) := by decide +kernel
theorem dX8_loose_57 : decode cX8_loose 57 = .ok (.iastore, 1) := by decide +kernel
