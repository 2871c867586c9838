theorem dX8_ran_19 : decode cX8_ran 19 = .ok (.aload_n 0, 1) := by decide +kernel
theorem dX8_ran_20 : decode cX8_ran 20 = .ok (.dup, 1) := by decide +kernel
theorem dX8_ran_21 : decode cX8_ran 21 = .ok (.getfield 259, 3) := by decide +kernel
theorem dX8_ran_24 : decode cX8_ran 24 = .ok (.iconst 1, 1) := by decide +kernel
theorem dX8_ran_25 : decode cX8_ran 25 = .ok (.iadd, 1) := by decide +kernel
theorem dX8_ran_26 : decode cX8_ran 26 = .ok (.putfield 259, 3) := by decide +kernel
theorem dX8_ran_29 : decode cX8_ran 29 = .ok (.return_, 1) := by decide +kernel
theorem dX8_glowsBy_0 : decode cX8_glowsBy 0 = .ok (.iload_n 1, 1) := by decide +kernel
theorem dX8_glowsBy_1 : decode cX8_glowsBy 1 = .ok (.lookupswitch 58 #[(0, 27), (1, 40)], 27) := by decide +kernel
theorem dX8_glowsBy_28 : decode cX8_glowsBy 28 = .ok (.aload_n 0, 1) := by decide +kernel
theorem dX8_glowsBy_29 : decode cX8_glowsBy 29 = .ok (.bipush 10, 2) := by decide +kernel
theorem dX8_glowsBy_31 : decode cX8_glowsBy 31 = .ok (.invokevirtual 262, 3) := by decide +kernel
theorem dX8_glowsBy_34 : decode cX8_glowsBy 34 = .ok (.iload_n 2, 1) := by decide +kernel
theorem dX8_glowsBy_35 : decode cX8_glowsBy 35 = .ok (.aload_n 0, 1) := by decide +kernel
theorem dX8_glowsBy_36 : decode cX8_glowsBy 36 = .ok (.getfield 265, 3) := by decide +kernel
theorem dX8_glowsBy_39 : decode cX8_glowsBy 39 = .ok (.iadd, 1) := by decide +kernel
theorem dX8_glowsBy_40 : decode cX8_glowsBy 40 = .ok (.ireturn, 1) := by decide +kernel
theorem dX8_glowsBy_41 : decode cX8_glowsBy 41 = .ok (.aload_n 0, 1) := by decide +kernel
theorem dX8_glowsBy_42 : decode cX8_glowsBy 42 = .ok (.bipush 20, 2) := by decide +kernel
theorem dX8_glowsBy_44 : decode cX8_glowsBy 44 = .ok (.invokevirtual 262, 3) := by decide +kernel
theorem dX8_glowsBy_47 : decode cX8_glowsBy 47 = .ok (.aload_n 0, 1) := by decide +kernel
theorem dX8_glowsBy_48 : decode cX8_glowsBy 48 = .ok (.iconst 1, 1) := by decide +kernel
theorem dX8_glowsBy_49 : decode cX8_glowsBy 49 = .ok (.invokestatic 210, 3) := by decide +kernel
theorem dX8_glowsBy_52 : decode cX8_glowsBy 52 = .ok (.iload_n 2, 1) := by decide +kernel
theorem dX8_glowsBy_53 : decode cX8_glowsBy 53 = .ok (.invokevirtual 268, 3) := by decide +kernel
theorem dX8_glowsBy_56 : decode cX8_glowsBy 56 = .ok (.iconst 3, 1) := by decide +kernel
theorem dX8_glowsBy_57 : decode cX8_glowsBy 57 = .ok (.imul, 1) := by decide +kernel
theorem dX8_glowsBy_58 : decode cX8_glowsBy 58 = .ok (.ireturn, 1) := by decide +kernel
theorem dX8_glowsBy_59 : decode cX8_glowsBy 59 = .ok (.aload_n 0, 1) := by decide +kernel
theorem dX8_glowsBy_60 : decode cX8_glowsBy 60 = .ok (.iload_n 1, 1) := by decide +kernel
theorem dX8_glowsBy_61 : decode cX8_glowsBy 61 = .ok (.invokestatic 210, 3) := by decide +kernel
theorem dX8_glowsBy_64 : decode cX8_glowsBy 64 = .ok (.iload_n 2, 1) := by decide +kernel
theorem dX8_glowsBy_65 : decode cX8_glowsBy 65 = .ok (.invokevirtual 268, 3) := by decide +kernel
theorem dX8_glowsBy_68 : decode cX8_glowsBy 68 = .ok (.ireturn, 1) := by decide +kernel
theorem dX8_opensBy_0 : decode cX8_opensBy 0 = .ok (.iconst 0, 1) := by decide +kernel
theorem dX8_opensBy_1 : decode cX8_opensBy 1 = .ok (.istore_n 3, 1) := by decide +kernel
theorem dX8_opensBy_2 : decode cX8_opensBy 2 = .ok (.iload_n 1, 1) := by decide +kernel
theorem dX8_opensBy_3 : decode cX8_opensBy 3 = .ok (.lookupswitch 107 #[(0, 33), (2, 56), (5, 89)], 33) := by decide +kernel
theorem dX8_opensBy_36 : decode cX8_opensBy 36 = .ok (.aload_n 0, 1) := by decide +kernel
theorem dX8_opensBy_37 : decode cX8_opensBy 37 = .ok (.bipush 11, 2) := by decide +kernel
theorem dX8_opensBy_39 : decode cX8_opensBy 39 = .ok (.invokevirtual 262, 3) := by decide +kernel
theorem dX8_opensBy_42 : decode cX8_opensBy 42 = .ok (.aload_n 0, 1) := by decide +kernel
theorem dX8_opensBy_43 : decode cX8_opensBy 43 = .ok (.aload_n 0, 1) := by decide +kernel
theorem dX8_opensBy_44 : decode cX8_opensBy 44 = .ok (.aload_n 0, 1) := by decide +kernel
theorem dX8_opensBy_45 : decode cX8_opensBy 45 = .ok (.getfield 265, 3) := by decide +kernel
theorem dX8_opensBy_48 : decode cX8_opensBy 48 = .ok (.iconst 0, 1) := by decide +kernel
theorem dX8_opensBy_49 : decode cX8_opensBy 49 = .ok (.invokevirtual 154, 3) := by decide +kernel
theorem dX8_opensBy_52 : decode cX8_opensBy 52 = .ok (.iload_n 2, 1) := by decide +kernel
theorem dX8_opensBy_53 : decode cX8_opensBy 53 = .ok (.invokevirtual 268, 3) := by decide +kernel
theorem dX8_opensBy_56 : decode cX8_opensBy 56 = .ok (.iconst 2, 1) := by decide +kernel
theorem dX8_opensBy_57 : decode cX8_opensBy 57 = .ok (.imul, 1) := by decide +kernel
theorem dX8_opensBy_58 : decode cX8_opensBy 58 = .ok (.ireturn, 1) := by decide +kernel
theorem dX8_opensBy_59 : decode cX8_opensBy 59 = .ok (.aload_n 0, 1) := by decide +kernel
theorem dX8_opensBy_60 : decode cX8_opensBy 60 = .ok (.bipush 30, 2) := by decide +kernel
theorem dX8_opensBy_62 : decode cX8_opensBy 62 = .ok (.invokevirtual 262, 3) := by decide +kernel
theorem dX8_opensBy_65 : decode cX8_opensBy 65 = .ok (.aload_n 0, 1) := by decide +kernel
theorem dX8_opensBy_66 : decode cX8_opensBy 66 = .ok (.iconst 2, 1) := by decide +kernel
theorem dX8_opensBy_67 : decode cX8_opensBy 67 = .ok (.invokestatic 210, 3) := by decide +kernel
theorem dX8_opensBy_70 : decode cX8_opensBy 70 = .ok (.iload_n 2, 1) := by decide +kernel
theorem dX8_opensBy_71 : decode cX8_opensBy 71 = .ok (.invokevirtual 271, 3) := by decide +kernel
theorem dX8_opensBy_74 : decode cX8_opensBy 74 = .ok (.istore_n 3, 1) := by decide +kernel
theorem dX8_opensBy_75 : decode cX8_opensBy 75 = .ok (.iload_n 3, 1) := by decide +kernel
theorem dX8_opensBy_76 : decode cX8_opensBy 76 = .ok (.aload_n 0, 1) := by decide +kernel
theorem dX8_opensBy_77 : decode cX8_opensBy 77 = .ok (.aload_n 0, 1) := by decide +kernel
theorem dX8_opensBy_78 : decode cX8_opensBy 78 = .ok (.aload_n 0, 1) := by decide +kernel
theorem dX8_opensBy_79 : decode cX8_opensBy 79 = .ok (.getfield 265, 3) := by decide +kernel
theorem dX8_opensBy_82 : decode cX8_opensBy 82 = .ok (.iconst 0, 1) := by decide +kernel
theorem dX8_opensBy_83 : decode cX8_opensBy 83 = .ok (.invokevirtual 154, 3) := by decide +kernel
theorem dX8_opensBy_86 : decode cX8_opensBy 86 = .ok (.iconst 1, 1) := by decide +kernel
theorem dX8_opensBy_87 : decode cX8_opensBy 87 = .ok (.invokevirtual 274, 3) := by decide +kernel
theorem dX8_opensBy_90 : decode cX8_opensBy 90 = .ok (.isub, 1) := by decide +kernel
theorem dX8_opensBy_91 : decode cX8_opensBy 91 = .ok (.ireturn, 1) := by decide +kernel
theorem dX8_opensBy_92 : decode cX8_opensBy 92 = .ok (.aload_n 0, 1) := by decide +kernel
theorem dX8_opensBy_93 : decode cX8_opensBy 93 = .ok (.bipush 60, 2) := by decide +kernel
theorem dX8_opensBy_95 : decode cX8_opensBy 95 = .ok (.invokevirtual 262, 3) := by decide +kernel
theorem dX8_opensBy_98 : decode cX8_opensBy 98 = .ok (.aload_n 0, 1) := by decide +kernel
theorem dX8_opensBy_99 : decode cX8_opensBy 99 = .ok (.iconst 5, 1) := by decide +kernel
theorem dX8_opensBy_100 : decode cX8_opensBy 100 = .ok (.invokestatic 210, 3) := by decide +kernel
theorem dX8_opensBy_103 : decode cX8_opensBy 103 = .ok (.iload_n 2, 1) := by decide +kernel
theorem dX8_opensBy_104 : decode cX8_opensBy 104 = .ok (.iconst 1, 1) := by decide +kernel
theorem dX8_opensBy_105 : decode cX8_opensBy 105 = .ok (.iadd, 1) := by decide +kernel
theorem dX8_opensBy_106 : decode cX8_opensBy 106 = .ok (.invokevirtual 271, 3) := by decide +kernel
theorem dX8_opensBy_109 : decode cX8_opensBy 109 = .ok (.ireturn, 1) := by decide +kernel
theorem dX8_opensBy_110 : decode cX8_opensBy 110 = .ok (.aload_n 0, 1) := by decide +kernel
theorem dX8_opensBy_111 : decode cX8_opensBy 111 = .ok (.iload_n 1, 1) := by decide +kernel
theorem dX8_opensBy_112 : decode cX8_opensBy 112 = .ok (.invokestatic 210, 3) := by decide +kernel
theorem dX8_opensBy_115 : decode cX8_opensBy 115 = .ok (.iload_n 2, 1) := by decide +kernel
theorem dX8_opensBy_116 : decode cX8_opensBy 116 = .ok (.invokevirtual 271, 3) := by decide +kernel
theorem dX8_opensBy_119 : decode cX8_opensBy 119 = .ok (.ireturn, 1) := by decide +kernel
theorem dX8_shutsBy_0 : decode cX8_shutsBy 0 = .ok (.iload_n 1, 1) := by decide +kernel
theorem dX8_shutsBy_1 : decode cX8_shutsBy 1 = .ok (.lookupswitch 92 #[(0, 35), (3, 53), (6, 70)], 35) := by decide +kernel
theorem dX8_shutsBy_36 : decode cX8_shutsBy 36 = .ok (.aload_n 0, 1) := by decide +kernel
theorem dX8_shutsBy_37 : decode cX8_shutsBy 37 = .ok (.bipush 12, 2) := by decide +kernel
theorem dX8_shutsBy_39 : decode cX8_shutsBy 39 = .ok (.invokevirtual 262, 3) := by decide +kernel
theorem dX8_shutsBy_42 : decode cX8_shutsBy 42 = .ok (.iload_n 2, 1) := by decide +kernel
theorem dX8_shutsBy_43 : decode cX8_shutsBy 43 = .ok (.aload_n 0, 1) := by decide +kernel
theorem dX8_shutsBy_44 : decode cX8_shutsBy 44 = .ok (.aload_n 0, 1) := by decide +kernel
theorem dX8_shutsBy_45 : decode cX8_shutsBy 45 = .ok (.getfield 265, 3) := by decide +kernel
theorem dX8_shutsBy_48 : decode cX8_shutsBy 48 = .ok (.iconst 1, 1) := by decide +kernel
theorem dX8_shutsBy_49 : decode cX8_shutsBy 49 = .ok (.invokevirtual 154, 3) := by decide +kernel
theorem dX8_shutsBy_52 : decode cX8_shutsBy 52 = .ok (.isub, 1) := by decide +kernel
theorem dX8_shutsBy_53 : decode cX8_shutsBy 53 = .ok (.ireturn, 1) := by decide +kernel
theorem dX8_shutsBy_54 : decode cX8_shutsBy 54 = .ok (.aload_n 0, 1) := by decide +kernel
theorem dX8_shutsBy_55 : decode cX8_shutsBy 55 = .ok (.bipush 40, 2) := by decide +kernel
theorem dX8_shutsBy_57 : decode cX8_shutsBy 57 = .ok (.invokevirtual 262, 3) := by decide +kernel
theorem dX8_shutsBy_60 : decode cX8_shutsBy 60 = .ok (.aload_n 0, 1) := by decide +kernel
theorem dX8_shutsBy_61 : decode cX8_shutsBy 61 = .ok (.iconst 3, 1) := by decide +kernel
theorem dX8_shutsBy_62 : decode cX8_shutsBy 62 = .ok (.invokestatic 210, 3) := by decide +kernel
theorem dX8_shutsBy_65 : decode cX8_shutsBy 65 = .ok (.iload_n 2, 1) := by decide +kernel
theorem dX8_shutsBy_66 : decode cX8_shutsBy 66 = .ok (.invokevirtual 274, 3) := by decide +kernel
theorem dX8_shutsBy_69 : decode cX8_shutsBy 69 = .ok (.ineg, 1) := by decide +kernel
theorem dX8_shutsBy_70 : decode cX8_shutsBy 70 = .ok (.ireturn, 1) := by decide +kernel
theorem dX8_shutsBy_71 : decode cX8_shutsBy 71 = .ok (.aload_n 0, 1) := by decide +kernel
theorem dX8_shutsBy_72 : decode cX8_shutsBy 72 = .ok (.bipush 70, 2) := by decide +kernel
theorem dX8_shutsBy_74 : decode cX8_shutsBy 74 = .ok (.invokevirtual 262, 3) := by decide +kernel
theorem dX8_shutsBy_77 : decode cX8_shutsBy 77 = .ok (.aload_n 0, 1) := by decide +kernel
theorem dX8_shutsBy_78 : decode cX8_shutsBy 78 = .ok (.bipush 6, 2) := by decide +kernel
theorem dX8_shutsBy_80 : decode cX8_shutsBy 80 = .ok (.invokestatic 210, 3) := by decide +kernel
theorem dX8_shutsBy_83 : decode cX8_shutsBy 83 = .ok (.iload_n 2, 1) := by decide +kernel
theorem dX8_shutsBy_84 : decode cX8_shutsBy 84 = .ok (.invokevirtual 274, 3) := by decide +kernel
theorem dX8_shutsBy_87 : decode cX8_shutsBy 87 = .ok (.aload_n 0, 1) := by decide +kernel
theorem dX8_shutsBy_88 : decode cX8_shutsBy 88 = .ok (.getfield 265, 3) := by decide +kernel
theorem dX8_shutsBy_91 : decode cX8_shutsBy 91 = .ok (.ixor, 1) := by decide +kernel
theorem dX8_shutsBy_92 : decode cX8_shutsBy 92 = .ok (.ireturn, 1) := by decide +kernel
theorem dX8_shutsBy_93 : decode cX8_shutsBy 93 = .ok (.aload_n 0, 1) := by decide +kernel
theorem dX8_shutsBy_94 : decode cX8_shutsBy 94 = .ok (.iload_n 1, 1) := by decide +kernel
theorem dX8_shutsBy_95 : decode cX8_shutsBy 95 = .ok (.invokestatic 210, 3) := by decide +kernel
theorem dX8_shutsBy_98 : decode cX8_shutsBy 98 = .ok (.iload_n 2, 1) := by decide +kernel
theorem dX8_shutsBy_99 : decode cX8_shutsBy 99 = .ok (.invokevirtual 274, 3) := by decide +kernel
theorem dX8_shutsBy_102 : decode cX8_shutsBy 102 = .ok (.ireturn, 1) := by decide +kernel
theorem dX8_tellsBy_0 : decode cX8_tellsBy 0 = .ok (.iconst 0, 1) := by decide +kernel
theorem dX8_tellsBy_1 : decode cX8_tellsBy 1 = .ok (.istore_n 3, 1) := by decide +kernel
theorem dX8_tellsBy_2 : decode cX8_tellsBy 2 = .ok (.iload_n 1, 1) := by decide +kernel
theorem dX8_tellsBy_3 : decode cX8_tellsBy 3 = .ok (.lookupswitch 138 #[(0, 33), (4, 71), (6, 104)], 33) := by decide +kernel
theorem dX8_tellsBy_36 : decode cX8_tellsBy 36 = .ok (.aload_n 0, 1) := by decide +kernel
theorem dX8_tellsBy_37 : decode cX8_tellsBy 37 = .ok (.bipush 13, 2) := by decide +kernel
theorem dX8_tellsBy_39 : decode cX8_tellsBy 39 = .ok (.invokevirtual 262, 3) := by decide +kernel
theorem dX8_tellsBy_42 : decode cX8_tellsBy 42 = .ok (.aload_n 0, 1) := by decide +kernel
theorem dX8_tellsBy_43 : decode cX8_tellsBy 43 = .ok (.aload_n 0, 1) := by decide +kernel
theorem dX8_tellsBy_44 : decode cX8_tellsBy 44 = .ok (.aload_n 0, 1) := by decide +kernel
theorem dX8_tellsBy_45 : decode cX8_tellsBy 45 = .ok (.getfield 265, 3) := by decide +kernel
theorem dX8_tellsBy_48 : decode cX8_tellsBy 48 = .ok (.iconst 0, 1) := by decide +kernel
theorem dX8_tellsBy_49 : decode cX8_tellsBy 49 = .ok (.invokevirtual 154, 3) := by decide +kernel
theorem dX8_tellsBy_52 : decode cX8_tellsBy 52 = .ok (.iload_n 2, 1) := by decide +kernel
theorem dX8_tellsBy_53 : decode cX8_tellsBy 53 = .ok (.invokevirtual 271, 3) := by decide +kernel
theorem dX8_tellsBy_56 : decode cX8_tellsBy 56 = .ok (.istore_n 3, 1) := by decide +kernel
theorem dX8_tellsBy_57 : decode cX8_tellsBy 57 = .ok (.iload_n 3, 1) := by decide +kernel
theorem dX8_tellsBy_58 : decode cX8_tellsBy 58 = .ok (.aload_n 0, 1) := by decide +kernel
theorem dX8_tellsBy_59 : decode cX8_tellsBy 59 = .ok (.aload_n 0, 1) := by decide +kernel
theorem dX8_tellsBy_60 : decode cX8_tellsBy 60 = .ok (.aload_n 0, 1) := by decide +kernel
theorem dX8_tellsBy_61 : decode cX8_tellsBy 61 = .ok (.getfield 265, 3) := by decide +kernel
theorem dX8_tellsBy_64 : decode cX8_tellsBy 64 = .ok (.iconst 0, 1) := by decide +kernel
theorem dX8_tellsBy_65 : decode cX8_tellsBy 65 = .ok (.invokevirtual 154, 3) := by decide +kernel
theorem dX8_tellsBy_68 : decode cX8_tellsBy 68 = .ok (.iload_n 2, 1) := by decide +kernel
theorem dX8_tellsBy_69 : decode cX8_tellsBy 69 = .ok (.invokevirtual 274, 3) := by decide +kernel
theorem dX8_tellsBy_72 : decode cX8_tellsBy 72 = .ok (.ixor, 1) := by decide +kernel
theorem dX8_tellsBy_73 : decode cX8_tellsBy 73 = .ok (.ireturn, 1) := by decide +kernel
theorem dX8_tellsBy_74 : decode cX8_tellsBy 74 = .ok (.aload_n 0, 1) := by decide +kernel
theorem dX8_tellsBy_75 : decode cX8_tellsBy 75 = .ok (.bipush 50, 2) := by decide +kernel
theorem dX8_tellsBy_77 : decode cX8_tellsBy 77 = .ok (.invokevirtual 262, 3) := by decide +kernel
theorem dX8_tellsBy_80 : decode cX8_tellsBy 80 = .ok (.aload_n 0, 1) := by decide +kernel
theorem dX8_tellsBy_81 : decode cX8_tellsBy 81 = .ok (.iconst 4, 1) := by decide +kernel
theorem dX8_tellsBy_82 : decode cX8_tellsBy 82 = .ok (.invokestatic 210, 3) := by decide +kernel
theorem dX8_tellsBy_85 : decode cX8_tellsBy 85 = .ok (.iload_n 2, 1) := by decide +kernel
theorem dX8_tellsBy_86 : decode cX8_tellsBy 86 = .ok (.invokevirtual 277, 3) := by decide +kernel
theorem dX8_tellsBy_89 : decode cX8_tellsBy 89 = .ok (.istore_n 3, 1) := by decide +kernel
theorem dX8_tellsBy_90 : decode cX8_tellsBy 90 = .ok (.iload_n 3, 1) := by decide +kernel
theorem dX8_tellsBy_91 : decode cX8_tellsBy 91 = .ok (.aload_n 0, 1) := by decide +kernel
theorem dX8_tellsBy_92 : decode cX8_tellsBy 92 = .ok (.aload_n 0, 1) := by decide +kernel
theorem dX8_tellsBy_93 : decode cX8_tellsBy 93 = .ok (.aload_n 0, 1) := by decide +kernel
theorem dX8_tellsBy_94 : decode cX8_tellsBy 94 = .ok (.getfield 265, 3) := by decide +kernel
theorem dX8_tellsBy_97 : decode cX8_tellsBy 97 = .ok (.iconst 0, 1) := by decide +kernel
theorem dX8_tellsBy_98 : decode cX8_tellsBy 98 = .ok (.invokevirtual 154, 3) := by decide +kernel
theorem dX8_tellsBy_101 : decode cX8_tellsBy 101 = .ok (.iconst 2, 1) := by decide +kernel
theorem dX8_tellsBy_102 : decode cX8_tellsBy 102 = .ok (.invokevirtual 268, 3) := by decide +kernel
theorem dX8_tellsBy_105 : decode cX8_tellsBy 105 = .ok (.isub, 1) := by decide +kernel
theorem dX8_tellsBy_106 : decode cX8_tellsBy 106 = .ok (.ireturn, 1) := by decide +kernel
theorem dX8_tellsBy_107 : decode cX8_tellsBy 107 = .ok (.aload_n 0, 1) := by decide +kernel
theorem dX8_tellsBy_108 : decode cX8_tellsBy 108 = .ok (.bipush 71, 2) := by decide +kernel
theorem dX8_tellsBy_110 : decode cX8_tellsBy 110 = .ok (.invokevirtual 262, 3) := by decide +kernel
theorem dX8_tellsBy_113 : decode cX8_tellsBy 113 = .ok (.aload_n 0, 1) := by decide +kernel
theorem dX8_tellsBy_114 : decode cX8_tellsBy 114 = .ok (.aload_n 0, 1) := by decide +kernel
theorem dX8_tellsBy_115 : decode cX8_tellsBy 115 = .ok (.aload_n 0, 1) := by decide +kernel
theorem dX8_tellsBy_116 : decode cX8_tellsBy 116 = .ok (.getfield 265, 3) := by decide +kernel
theorem dX8_tellsBy_119 : decode cX8_tellsBy 119 = .ok (.iconst 0, 1) := by decide +kernel
theorem dX8_tellsBy_120 : decode cX8_tellsBy 120 = .ok (.invokevirtual 154, 3) := by decide +kernel
theorem dX8_tellsBy_123 : decode cX8_tellsBy 123 = .ok (.iload_n 2, 1) := by decide +kernel
theorem dX8_tellsBy_124 : decode cX8_tellsBy 124 = .ok (.invokevirtual 271, 3) := by decide +kernel
theorem dX8_tellsBy_127 : decode cX8_tellsBy 127 = .ok (.istore_n 3, 1) := by decide +kernel
theorem dX8_tellsBy_128 : decode cX8_tellsBy 128 = .ok (.iload_n 3, 1) := by decide +kernel
theorem dX8_tellsBy_129 : decode cX8_tellsBy 129 = .ok (.aload_n 0, 1) := by decide +kernel
theorem dX8_tellsBy_130 : decode cX8_tellsBy 130 = .ok (.bipush 6, 2) := by decide +kernel
theorem dX8_tellsBy_132 : decode cX8_tellsBy 132 = .ok (.invokestatic 210, 3) := by decide +kernel
theorem dX8_tellsBy_135 : decode cX8_tellsBy 135 = .ok (.iload_n 2, 1) := by decide +kernel
theorem dX8_tellsBy_136 : decode cX8_tellsBy 136 = .ok (.invokevirtual 277, 3) := by decide +kernel
theorem dX8_tellsBy_139 : decode cX8_tellsBy 139 = .ok (.isub, 1) := by decide +kernel
theorem dX8_tellsBy_140 : decode cX8_tellsBy 140 = .ok (.ireturn, 1) := by decide +kernel
theorem dX8_tellsBy_141 : decode cX8_tellsBy 141 = .ok (.aload_n 0, 1) := by decide +kernel
theorem dX8_tellsBy_142 : decode cX8_tellsBy 142 = .ok (.iload_n 1, 1) := by decide +kernel
theorem dX8_tellsBy_143 : decode cX8_tellsBy 143 = .ok (.invokestatic 210, 3) := by decide +kernel
theorem dX8_tellsBy_146 : decode cX8_tellsBy 146 = .ok (.iload_n 2, 1) := by decide +kernel
theorem dX8_tellsBy_147 : decode cX8_tellsBy 147 = .ok (.invokevirtual 277, 3) := by decide +kernel
theorem dX8_tellsBy_150 : decode cX8_tellsBy 150 = .ok (.ireturn, 1) := by decide +kernel
theorem dX8_voice_0 : decode cX8_voice 0 = .ok (.aload_n 0, 1) := by decide +kernel
theorem dX8_voice_1 : decode cX8_voice 1 = .ok (.iload_n 1, 1) := by decide +kernel
theorem dX8_voice_2 : decode cX8_voice 2 = .ok (.invokevirtual 203, 3) := by decide +kernel
theorem dX8_voice_5 : decode cX8_voice 5 = .ok (.ifCond .eq 15, 3) := by decide +kernel
theorem dX8_voice_8 : decode cX8_voice 8 = .ok (.iload_n 2, 1) := by decide +kernel
theorem dX8_voice_9 : decode cX8_voice 9 = .ok (.i2l, 1) := by decide +kernel
theorem dX8_voice_10 : decode cX8_voice 10 = .ok (.lconst 0, 1) := by decide +kernel
theorem dX8_voice_11 : decode cX8_voice 11 = .ok (.ldc2_w 280, 3) := by decide +kernel
theorem dX8_voice_14 : decode cX8_voice 14 = .ok (.invokestatic 53, 3) := by decide +kernel
theorem dX8_voice_17 : decode cX8_voice 17 = .ok (.ifCond .ne 9, 3) := by decide +kernel
theorem dX8_voice_20 : decode cX8_voice 20 = .ok (.aload_n 0, 1) := by decide +kernel
theorem dX8_voice_21 : decode cX8_voice 21 = .ok (.iconst 1, 1) := by decide +kernel
theorem dX8_voice_22 : decode cX8_voice 22 = .ok (.invokevirtual 134, 3) := by decide +kernel
theorem dX8_voice_25 : decode cX8_voice 25 = .ok (.ireturn, 1) := by decide +kernel
theorem dX8_voice_26 : decode cX8_voice 26 = .ok (.aload_n 0, 1) := by decide +kernel
theorem dX8_voice_27 : decode cX8_voice 27 = .ok (.iload_n 1, 1) := by decide +kernel
theorem dX8_voice_28 : decode cX8_voice 28 = .ok (.putfield 265, 3) := by decide +kernel
theorem dX8_voice_31 : decode cX8_voice 31 = .ok (.aload_n 0, 1) := by decide +kernel
theorem dX8_voice_32 : decode cX8_voice 32 = .ok (.iconst 0, 1) := by decide +kernel
theorem dX8_voice_33 : decode cX8_voice 33 = .ok (.putfield 259, 3) := by decide +kernel
theorem dX8_voice_36 : decode cX8_voice 36 = .ok (.aload_n 0, 1) := by decide +kernel
theorem dX8_voice_37 : decode cX8_voice 37 = .ok (.aload_n 0, 1) := by decide +kernel
theorem dX8_voice_38 : decode cX8_voice 38 = .ok (.getfield 265, 3) := by decide +kernel
theorem dX8_voice_41 : decode cX8_voice 41 = .ok (.iconst 0, 1) := by decide +kernel
theorem dX8_voice_42 : decode cX8_voice 42 = .ok (.invokevirtual 154, 3) := by decide +kernel
theorem dX8_voice_45 : decode cX8_voice 45 = .ok (.istore 4, 2) := by decide +kernel
theorem dX8_voice_47 : decode cX8_voice 47 = .ok (.iload_n 2, 1) := by decide +kernel
theorem dX8_voice_48 : decode cX8_voice 48 = .ok (.ifCond .ne 13, 3) := by decide +kernel
theorem dX8_voice_51 : decode cX8_voice 51 = .ok (.aload_n 0, 1) := by decide +kernel
theorem dX8_voice_52 : decode cX8_voice 52 = .ok (.iload 4, 2) := by decide +kernel
theorem dX8_voice_54 : decode cX8_voice 54 = .ok (.iload_n 3, 1) := by decide +kernel
theorem dX8_voice_55 : decode cX8_voice 55 = .ok (.invokevirtual 268, 3) := by decide +kernel
theorem dX8_voice_58 : decode cX8_voice 58 = .ok (.goto 40, 3) := by decide +kernel
theorem dX8_voice_61 : decode cX8_voice 61 = .ok (.iload_n 2, 1) := by decide +kernel
theorem dX8_voice_62 : decode cX8_voice 62 = .ok (.iconst 1, 1) := by decide +kernel
theorem dX8_voice_63 : decode cX8_voice 63 = .ok (.if_icmp .ne 13, 3) := by decide +kernel
theorem dX8_voice_66 : decode cX8_voice 66 = .ok (.aload_n 0, 1) := by decide +kernel
theorem dX8_voice_67 : decode cX8_voice 67 = .ok (.iload 4, 2) := by decide +kernel
theorem dX8_voice_69 : decode cX8_voice 69 = .ok (.iload_n 3, 1) := by decide +kernel
theorem dX8_voice_70 : decode cX8_voice 70 = .ok (.invokevirtual 271, 3) := by decide +kernel
theorem dX8_voice_73 : decode cX8_voice 73 = .ok (.goto 25, 3) := by decide +kernel
theorem dX8_voice_76 : decode cX8_voice 76 = .ok (.iload_n 2, 1) := by decide +kernel
theorem dX8_voice_77 : decode cX8_voice 77 = .ok (.iconst 2, 1) := by decide +kernel
theorem dX8_voice_78 : decode cX8_voice 78 = .ok (.if_icmp .ne 13, 3) := by decide +kernel
theorem dX8_voice_81 : decode cX8_voice 81 = .ok (.aload_n 0, 1) := by decide +kernel
theorem dX8_voice_82 : decode cX8_voice 82 = .ok (.iload 4, 2) := by decide +kernel
theorem dX8_voice_84 : decode cX8_voice 84 = .ok (.iload_n 3, 1) := by decide +kernel
theorem dX8_voice_85 : decode cX8_voice 85 = .ok (.invokevirtual 274, 3) := by decide +kernel
theorem dX8_voice_88 : decode cX8_voice 88 = .ok (.goto 10, 3) := by decide +kernel
theorem dX8_voice_91 : decode cX8_voice 91 = .ok (.aload_n 0, 1) := by decide +kernel
theorem dX8_voice_92 : decode cX8_voice 92 = .ok (.iload 4, 2) := by decide +kernel
theorem dX8_voice_94 : decode cX8_voice 94 = .ok (.iload_n 3, 1) := by decide +kernel
theorem dX8_voice_95 : decode cX8_voice 95 = .ok (.invokevirtual 277, 3) := by decide +kernel
theorem dX8_voice_98 : decode cX8_voice 98 = .ok (.ireturn, 1) := by decide +kernel
theorem dX8_trace_0 : decode cX8_trace 0 = .ok (.iload_n 1, 1) := by decide +kernel
theorem dX8_trace_1 : decode cX8_trace 1 = .ok (.i2l, 1) := by decide +kernel
theorem dX8_trace_2 : decode cX8_trace 2 = .ok (.lconst 0, 1) := by decide +kernel
theorem dX8_trace_3 : decode cX8_trace 3 = .ok (.aload_n 0, 1) := by decide +kernel
theorem dX8_trace_4 : decode cX8_trace 4 = .ok (.getfield 259, 3) := by decide +kernel
theorem dX8_trace_7 : decode cX8_trace 7 = .ok (.iconst 1, 1) := by decide +kernel
theorem dX8_trace_8 : decode cX8_trace 8 = .ok (.isub, 1) := by decide +kernel
theorem dX8_trace_9 : decode cX8_trace 9 = .ok (.i2l, 1) := by decide +kernel
theorem dX8_trace_10 : decode cX8_trace 10 = .ok (.invokestatic 53, 3) := by decide +kernel
theorem dX8_trace_13 : decode cX8_trace 13 = .ok (.ifCond .eq 12, 3) := by decide +kernel
theorem dX8_trace_16 : decode cX8_trace 16 = .ok (.aload_n 0, 1) := by decide +kernel
theorem dX8_trace_17 : decode cX8_trace 17 = .ok (.getfield 37, 3) := by decide +kernel
theorem dX8_trace_20 : decode cX8_trace 20 = .ok (.iload_n 1, 1) := by decide +kernel
theorem dX8_trace_21 : decode cX8_trace 21 = .ok (.iaload, 1) := by decide +kernel
theorem dX8_trace_22 : decode cX8_trace 22 = .ok (.goto 8, 3) := by decide +kernel
theorem dX8_trace_25 : decode cX8_trace 25 = .ok (.aload_n 0, 1) := by decide +kernel
theorem dX8_trace_26 : decode cX8_trace 26 = .ok (.iconst 2, 1) := by decide +kernel
theorem dX8_trace_27 : decode cX8_trace 27 = .ok (.invokevirtual 134, 3) := by decide +kernel
theorem dX8_trace_30 : decode cX8_trace 30 = .ok (.ireturn, 1) := by decide +kernel
theorem dX8_isSheet_0 : decode cX8_isSheet 0 = .ok (.iload_n 0, 1) := by decide +kernel
theorem dX8_isSheet_1 : decode cX8_isSheet 1 = .ok (.i2l, 1) := by decide +kernel
theorem dX8_isSheet_2 : decode cX8_isSheet 2 = .ok (.lconst 0, 1) := by decide +kernel
theorem dX8_isSheet_3 : decode cX8_isSheet 3 = .ok (.ldc2_w 280, 3) := by decide +kernel
theorem dX8_isSheet_6 : decode cX8_isSheet 6 = .ok (.invokestatic 53, 3) := by decide +kernel
theorem dX8_isSheet_9 : decode cX8_isSheet 9 = .ok (.ireturn, 1) := by decide +kernel
theorem dX8_sheet_0 : decode cX8_sheet 0 = .ok (.iload_n 1, 1) := by decide +kernel
theorem dX8_sheet_1 : decode cX8_sheet 1 = .ok (.invokestatic 247, 3) := by decide +kernel
theorem dX8_sheet_4 : decode cX8_sheet 4 = .ok (.ifCond .eq 25, 3) := by decide +kernel
theorem dX8_sheet_7 : decode cX8_sheet 7 = .ok (.iload_n 2, 1) := by decide +kernel
theorem dX8_sheet_8 : decode cX8_sheet 8 = .ok (.ifCond .eq 27, 3) := by decide +kernel
theorem dX8_sheet_11 : decode cX8_sheet 11 = .ok (.iload_n 2, 1) := by decide +kernel
theorem dX8_sheet_12 : decode cX8_sheet 12 = .ok (.bipush 8, 2) := by decide +kernel
theorem dX8_sheet_14 : decode cX8_sheet 14 = .ok (.if_icmp .eq 21, 3) := by decide +kernel
theorem dX8_sheet_17 : decode cX8_sheet 17 = .ok (.iload_n 2, 1) := by decide +kernel
theorem dX8_sheet_18 : decode cX8_sheet 18 = .ok (.bipush 16, 2) := by decide +kernel
theorem dX8_sheet_20 : decode cX8_sheet 20 = .ok (.if_icmp .eq 15, 3) := by decide +kernel
theorem dX8_sheet_23 : decode cX8_sheet 23 = .ok (.iload_n 2, 1) := by decide +kernel
theorem dX8_sheet_24 : decode cX8_sheet 24 = .ok (.bipush 32, 2) := by decide +kernel
theorem dX8_sheet_26 : decode cX8_sheet 26 = .ok (.if_icmp .eq 9, 3) := by decide +kernel
theorem dX8_sheet_29 : decode cX8_sheet 29 = .ok (.aload_n 0, 1) := by decide +kernel
theorem dX8_sheet_30 : decode cX8_sheet 30 = .ok (.iconst 1, 1) := by decide +kernel
theorem dX8_sheet_31 : decode cX8_sheet 31 = .ok (.invokevirtual 134, 3) := by decide +kernel
theorem dX8_sheet_34 : decode cX8_sheet 34 = .ok (.ireturn, 1) := by decide +kernel
theorem dX8_sheet_35 : decode cX8_sheet 35 = .ok (.iload_n 2, 1) := by decide +kernel
theorem dX8_sheet_36 : decode cX8_sheet 36 = .ok (.ifCond .eq 13, 3) := by decide +kernel
theorem dX8_sheet_39 : decode cX8_sheet 39 = .ok (.iload_n 3, 1) := by decide +kernel
theorem dX8_sheet_40 : decode cX8_sheet 40 = .ok (.ifCond .ge 9, 3) := by decide +kernel
theorem dX8_sheet_43 : decode cX8_sheet 43 = .ok (.aload_n 0, 1) := by decide +kernel
theorem dX8_sheet_44 : decode cX8_sheet 44 = .ok (.iconst 3, 1) := by decide +kernel
theorem dX8_sheet_45 : decode cX8_sheet 45 = .ok (.invokevirtual 134, 3) := by decide +kernel
theorem dX8_sheet_48 : decode cX8_sheet 48 = .ok (.ireturn, 1) := by decide +kernel
theorem dX8_sheet_49 : decode cX8_sheet 49 = .ok (.iload_n 2, 1) := by decide +kernel
theorem dX8_sheet_50 : decode cX8_sheet 50 = .ok (.ifCond .eq 15, 3) := by decide +kernel
theorem dX8_sheet_53 : decode cX8_sheet 53 = .ok (.iload_n 3, 1) := by decide +kernel
theorem dX8_sheet_54 : decode cX8_sheet 54 = .ok (.bipush 40, 2) := by decide +kernel
theorem dX8_sheet_56 : decode cX8_sheet 56 = .ok (.if_icmp .le 9, 3) := by decide +kernel
theorem dX8_sheet_59 : decode cX8_sheet 59 = .ok (.aload_n 0, 1) := by decide +kernel
theorem dX8_sheet_60 : decode cX8_sheet 60 = .ok (.iconst 1, 1) := by decide +kernel
theorem dX8_sheet_61 : decode cX8_sheet 61 = .ok (.invokevirtual 134, 3) := by decide +kernel
theorem dX8_sheet_64 : decode cX8_sheet 64 = .ok (.ireturn, 1) := by decide +kernel
theorem dX8_sheet_65 : decode cX8_sheet 65 = .ok (.aload_n 0, 1) := by decide +kernel
theorem dX8_sheet_66 : decode cX8_sheet 66 = .ok (.getfield 40, 3) := by decide +kernel
theorem dX8_sheet_69 : decode cX8_sheet 69 = .ok (.iload_n 1, 1) := by decide +kernel
theorem dX8_sheet_70 : decode cX8_sheet 70 = .ok (.iload_n 2, 1) := by decide +kernel
theorem dX8_sheet_71 : decode cX8_sheet 71 = .ok (.iastore, 1) := by decide +kernel
theorem dX8_sheet_72 : decode cX8_sheet 72 = .ok (.aload_n 0, 1) := by decide +kernel
theorem dX8_sheet_73 : decode cX8_sheet 73 = .ok (.getfield 43, 3) := by decide +kernel
theorem dX8_sheet_76 : decode cX8_sheet 76 = .ok (.iload_n 1, 1) := by decide +kernel
theorem dX8_sheet_77 : decode cX8_sheet 77 = .ok (.iload_n 2, 1) := by decide +kernel
theorem dX8_sheet_78 : decode cX8_sheet 78 = .ok (.ifCond .ne 7, 3) := by decide +kernel
theorem dX8_sheet_81 : decode cX8_sheet 81 = .ok (.iconst 0, 1) := by decide +kernel
theorem dX8_sheet_82 : decode cX8_sheet 82 = .ok (.goto 4, 3) := by decide +kernel
theorem dX8_sheet_85 : decode cX8_sheet 85 = .ok (.iload_n 3, 1) := by decide +kernel
theorem dX8_sheet_86 : decode cX8_sheet 86 = .ok (.iastore, 1) := by decide +kernel
theorem dX8_sheet_87 : decode cX8_sheet 87 = .ok (.iconst 0, 1) := by decide +kernel
theorem dX8_sheet_88 : decode cX8_sheet 88 = .ok (.istore 4, 2) := by decide +kernel
theorem dX8_sheet_90 : decode cX8_sheet 90 = .ok (.iload 4, 2) := by decide +kernel
theorem dX8_sheet_92 : decode cX8_sheet 92 = .ok (.bipush 40, 2) := by decide +kernel
theorem dX8_sheet_94 : decode cX8_sheet 94 = .ok (.if_icmp .ge 22, 3) := by decide +kernel
theorem dX8_sheet_97 : decode cX8_sheet 97 = .ok (.aload_n 0, 1) := by decide +kernel
theorem dX8_sheet_98 : decode cX8_sheet 98 = .ok (.getfield 46, 3) := by decide +kernel
theorem dX8_sheet_101 : decode cX8_sheet 101 = .ok (.bipush 40, 2) := by decide +kernel
theorem dX8_sheet_103 : decode cX8_sheet 103 = .ok (.iload_n 1, 1) := by decide +kernel
theorem dX8_sheet_104 : decode cX8_sheet 104 = .ok (.imul, 1) := by decide +kernel
theorem dX8_sheet_105 : decode cX8_sheet 105 = .ok (.iload 4, 2) := by decide +kernel
theorem dX8_sheet_107 : decode cX8_sheet 107 = .ok (.iadd, 1) := by decide +kernel
theorem dX8_sheet_108 : decode cX8_sheet 108 = .ok (.iconst 0, 1) := by decide +kernel
theorem dX8_sheet_109 : decode cX8_sheet 109 = .ok (.iastore, 1) := by decide +kernel
theorem dX8_sheet_110 : decode cX8_sheet 110 = .ok (.iinc 4 1, 3) := by decide +kernel
theorem dX8_sheet_113 : decode cX8_sheet 113 = .ok (.goto (-23), 3) := by decide +kernel
theorem dX8_sheet_116 : decode cX8_sheet 116 = .ok (.iconst 1, 1) := by decide +kernel
theorem dX8_sheet_117 : decode cX8_sheet 117 = .ok (.ireturn, 1) := by decide +kernel
theorem dX8_put_0 : decode cX8_put 0 = .ok (.iload_n 1, 1) := by decide +kernel
theorem dX8_put_1 : decode cX8_put 1 = .ok (.invokestatic 247, 3) := by decide +kernel
theorem dX8_put_4 : decode cX8_put 4 = .ok (.ifCond .ne 9, 3) := by decide +kernel
theorem dX8_put_7 : decode cX8_put 7 = .ok (.aload_n 0, 1) := by decide +kernel
theorem dX8_put_8 : decode cX8_put 8 = .ok (.iconst 1, 1) := by decide +kernel
theorem dX8_put_9 : decode cX8_put 9 = .ok (.invokevirtual 134, 3) := by decide +kernel
theorem dX8_put_12 : decode cX8_put 12 = .ok (.ireturn, 1) := by decide +kernel
theorem dX8_put_13 : decode cX8_put 13 = .ok (.aload_n 0, 1) := by decide +kernel
theorem dX8_put_14 : decode cX8_put 14 = .ok (.getfield 40, 3) := by decide +kernel
theorem dX8_put_17 : decode cX8_put 17 = .ok (.iload_n 1, 1) := by decide +kernel
theorem dX8_put_18 : decode cX8_put 18 = .ok (.iaload, 1) := by decide +kernel
theorem dX8_put_19 : decode cX8_put 19 = .ok (.ifCond .ne 9, 3) := by decide +kernel
theorem dX8_put_22 : decode cX8_put 22 = .ok (.aload_n 0, 1) := by decide +kernel
theorem dX8_put_23 : decode cX8_put 23 = .ok (.iconst 2, 1) := by decide +kernel
theorem dX8_put_24 : decode cX8_put 24 = .ok (.invokevirtual 134, 3) := by decide +kernel
theorem dX8_put_27 : decode cX8_put 27 = .ok (.ireturn, 1) := by decide +kernel
theorem dX8_put_28 : decode cX8_put 28 = .ok (.iload_n 2, 1) := by decide +kernel
theorem dX8_put_29 : decode cX8_put 29 = .ok (.i2l, 1) := by decide +kernel
theorem dX8_put_30 : decode cX8_put 30 = .ok (.lconst 0, 1) := by decide +kernel
theorem dX8_put_31 : decode cX8_put 31 = .ok (.aload_n 0, 1) := by decide +kernel
theorem dX8_put_32 : decode cX8_put 32 = .ok (.getfield 43, 3) := by decide +kernel
theorem dX8_put_35 : decode cX8_put 35 = .ok (.iload_n 1, 1) := by decide +kernel
theorem dX8_put_36 : decode cX8_put 36 = .ok (.iaload, 1) := by decide +kernel
theorem dX8_put_37 : decode cX8_put 37 = .ok (.iconst 1, 1) := by decide +kernel
theorem dX8_put_38 : decode cX8_put 38 = .ok (.isub, 1) := by decide +kernel
theorem dX8_put_39 : decode cX8_put 39 = .ok (.i2l, 1) := by decide +kernel
theorem dX8_put_40 : decode cX8_put 40 = .ok (.invokestatic 53, 3) := by decide +kernel
theorem dX8_put_43 : decode cX8_put 43 = .ok (.ifCond .ne 9, 3) := by decide +kernel
theorem dX8_put_46 : decode cX8_put 46 = .ok (.aload_n 0, 1) := by decide +kernel
theorem dX8_put_47 : decode cX8_put 47 = .ok (.iconst 1, 1) := by decide +kernel
theorem dX8_put_48 : decode cX8_put 48 = .ok (.invokevirtual 134, 3) := by decide +kernel
theorem dX8_put_51 : decode cX8_put 51 = .ok (.ireturn, 1) := by decide +kernel
theorem dX8_put_52 : decode cX8_put 52 = .ok (.aload_n 0, 1) := by decide +kernel
theorem dX8_put_53 : decode cX8_put 53 = .ok (.getfield 46, 3) := by decide +kernel
theorem dX8_put_56 : decode cX8_put 56 = .ok (.bipush 40, 2) := by decide +kernel
theorem dX8_put_58 : decode cX8_put 58 = .ok (.iload_n 1, 1) := by decide +kernel
theorem dX8_put_59 : decode cX8_put 59 = .ok (.imul, 1) := by decide +kernel
theorem dX8_put_60 : decode cX8_put 60 = .ok (.iload_n 2, 1) := by decide +kernel
theorem dX8_put_61 : decode cX8_put 61 = .ok (.iadd, 1) := by decide +kernel
theorem dX8_put_62 : decode cX8_put 62 = .ok (.aload_n 0, 1) := by decide +kernel
theorem dX8_put_63 : decode cX8_put 63 = .ok (.getfield 40, 3) := by decide +kernel
theorem dX8_put_66 : decode cX8_put 66 = .ok (.iload_n 1, 1) := by decide +kernel
theorem dX8_put_67 : decode cX8_put 67 = .ok (.iaload, 1) := by decide +kernel
theorem dX8_put_68 : decode cX8_put 68 = .ok (.bipush 8, 2) := by decide +kernel
theorem dX8_put_70 : decode cX8_put 70 = .ok (.if_icmp .ne 8, 3) := by decide +kernel
theorem dX8_put_73 : decode cX8_put 73 = .ok (.iload_n 3, 1) := by decide +kernel
theorem dX8_put_74 : decode cX8_put 74 = .ok (.i2b, 1) := by decide +kernel
theorem dX8_put_75 : decode cX8_put 75 = .ok (.goto 20, 3) := by decide +kernel
theorem dX8_put_78 : decode cX8_put 78 = .ok (.aload_n 0, 1) := by decide +kernel
theorem dX8_put_79 : decode cX8_put 79 = .ok (.getfield 40, 3) := by decide +kernel
theorem dX8_put_82 : decode cX8_put 82 = .ok (.iload_n 1, 1) := by decide +kernel
theorem dX8_put_83 : decode cX8_put 83 = .ok (.iaload, 1) := by decide +kernel
theorem dX8_put_84 : decode cX8_put 84 = .ok (.bipush 16, 2) := by decide +kernel
theorem dX8_put_86 : decode cX8_put 86 = .ok (.if_icmp .ne 8, 3) := by decide +kernel
theorem dX8_put_89 : decode cX8_put 89 = .ok (.iload_n 3, 1) := by decide +kernel
theorem dX8_put_90 : decode cX8_put 90 = .ok (.i2s, 1) := by decide +kernel
theorem dX8_put_91 : decode cX8_put 91 = .ok (.goto 4, 3) := by decide +kernel
theorem dX8_put_94 : decode cX8_put 94 = .ok (.iload_n 3, 1) := by decide +kernel
theorem dX8_put_95 : decode cX8_put 95 = .ok (.iastore, 1) := by decide +kernel
theorem dX8_put_96 : decode cX8_put 96 = .ok (.iconst 1, 1) := by decide +kernel
theorem dX8_put_97 : decode cX8_put 97 = .ok (.ireturn, 1) := by decide +kernel
theorem dX8_move_0 : decode cX8_move 0 = .ok (.iload_n 1, 1) := by decide +kernel
theorem dX8_move_1 : decode cX8_move 1 = .ok (.invokestatic 247, 3) := by decide +kernel
theorem dX8_move_4 : decode cX8_move 4 = .ok (.ifCond .eq 10, 3) := by decide +kernel
theorem dX8_move_7 : decode cX8_move 7 = .ok (.iload_n 3, 1) := by decide +kernel
theorem dX8_move_8 : decode cX8_move 8 = .ok (.invokestatic 247, 3) := by decide +kernel
theorem dX8_move_11 : decode cX8_move 11 = .ok (.ifCond .ne 9, 3) := by decide +kernel
theorem dX8_move_14 : decode cX8_move 14 = .ok (.aload_n 0, 1) := by decide +kernel
theorem dX8_move_15 : decode cX8_move 15 = .ok (.iconst 1, 1) := by decide +kernel
theorem dX8_move_16 : decode cX8_move 16 = .ok (.invokevirtual 134, 3) := by decide +kernel
theorem dX8_move_19 : decode cX8_move 19 = .ok (.ireturn, 1) := by decide +kernel
theorem dX8_move_20 : decode cX8_move 20 = .ok (.aload_n 0, 1) := by decide +kernel
theorem dX8_move_21 : decode cX8_move 21 = .ok (.getfield 40, 3) := by decide +kernel
theorem dX8_move_24 : decode cX8_move 24 = .ok (.iload_n 1, 1) := by decide +kernel
theorem dX8_move_25 : decode cX8_move 25 = .ok (.iaload, 1) := by decide +kernel
theorem dX8_move_26 : decode cX8_move 26 = .ok (.ifCond .eq 12, 3) := by decide +kernel
theorem dX8_move_29 : decode cX8_move 29 = .ok (.aload_n 0, 1) := by decide +kernel
theorem dX8_move_30 : decode cX8_move 30 = .ok (.getfield 40, 3) := by decide +kernel
theorem dX8_move_33 : decode cX8_move 33 = .ok (.iload_n 3, 1) := by decide +kernel
theorem dX8_move_34 : decode cX8_move 34 = .ok (.iaload, 1) := by decide +kernel
theorem dX8_move_35 : decode cX8_move 35 = .ok (.ifCond .ne 9, 3) := by decide +kernel
theorem dX8_move_38 : decode cX8_move 38 = .ok (.aload_n 0, 1) := by decide +kernel
theorem dX8_move_39 : decode cX8_move 39 = .ok (.iconst 2, 1) := by decide +kernel
theorem dX8_move_40 : decode cX8_move 40 = .ok (.invokevirtual 134, 3) := by decide +kernel
theorem dX8_move_43 : decode cX8_move 43 = .ok (.ireturn, 1) := by decide +kernel
theorem dX8_move_44 : decode cX8_move 44 = .ok (.aload_n 0, 1) := by decide +kernel
theorem dX8_move_45 : decode cX8_move 45 = .ok (.getfield 40, 3) := by decide +kernel
theorem dX8_move_48 : decode cX8_move 48 = .ok (.iload_n 1, 1) := by decide +kernel
theorem dX8_move_49 : decode cX8_move 49 = .ok (.iaload, 1) := by decide +kernel
theorem dX8_move_50 : decode cX8_move 50 = .ok (.aload_n 0, 1) := by decide +kernel
theorem dX8_move_51 : decode cX8_move 51 = .ok (.getfield 40, 3) := by decide +kernel
theorem dX8_move_54 : decode cX8_move 54 = .ok (.iload_n 3, 1) := by decide +kernel
theorem dX8_move_55 : decode cX8_move 55 = .ok (.iaload, 1) := by decide +kernel
theorem dX8_move_56 : decode cX8_move 56 = .ok (.if_icmp .eq 9, 3) := by decide +kernel
theorem dX8_move_59 : decode cX8_move 59 = .ok (.aload_n 0, 1) := by decide +kernel
theorem dX8_move_60 : decode cX8_move 60 = .ok (.iconst 5, 1) := by decide +kernel
theorem dX8_move_61 : decode cX8_move 61 = .ok (.invokevirtual 134, 3) := by decide +kernel
theorem dX8_move_64 : decode cX8_move 64 = .ok (.ireturn, 1) := by decide +kernel
theorem dX8_move_65 : decode cX8_move 65 = .ok (.iload 5, 2) := by decide +kernel
theorem dX8_move_67 : decode cX8_move 67 = .ok (.ifCond .lt 39, 3) := by decide +kernel
theorem dX8_move_70 : decode cX8_move 70 = .ok (.iload_n 2, 1) := by decide +kernel
theorem dX8_move_71 : decode cX8_move 71 = .ok (.ifCond .lt 35, 3) := by decide +kernel
theorem dX8_move_74 : decode cX8_move 74 = .ok (.iload 4, 2) := by decide +kernel
theorem dX8_move_76 : decode cX8_move 76 = .ok (.ifCond .lt 30, 3) := by decide +kernel
theorem dX8_move_79 : decode cX8_move 79 = .ok (.iload 5, 2) := by decide +kernel
theorem dX8_move_81 : decode cX8_move 81 = .ok (.aload_n 0, 1) := by decide +kernel
theorem dX8_move_82 : decode cX8_move 82 = .ok (.getfield 43, 3) := by decide +kernel
theorem dX8_move_85 : decode cX8_move 85 = .ok (.iload_n 1, 1) := by decide +kernel
theorem dX8_move_86 : decode cX8_move 86 = .ok (.iaload, 1) := by decide +kernel
theorem dX8_move_87 : decode cX8_move 87 = .ok (.iload_n 2, 1) := by decide +kernel
theorem dX8_move_88 : decode cX8_move 88 = .ok (.isub, 1) := by decide +kernel
theorem dX8_move_89 : decode cX8_move 89 = .ok (.if_icmp .gt 17, 3) := by decide +kernel
theorem dX8_move_92 : decode cX8_move 92 = .ok (.iload 5, 2) := by decide +kernel
theorem dX8_move_94 : decode cX8_move 94 = .ok (.aload_n 0, 1) := by decide +kernel
theorem dX8_move_95 : decode cX8_move 95 = .ok (.getfield 43, 3) := by decide +kernel
theorem dX8_move_98 : decode cX8_move 98 = .ok (.iload_n 3, 1) := by decide +kernel
theorem dX8_move_99 : decode cX8_move 99 = .ok (.iaload, 1) := by decide +kernel
theorem dX8_move_100 : decode cX8_move 100 = .ok (.iload 4, 2) := by decide +kernel
theorem dX8_move_102 : decode cX8_move 102 = .ok (.isub, 1) := by decide +kernel
theorem dX8_move_103 : decode cX8_move 103 = .ok (.if_icmp .le 9, 3) := by decide +kernel
theorem dX8_move_106 : decode cX8_move 106 = .ok (.aload_n 0, 1) := by decide +kernel
theorem dX8_move_107 : decode cX8_move 107 = .ok (.iconst 1, 1) := by decide +kernel
theorem dX8_move_108 : decode cX8_move 108 = .ok (.invokevirtual 134, 3) := by decide +kernel
theorem dX8_move_111 : decode cX8_move 111 = .ok (.ireturn, 1) := by decide +kernel
theorem dX8_move_112 : decode cX8_move 112 = .ok (.iconst 0, 1) := by decide +kernel
theorem dX8_move_113 : decode cX8_move 113 = .ok (.istore 6, 2) := by decide +kernel
theorem dX8_move_115 : decode cX8_move 115 = .ok (.iload 6, 2) := by decide +kernel
theorem dX8_move_117 : decode cX8_move 117 = .ok (.iload 5, 2) := by decide +kernel
theorem dX8_move_119 : decode cX8_move 119 = .ok (.if_icmp .ge 30, 3) := by decide +kernel
theorem dX8_move_122 : decode cX8_move 122 = .ok (.aload_n 0, 1) := by decide +kernel
theorem dX8_move_123 : decode cX8_move 123 = .ok (.getfield 49, 3) := by decide +kernel
theorem dX8_move_126 : decode cX8_move 126 = .ok (.iload 6, 2) := by decide +kernel
theorem dX8_move_128 : decode cX8_move 128 = .ok (.aload_n 0, 1) := by decide +kernel
theorem dX8_move_129 : decode cX8_move 129 = .ok (.getfield 46, 3) := by decide +kernel
theorem dX8_move_132 : decode cX8_move 132 = .ok (.bipush 40, 2) := by decide +kernel
theorem dX8_move_134 : decode cX8_move 134 = .ok (.iload_n 1, 1) := by decide +kernel
theorem dX8_move_135 : decode cX8_move 135 = .ok (.imul, 1) := by decide +kernel
theorem dX8_move_136 : decode cX8_move 136 = .ok (.iload_n 2, 1) := by decide +kernel
theorem dX8_move_137 : decode cX8_move 137 = .ok (.iadd, 1) := by decide +kernel
theorem dX8_move_138 : decode cX8_move 138 = .ok (.iload 6, 2) := by decide +kernel
theorem dX8_move_140 : decode cX8_move 140 = .ok (.iadd, 1) := by decide +kernel
theorem dX8_move_141 : decode cX8_move 141 = .ok (.iaload, 1) := by decide +kernel
theorem dX8_move_142 : decode cX8_move 142 = .ok (.iastore, 1) := by decide +kernel
theorem dX8_move_143 : decode cX8_move 143 = .ok (.iinc 6 1, 3) := by decide +kernel
theorem dX8_move_146 : decode cX8_move 146 = .ok (.goto (-31), 3) := by decide +kernel
theorem dX8_move_149 : decode cX8_move 149 = .ok (.iconst 0, 1) := by decide +kernel
theorem dX8_move_150 : decode cX8_move 150 = .ok (.istore 6, 2) := by decide +kernel
theorem dX8_move_152 : decode cX8_move 152 = .ok (.iload 6, 2) := by decide +kernel
theorem dX8_move_154 : decode cX8_move 154 = .ok (.iload 5, 2) := by decide +kernel
theorem dX8_move_156 : decode cX8_move 156 = .ok (.if_icmp .ge 31, 3) := by decide +kernel
theorem dX8_move_159 : decode cX8_move 159 = .ok (.aload_n 0, 1) := by decide +kernel
theorem dX8_move_160 : decode cX8_move 160 = .ok (.getfield 46, 3) := by decide +kernel
theorem dX8_move_163 : decode cX8_move 163 = .ok (.bipush 40, 2) := by decide +kernel
theorem dX8_move_165 : decode cX8_move 165 = .ok (.iload_n 3, 1) := by decide +kernel
theorem dX8_move_166 : decode cX8_move 166 = .ok (.imul, 1) := by decide +kernel
theorem dX8_move_167 : decode cX8_move 167 = .ok (.iload 4, 2) := by decide +kernel
theorem dX8_move_169 : decode cX8_move 169 = .ok (.iadd, 1) := by decide +kernel
theorem dX8_move_170 : decode cX8_move 170 = .ok (.iload 6, 2) := by decide +kernel
theorem dX8_move_172 : decode cX8_move 172 = .ok (.iadd, 1) := by decide +kernel
theorem dX8_move_173 : decode cX8_move 173 = .ok (.aload_n 0, 1) := by decide +kernel
theorem dX8_move_174 : decode cX8_move 174 = .ok (.getfield 49, 3) := by decide +kernel
theorem dX8_move_177 : decode cX8_move 177 = .ok (.iload 6, 2) := by decide +kernel
theorem dX8_move_179 : decode cX8_move 179 = .ok (.iaload, 1) := by decide +kernel
theorem dX8_move_180 : decode cX8_move 180 = .ok (.iastore, 1) := by decide +kernel
theorem dX8_move_181 : decode cX8_move 181 = .ok (.iinc 6 1, 3) := by decide +kernel
theorem dX8_move_184 : decode cX8_move 184 = .ok (.goto (-32), 3) := by decide +kernel
theorem dX8_move_187 : decode cX8_move 187 = .ok (.iload 5, 2) := by decide +kernel
theorem dX8_move_189 : decode cX8_move 189 = .ok (.ireturn, 1) := by decide +kernel
theorem dX8_heats_0 : decode cX8_heats 0 = .ok (.iload_n 1, 1) := by decide +kernel
theorem dX8_heats_1 : decode cX8_heats 1 = .ok (.invokestatic 247, 3) := by decide +kernel
theorem dX8_heats_4 : decode cX8_heats 4 = .ok (.ifCond .ne 9, 3) := by decide +kernel
theorem dX8_heats_7 : decode cX8_heats 7 = .ok (.aload_n 0, 1) := by decide +kernel
theorem dX8_heats_8 : decode cX8_heats 8 = .ok (.iconst 1, 1) := by decide +kernel
theorem dX8_heats_9 : decode cX8_heats 9 = .ok (.invokevirtual 134, 3) := by decide +kernel
theorem dX8_heats_12 : decode cX8_heats 12 = .ok (.ireturn, 1) := by decide +kernel
theorem dX8_heats_13 : decode cX8_heats 13 = .ok (.aload_n 0, 1) := by decide +kernel
theorem dX8_heats_14 : decode cX8_heats 14 = .ok (.getfield 40, 3) := by decide +kernel
theorem dX8_heats_17 : decode cX8_heats 17 = .ok (.iload_n 1, 1) := by decide +kernel
theorem dX8_heats_18 : decode cX8_heats 18 = .ok (.iaload, 1) := by decide +kernel
theorem dX8_heats_19 : decode cX8_heats 19 = .ok (.ifCond .ne 9, 3) := by decide +kernel
theorem dX8_heats_22 : decode cX8_heats 22 = .ok (.aload_n 0, 1) := by decide +kernel
theorem dX8_heats_23 : decode cX8_heats 23 = .ok (.iconst 2, 1) := by decide +kernel
theorem dX8_heats_24 : decode cX8_heats 24 = .ok (.invokevirtual 134, 3) := by decide +kernel
theorem dX8_heats_27 : decode cX8_heats 27 = .ok (.ireturn, 1) := by decide +kernel
theorem dX8_heats_28 : decode cX8_heats 28 = .ok (.iconst 0, 1) := by decide +kernel
theorem dX8_heats_29 : decode cX8_heats 29 = .ok (.istore_n 2, 1) := by decide +kernel
theorem dX8_heats_30 : decode cX8_heats 30 = .ok (.iload_n 2, 1) := by decide +kernel
theorem dX8_heats_31 : decode cX8_heats 31 = .ok (.aload_n 0, 1) := by decide +kernel
theorem dX8_heats_32 : decode cX8_heats 32 = .ok (.getfield 43, 3) := by decide +kernel
theorem dX8_heats_35 : decode cX8_heats 35 = .ok (.iload_n 1, 1) := by decide +kernel
theorem dX8_heats_36 : decode cX8_heats 36 = .ok (.iaload, 1) := by decide +kernel
theorem dX8_heats_37 : decode cX8_heats 37 = .ok (.if_icmp .ge 57, 3) := by decide +kernel
theorem dX8_heats_40 : decode cX8_heats 40 = .ok (.iload_n 2, 1) := by decide +kernel
theorem dX8_heats_41 : decode cX8_heats 41 = .ok (.bipush 16, 2) := by decide +kernel
theorem dX8_heats_43 : decode cX8_heats 43 = .ok (.if_icmp .ge 51, 3) := by decide +kernel
theorem dX8_heats_46 : decode cX8_heats 46 = .ok (.aload_n 0, 1) := by decide +kernel
theorem dX8_heats_47 : decode cX8_heats 47 = .ok (.getfield 46, 3) := by decide +kernel
theorem dX8_heats_50 : decode cX8_heats 50 = .ok (.bipush 40, 2) := by decide +kernel
theorem dX8_heats_52 : decode cX8_heats 52 = .ok (.iload_n 1, 1) := by decide +kernel
theorem dX8_heats_53 : decode cX8_heats 53 = .ok (.imul, 1) := by decide +kernel
theorem dX8_heats_54 : decode cX8_heats 54 = .ok (.iload_n 2, 1) := by decide +kernel
theorem dX8_heats_55 : decode cX8_heats 55 = .ok (.iadd, 1) := by decide +kernel
theorem dX8_heats_56 : decode cX8_heats 56 = .ok (.iaload, 1) := by decide +kernel
theorem dX8_heats_57 : decode cX8_heats 57 = .ok (.i2l, 1) := by decide +kernel
theorem dX8_heats_58 : decode cX8_heats 58 = .ok (.lconst 0, 1) := by decide +kernel
theorem dX8_heats_59 : decode cX8_heats 59 = .ok (.ldc2_w 185, 3) := by decide +kernel
theorem dX8_heats_62 : decode cX8_heats 62 = .ok (.invokestatic 53, 3) := by decide +kernel
theorem dX8_heats_65 : decode cX8_heats 65 = .ok (.ifCond .eq 29, 3) := by decide +kernel
theorem dX8_heats_68 : decode cX8_heats 68 = .ok (.aload_n 0, 1) := by decide +kernel
theorem dX8_heats_69 : decode cX8_heats 69 = .ok (.getfield 7, 3) := by decide +kernel
theorem dX8_heats_72 : decode cX8_heats 72 = .ok (.bipush 9, 2) := by decide +kernel
theorem dX8_heats_74 : decode cX8_heats 74 = .ok (.iload_n 2, 1) := by decide +kernel
theorem dX8_heats_75 : decode cX8_heats 75 = .ok (.iadd, 1) := by decide +kernel
theorem dX8_heats_76 : decode cX8_heats 76 = .ok (.aload_n 0, 1) := by decide +kernel
theorem dX8_heats_77 : decode cX8_heats 77 = .ok (.getfield 46, 3) := by decide +kernel
theorem dX8_heats_80 : decode cX8_heats 80 = .ok (.bipush 40, 2) := by decide +kernel
theorem dX8_heats_82 : decode cX8_heats 82 = .ok (.iload_n 1, 1) := by decide +kernel
theorem dX8_heats_83 : decode cX8_heats 83 = .ok (.imul, 1) := by decide +kernel
theorem dX8_heats_84 : decode cX8_heats 84 = .ok (.iload_n 2, 1) := by decide +kernel
theorem dX8_heats_85 : decode cX8_heats 85 = .ok (.iadd, 1) := by decide +kernel
theorem dX8_heats_86 : decode cX8_heats 86 = .ok (.iaload, 1) := by decide +kernel
theorem dX8_heats_87 : decode cX8_heats 87 = .ok (.iastore, 1) := by decide +kernel
theorem dX8_heats_88 : decode cX8_heats 88 = .ok (.iinc 2 1, 3) := by decide +kernel
theorem dX8_heats_91 : decode cX8_heats 91 = .ok (.goto (-61), 3) := by decide +kernel
theorem dX8_heats_94 : decode cX8_heats 94 = .ok (.iload_n 2, 1) := by decide +kernel
theorem dX8_heats_95 : decode cX8_heats 95 = .ok (.ireturn, 1) := by decide +kernel
theorem dX8_judge_0 : decode cX8_judge 0 = .ok (.iload_n 1, 1) := by decide +kernel
theorem dX8_judge_1 : decode cX8_judge 1 = .ok (.invokestatic 247, 3) := by decide +kernel
theorem dX8_judge_4 : decode cX8_judge 4 = .ok (.ifCond .ne 9, 3) := by decide +kernel
theorem dX8_judge_7 : decode cX8_judge 7 = .ok (.aload_n 0, 1) := by decide +kernel
theorem dX8_judge_8 : decode cX8_judge 8 = .ok (.iconst 1, 1) := by decide +kernel
theorem dX8_judge_9 : decode cX8_judge 9 = .ok (.invokevirtual 134, 3) := by decide +kernel
theorem dX8_judge_12 : decode cX8_judge 12 = .ok (.ireturn, 1) := by decide +kernel
theorem dX8_judge_13 : decode cX8_judge 13 = .ok (.aload_n 0, 1) := by decide +kernel
theorem dX8_judge_14 : decode cX8_judge 14 = .ok (.getfield 40, 3) := by decide +kernel
theorem dX8_judge_17 : decode cX8_judge 17 = .ok (.iload_n 1, 1) := by decide +kernel
theorem dX8_judge_18 : decode cX8_judge 18 = .ok (.iaload, 1) := by decide +kernel
theorem dX8_judge_19 : decode cX8_judge 19 = .ok (.ifCond .ne 9, 3) := by decide +kernel
theorem dX8_judge_22 : decode cX8_judge 22 = .ok (.aload_n 0, 1) := by decide +kernel
theorem dX8_judge_23 : decode cX8_judge 23 = .ok (.iconst 2, 1) := by decide +kernel
theorem dX8_judge_24 : decode cX8_judge 24 = .ok (.invokevirtual 134, 3) := by decide +kernel
theorem dX8_judge_27 : decode cX8_judge 27 = .ok (.ireturn, 1) := by decide +kernel
theorem dX8_judge_28 : decode cX8_judge 28 = .ok (.iconst 0, 1) := by decide +kernel
theorem dX8_judge_29 : decode cX8_judge 29 = .ok (.istore_n 2, 1) := by decide +kernel
theorem dX8_judge_30 : decode cX8_judge 30 = .ok (.iload_n 2, 1) := by decide +kernel
theorem dX8_judge_31 : decode cX8_judge 31 = .ok (.aload_n 0, 1) := by decide +kernel
theorem dX8_judge_32 : decode cX8_judge 32 = .ok (.getfield 43, 3) := by decide +kernel
theorem dX8_judge_35 : decode cX8_judge 35 = .ok (.iload_n 1, 1) := by decide +kernel
theorem dX8_judge_36 : decode cX8_judge 36 = .ok (.iaload, 1) := by decide +kernel
theorem dX8_judge_37 : decode cX8_judge 37 = .ok (.if_icmp .ge 39, 3) := by decide +kernel
theorem dX8_judge_40 : decode cX8_judge 40 = .ok (.iload_n 2, 1) := by decide +kernel
theorem dX8_judge_41 : decode cX8_judge 41 = .ok (.aload_n 0, 1) := by decide +kernel
theorem dX8_judge_42 : decode cX8_judge 42 = .ok (.getfield 7, 3) := by decide +kernel
theorem dX8_judge_45 : decode cX8_judge 45 = .ok (.iconst 0, 1) := by decide +kernel
theorem dX8_judge_46 : decode cX8_judge 46 = .ok (.iaload, 1) := by decide +kernel
theorem dX8_judge_47 : decode cX8_judge 47 = .ok (.if_icmp .ge 29, 3) := by decide +kernel
theorem dX8_judge_50 : decode cX8_judge 50 = .ok (.aload_n 0, 1) := by decide +kernel
theorem dX8_judge_51 : decode cX8_judge 51 = .ok (.getfield 46, 3) := by decide +kernel
theorem dX8_judge_54 : decode cX8_judge 54 = .ok (.bipush 40, 2) := by decide +kernel
theorem dX8_judge_56 : decode cX8_judge 56 = .ok (.iload_n 1, 1) := by decide +kernel
theorem dX8_judge_57 : decode cX8_judge 57 = .ok (.imul, 1) := by decide +kernel
theorem dX8_judge_58 : decode cX8_judge 58 = .ok (.iload_n 2, 1) := by decide +kernel
theorem dX8_judge_59 : decode cX8_judge 59 = .ok (.iadd, 1) := by decide +kernel
theorem dX8_judge_60 : decode cX8_judge 60 = .ok (.iaload, 1) := by decide +kernel
theorem dX8_judge_61 : decode cX8_judge 61 = .ok (.aload_n 0, 1) := by decide +kernel
theorem dX8_judge_62 : decode cX8_judge 62 = .ok (.iload_n 2, 1) := by decide +kernel
theorem dX8_judge_63 : decode cX8_judge 63 = .ok (.iconst 2, 1) := by decide +kernel
theorem dX8_judge_64 : decode cX8_judge 64 = .ok (.invokevirtual 154, 3) := by decide +kernel
theorem dX8_judge_67 : decode cX8_judge 67 = .ok (.if_icmp .ne 9, 3) := by decide +kernel
theorem dX8_judge_70 : decode cX8_judge 70 = .ok (.iinc 2 1, 3) := by decide +kernel
theorem dX8_judge_73 : decode cX8_judge 73 = .ok (.goto (-43), 3) := by decide +kernel
theorem dX8_judge_76 : decode cX8_judge 76 = .ok (.iload_n 2, 1) := by decide +kernel
theorem dX8_judge_77 : decode cX8_judge 77 = .ok (.aload_n 0, 1) := by decide +kernel
theorem dX8_judge_78 : decode cX8_judge 78 = .ok (.getfield 43, 3) := by decide +kernel
theorem dX8_judge_81 : decode cX8_judge 81 = .ok (.iload_n 1, 1) := by decide +kernel
theorem dX8_judge_82 : decode cX8_judge 82 = .ok (.iaload, 1) := by decide +kernel
theorem dX8_judge_83 : decode cX8_judge 83 = .ok (.if_icmp .ne 17, 3) := by decide +kernel
theorem dX8_judge_86 : decode cX8_judge 86 = .ok (.iload_n 2, 1) := by decide +kernel
theorem dX8_judge_87 : decode cX8_judge 87 = .ok (.aload_n 0, 1) := by decide +kernel
theorem dX8_judge_88 : decode cX8_judge 88 = .ok (.getfield 7, 3) := by decide +kernel
theorem dX8_judge_91 : decode cX8_judge 91 = .ok (.iconst 0, 1) := by decide +kernel
theorem dX8_judge_92 : decode cX8_judge 92 = .ok (.iaload, 1) := by decide +kernel
theorem dX8_judge_93 : decode cX8_judge 93 = .ok (.if_icmp .ne 7, 3) := by decide +kernel
theorem dX8_judge_96 : decode cX8_judge 96 = .ok (.iconst (-1), 1) := by decide +kernel
theorem dX8_judge_97 : decode cX8_judge 97 = .ok (.goto 4, 3) := by decide +kernel
theorem dX8_judge_100 : decode cX8_judge 100 = .ok (.iload_n 2, 1) := by decide +kernel
theorem dX8_judge_101 : decode cX8_judge 101 = .ok (.ireturn, 1) := by decide +kernel
theorem dX8_image_0 : decode cX8_image 0 = .ok (.iconst 0, 1) := by decide +kernel
theorem dX8_image_1 : decode cX8_image 1 = .ok (.istore_n 1, 1) := by decide +kernel
theorem dX8_image_2 : decode cX8_image 2 = .ok (.iload_n 1, 1) := by decide +kernel
theorem dX8_image_3 : decode cX8_image 3 = .ok (.sipush 229, 3) := by decide +kernel
theorem dX8_image_6 : decode cX8_image 6 = .ok (.if_icmp .ge 21, 3) := by decide +kernel
theorem dX8_image_9 : decode cX8_image 9 = .ok (.aload_n 0, 1) := by decide +kernel
theorem dX8_image_10 : decode cX8_image 10 = .ok (.getfield 13, 3) := by decide +kernel
theorem dX8_image_13 : decode cX8_image 13 = .ok (.iload_n 1, 1) := by decide +kernel
theorem dX8_image_14 : decode cX8_image 14 = .ok (.aload_n 0, 1) := by decide +kernel
theorem dX8_image_15 : decode cX8_image 15 = .ok (.getfield 7, 3) := by decide +kernel
theorem dX8_image_18 : decode cX8_image 18 = .ok (.iload_n 1, 1) := by decide +kernel
theorem dX8_image_19 : decode cX8_image 19 = .ok (.iaload, 1) := by decide +kernel
theorem dX8_image_20 : decode cX8_image 20 = .ok (.iastore, 1) := by decide +kernel
theorem dX8_image_21 : decode cX8_image 21 = .ok (.iinc 1 1, 3) := by decide +kernel
theorem dX8_image_24 : decode cX8_image 24 = .ok (.goto (-22), 3) := by decide +kernel
theorem dX8_image_27 : decode cX8_image 27 = .ok (.aload_n 0, 1) := by decide +kernel
theorem dX8_image_28 : decode cX8_image 28 = .ok (.dup, 1) := by decide +kernel
theorem dX8_image_29 : decode cX8_image 29 = .ok (.getfield 282, 3) := by decide +kernel
theorem dX8_image_32 : decode cX8_image 32 = .ok (.iconst 1, 1) := by decide +kernel
theorem dX8_image_33 : decode cX8_image 33 = .ok (.iadd, 1) := by decide +kernel
theorem dX8_image_34 : decode cX8_image 34 = .ok (.putfield 282, 3) := by decide +kernel
theorem dX8_image_37 : decode cX8_image 37 = .ok (.aload_n 0, 1) := by decide +kernel
theorem dX8_image_38 : decode cX8_image 38 = .ok (.getfield 282, 3) := by decide +kernel
theorem dX8_image_41 : decode cX8_image 41 = .ok (.ireturn, 1) := by decide +kernel
theorem dX8_restore_0 : decode cX8_restore 0 = .ok (.aload_n 0, 1) := by decide +kernel
theorem dX8_restore_1 : decode cX8_restore 1 = .ok (.getfield 282, 3) := by decide +kernel
theorem dX8_restore_4 : decode cX8_restore 4 = .ok (.ifCond .ne 9, 3) := by decide +kernel
theorem dX8_restore_7 : decode cX8_restore 7 = .ok (.aload_n 0, 1) := by decide +kernel
theorem dX8_restore_8 : decode cX8_restore 8 = .ok (.iconst 2, 1) := by decide +kernel
theorem dX8_restore_9 : decode cX8_restore 9 = .ok (.invokevirtual 134, 3) := by decide +kernel
theorem dX8_restore_12 : decode cX8_restore 12 = .ok (.ireturn, 1) := by decide +kernel
theorem dX8_restore_13 : decode cX8_restore 13 = .ok (.iconst 0, 1) := by decide +kernel
theorem dX8_restore_14 : decode cX8_restore 14 = .ok (.istore_n 1, 1) := by decide +kernel
theorem dX8_restore_15 : decode cX8_restore 15 = .ok (.iload_n 1, 1) := by decide +kernel
theorem dX8_restore_16 : decode cX8_restore 16 = .ok (.sipush 229, 3) := by decide +kernel
theorem dX8_restore_19 : decode cX8_restore 19 = .ok (.if_icmp .ge 21, 3) := by decide +kernel
theorem dX8_restore_22 : decode cX8_restore 22 = .ok (.aload_n 0, 1) := by decide +kernel
theorem dX8_restore_23 : decode cX8_restore 23 = .ok (.getfield 7, 3) := by decide +kernel
theorem dX8_restore_26 : decode cX8_restore 26 = .ok (.iload_n 1, 1) := by decide +kernel
theorem dX8_restore_27 : decode cX8_restore 27 = .ok (.aload_n 0, 1) := by decide +kernel
theorem dX8_restore_28 : decode cX8_restore 28 = .ok (.getfield 13, 3) := by decide +kernel
theorem dX8_restore_31 : decode cX8_restore 31 = .ok (.iload_n 1, 1) := by decide +kernel
theorem dX8_restore_32 : decode cX8_restore 32 = .ok (.iaload, 1) := by decide +kernel
theorem dX8_restore_33 : decode cX8_restore 33 = .ok (.iastore, 1) := by decide +kernel
theorem dX8_restore_34 : decode cX8_restore 34 = .ok (.iinc 1 1, 3) := by decide +kernel
theorem dX8_restore_37 : decode cX8_restore 37 = .ok (.goto (-22), 3) := by decide +kernel
theorem dX8_restore_40 : decode cX8_restore 40 = .ok (.aload_n 0, 1) := by decide +kernel
theorem dX8_restore_41 : decode cX8_restore 41 = .ok (.getfield 7, 3) := by decide +kernel
theorem dX8_restore_44 : decode cX8_restore 44 = .ok (.iconst 1, 1) := by decide +kernel
theorem dX8_restore_45 : decode cX8_restore 45 = .ok (.iaload, 1) := by decide +kernel
theorem dX8_restore_46 : decode cX8_restore 46 = .ok (.ireturn, 1) := by decide +kernel
theorem dX8_tell_0 : decode cX8_tell 0 = .ok (.aload_n 0, 1) := by decide +kernel
theorem dX8_tell_1 : decode cX8_tell 1 = .ok (.getfield 7, 3) := by decide +kernel
theorem dX8_tell_4 : decode cX8_tell 4 = .ok (.bipush 7, 2) := by decide +kernel
theorem dX8_tell_6 : decode cX8_tell 6 = .ok (.iaload, 1) := by decide +kernel
theorem dX8_tell_7 : decode cX8_tell 7 = .ok (.bipush 20, 2) := by decide +kernel
theorem dX8_tell_9 : decode cX8_tell 9 = .ok (.if_icmp .ne 9, 3) := by decide +kernel
theorem dX8_tell_12 : decode cX8_tell 12 = .ok (.aload_n 0, 1) := by decide +kernel
theorem dX8_tell_13 : decode cX8_tell 13 = .ok (.iconst 4, 1) := by decide +kernel
theorem dX8_tell_14 : decode cX8_tell 14 = .ok (.invokevirtual 134, 3) := by decide +kernel
theorem dX8_tell_17 : decode cX8_tell 17 = .ok (.ireturn, 1) := by decide +kernel
theorem dX8_tell_18 : decode cX8_tell 18 = .ok (.aload_n 0, 1) := by decide +kernel
theorem dX8_tell_19 : decode cX8_tell 19 = .ok (.getfield 7, 3) := by decide +kernel
theorem dX8_tell_22 : decode cX8_tell 22 = .ok (.bipush 59, 2) := by decide +kernel
theorem dX8_tell_24 : decode cX8_tell 24 = .ok (.aload_n 0, 1) := by decide +kernel
theorem dX8_tell_25 : decode cX8_tell 25 = .ok (.getfield 7, 3) := by decide +kernel
theorem dX8_tell_28 : decode cX8_tell 28 = .ok (.bipush 7, 2) := by decide +kernel
theorem dX8_tell_30 : decode cX8_tell 30 = .ok (.iaload, 1) := by decide +kernel
theorem dX8_tell_31 : decode cX8_tell 31 = .ok (.iadd, 1) := by decide +kernel
theorem dX8_tell_32 : decode cX8_tell 32 = .ok (.iload_n 1, 1) := by decide +kernel
theorem dX8_tell_33 : decode cX8_tell 33 = .ok (.iastore, 1) := by decide +kernel
theorem dX8_tell_34 : decode cX8_tell 34 = .ok (.aload_n 0, 1) := by decide +kernel
theorem dX8_tell_35 : decode cX8_tell 35 = .ok (.getfield 7, 3) := by decide +kernel
theorem dX8_tell_38 : decode cX8_tell 38 = .ok (.bipush 7, 2) := by decide +kernel
theorem dX8_tell_40 : decode cX8_tell 40 = .ok (.dup2, 1) := by decide +kernel
theorem dX8_tell_41 : decode cX8_tell 41 = .ok (.iaload, 1) := by decide +kernel
theorem dX8_tell_42 : decode cX8_tell 42 = .ok (.iconst 1, 1) := by decide +kernel
theorem dX8_tell_43 : decode cX8_tell 43 = .ok (.iadd, 1) := by decide +kernel
theorem dX8_tell_44 : decode cX8_tell 44 = .ok (.iastore, 1) := by decide +kernel
theorem dX8_tell_45 : decode cX8_tell 45 = .ok (.aload_n 0, 1) := by decide +kernel
theorem dX8_tell_46 : decode cX8_tell 46 = .ok (.getfield 7, 3) := by decide +kernel
theorem dX8_tell_49 : decode cX8_tell 49 = .ok (.bipush 7, 2) := by decide +kernel
theorem dX8_tell_51 : decode cX8_tell 51 = .ok (.iaload, 1) := by decide +kernel
theorem dX8_tell_52 : decode cX8_tell 52 = .ok (.ireturn, 1) := by decide +kernel
theorem dX8_check_0 : decode cX8_check 0 = .ok (.aload_n 0, 1) := by decide +kernel
theorem dX8_check_1 : decode cX8_check 1 = .ok (.getfield 7, 3) := by decide +kernel
theorem dX8_check_4 : decode cX8_check 4 = .ok (.bipush 7, 2) := by decide +kernel
theorem dX8_check_6 : decode cX8_check 6 = .ok (.iaload, 1) := by decide +kernel
theorem dX8_check_7 : decode cX8_check 7 = .ok (.istore_n 1, 1) := by decide +kernel
theorem dX8_check_8 : decode cX8_check 8 = .ok (.aload_n 0, 1) := by decide +kernel
theorem dX8_check_9 : decode cX8_check 9 = .ok (.getfield 7, 3) := by decide +kernel
theorem dX8_check_12 : decode cX8_check 12 = .ok (.bipush 7, 2) := by decide +kernel
theorem dX8_check_14 : decode cX8_check 14 = .ok (.iconst 0, 1) := by decide +kernel
theorem dX8_check_15 : decode cX8_check 15 = .ok (.iastore, 1) := by decide +kernel
theorem dX8_check_16 : decode cX8_check 16 = .ok (.aload_n 0, 1) := by decide +kernel
theorem dX8_check_17 : decode cX8_check 17 = .ok (.invokevirtual 230, 3) := by decide +kernel
theorem dX8_check_20 : decode cX8_check 20 = .ok (.iconst 0, 1) := by decide +kernel
theorem dX8_check_21 : decode cX8_check 21 = .ok (.istore_n 2, 1) := by decide +kernel
theorem dX8_check_22 : decode cX8_check 22 = .ok (.iconst 0, 1) := by decide +kernel
theorem dX8_check_23 : decode cX8_check 23 = .ok (.istore_n 3, 1) := by decide +kernel
theorem dX8_check_24 : decode cX8_check 24 = .ok (.iload_n 3, 1) := by decide +kernel
theorem dX8_check_25 : decode cX8_check 25 = .ok (.iload_n 1, 1) := by decide +kernel
theorem dX8_check_26 : decode cX8_check 26 = .ok (.if_icmp .ge 41, 3) := by decide +kernel
theorem dX8_check_29 : decode cX8_check 29 = .ok (.iload_n 2, 1) := by decide +kernel
theorem dX8_check_30 : decode cX8_check 30 = .ok (.ifCond .ne 37, 3) := by decide +kernel
theorem dX8_check_33 : decode cX8_check 33 = .ok (.aload_n 0, 1) := by decide +kernel
theorem dX8_check_34 : decode cX8_check 34 = .ok (.invokevirtual 179, 3) := by decide +kernel
theorem dX8_check_37 : decode cX8_check 37 = .ok (.aload_n 0, 1) := by decide +kernel
theorem dX8_check_38 : decode cX8_check 38 = .ok (.getfield 7, 3) := by decide +kernel
theorem dX8_check_41 : decode cX8_check 41 = .ok (.bipush 59, 2) := by decide +kernel
theorem dX8_check_43 : decode cX8_check 43 = .ok (.iload_n 3, 1) := by decide +kernel
theorem dX8_check_44 : decode cX8_check 44 = .ok (.iadd, 1) := by decide +kernel
theorem dX8_check_45 : decode cX8_check 45 = .ok (.iaload, 1) := by decide +kernel
theorem dX8_check_46 : decode cX8_check 46 = .ok (.aload_n 0, 1) := by decide +kernel
theorem dX8_check_47 : decode cX8_check 47 = .ok (.invokevirtual 218, 3) := by decide +kernel
theorem dX8_check_50 : decode cX8_check 50 = .ok (.if_icmp .ne 7, 3) := by decide +kernel
theorem dX8_check_53 : decode cX8_check 53 = .ok (.iconst 0, 1) := by decide +kernel
theorem dX8_check_54 : decode cX8_check 54 = .ok (.goto 6, 3) := by decide +kernel
theorem dX8_check_57 : decode cX8_check 57 = .ok (.iconst 1, 1) := by decide +kernel
theorem dX8_check_58 : decode cX8_check 58 = .ok (.iload_n 3, 1) := by decide +kernel
theorem dX8_check_59 : decode cX8_check 59 = .ok (.iadd, 1) := by decide +kernel
theorem dX8_check_60 : decode cX8_check 60 = .ok (.istore_n 2, 1) := by decide +kernel
theorem dX8_check_61 : decode cX8_check 61 = .ok (.iinc 3 1, 3) := by decide +kernel
theorem dX8_check_64 : decode cX8_check 64 = .ok (.goto (-40), 3) := by decide +kernel
theorem dX8_check_67 : decode cX8_check 67 = .ok (.aload_n 0, 1) := by decide +kernel
theorem dX8_check_68 : decode cX8_check 68 = .ok (.invokevirtual 227, 3) := by decide +kernel
theorem dX8_check_71 : decode cX8_check 71 = .ok (.iload_n 2, 1) := by decide +kernel
theorem dX8_check_72 : decode cX8_check 72 = .ok (.ireturn, 1) := by decide +kernel
theorem dX8_count_0 : decode cX8_count 0 = .ok (.iload_n 1, 1) := by decide +kernel
theorem dX8_count_1 : decode cX8_count 1 = .ok (.tableswitch 104 0 10 #[59, 59, 59, 59, 59, 66, 71, 76, 84, 92, 97], 59) := by decide +kernel
theorem dX8_count_60 : decode cX8_count 60 = .ok (.aload_n 0, 1) := by decide +kernel
theorem dX8_count_61 : decode cX8_count 61 = .ok (.getfield 7, 3) := by decide +kernel
theorem dX8_count_64 : decode cX8_count 64 = .ok (.iload_n 1, 1) := by decide +kernel
theorem dX8_count_65 : decode cX8_count 65 = .ok (.iaload, 1) := by decide +kernel
theorem dX8_count_66 : decode cX8_count 66 = .ok (.ireturn, 1) := by decide +kernel
theorem dX8_count_67 : decode cX8_count 67 = .ok (.aload_n 0, 1) := by decide +kernel
theorem dX8_count_68 : decode cX8_count 68 = .ok (.invokevirtual 218, 3) := by decide +kernel
theorem dX8_count_71 : decode cX8_count 71 = .ok (.ireturn, 1) := by decide +kernel
theorem dX8_count_72 : decode cX8_count 72 = .ok (.aload_n 0, 1) := by decide +kernel
theorem dX8_count_73 : decode cX8_count 73 = .ok (.invokevirtual 253, 3) := by decide +kernel
theorem dX8_count_76 : decode cX8_count 76 = .ok (.ireturn, 1) := by decide +kernel
theorem dX8_count_77 : decode cX8_count 77 = .ok (.aload_n 0, 1) := by decide +kernel
theorem dX8_count_78 : decode cX8_count 78 = .ok (.getfield 7, 3) := by decide +kernel
theorem dX8_count_81 : decode cX8_count 81 = .ok (.bipush 6, 2) := by decide +kernel
theorem dX8_count_83 : decode cX8_count 83 = .ok (.iaload, 1) := by decide +kernel
theorem dX8_count_84 : decode cX8_count 84 = .ok (.ireturn, 1) := by decide +kernel
theorem dX8_count_85 : decode cX8_count 85 = .ok (.aload_n 0, 1) := by decide +kernel
theorem dX8_count_86 : decode cX8_count 86 = .ok (.getfield 7, 3) := by decide +kernel
theorem dX8_count_89 : decode cX8_count 89 = .ok (.bipush 7, 2) := by decide +kernel
theorem dX8_count_91 : decode cX8_count 91 = .ok (.iaload, 1) := by decide +kernel
theorem dX8_count_92 : decode cX8_count 92 = .ok (.ireturn, 1) := by decide +kernel
theorem dX8_count_93 : decode cX8_count 93 = .ok (.aload_n 0, 1) := by decide +kernel
theorem dX8_count_94 : decode cX8_count 94 = .ok (.getfield 259, 3) := by decide +kernel
theorem dX8_count_97 : decode cX8_count 97 = .ok (.ireturn, 1) := by decide +kernel
theorem dX8_count_98 : decode cX8_count 98 = .ok (.aload_n 0, 1) := by decide +kernel
theorem dX8_count_99 : decode cX8_count 99 = .ok (.getfield 7, 3) := by decide +kernel
theorem dX8_count_102 : decode cX8_count 102 = .ok (.iconst 5, 1) := by decide +kernel
theorem dX8_count_103 : decode cX8_count 103 = .ok (.iaload, 1) := by decide +kernel
theorem dX8_count_104 : decode cX8_count 104 = .ok (.ireturn, 1) := by decide +kernel
theorem dX8_count_105 : decode cX8_count 105 = .ok (.aload_n 0, 1) := by decide +kernel
theorem dX8_count_106 : decode cX8_count 106 = .ok (.iconst 1, 1) := by decide +kernel
theorem dX8_count_107 : decode cX8_count 107 = .ok (.invokevirtual 134, 3) := by decide +kernel
theorem dX8_count_110 : decode cX8_count 110 = .ok (.ireturn, 1) := by decide +kernel
theorem dX8_told_0 : decode cX8_told 0 = .ok (.iload_n 1, 1) := by decide +kernel
theorem dX8_told_1 : decode cX8_told 1 = .ok (.i2l, 1) := by decide +kernel
theorem dX8_told_2 : decode cX8_told 2 = .ok (.lconst 1, 1) := by decide +kernel
theorem dX8_told_3 : decode cX8_told 3 = .ok (.ldc2_w 285, 3) := by decide +kernel
theorem dX8_told_6 : decode cX8_told 6 = .ok (.invokestatic 53, 3) := by decide +kernel
theorem dX8_told_9 : decode cX8_told 9 = .ok (.ifCond .eq 12, 3) := by decide +kernel
theorem dX8_told_12 : decode cX8_told 12 = .ok (.aload_n 0, 1) := by decide +kernel
theorem dX8_told_13 : decode cX8_told 13 = .ok (.getfield 19, 3) := by decide +kernel
theorem dX8_told_16 : decode cX8_told 16 = .ok (.iload_n 1, 1) := by decide +kernel
theorem dX8_told_17 : decode cX8_told 17 = .ok (.iaload, 1) := by decide +kernel
theorem dX8_told_18 : decode cX8_told 18 = .ok (.goto 8, 3) := by decide +kernel
theorem dX8_told_21 : decode cX8_told 21 = .ok (.aload_n 0, 1) := by decide +kernel
theorem dX8_told_22 : decode cX8_told 22 = .ok (.iconst 1, 1) := by decide +kernel
theorem dX8_told_23 : decode cX8_told 23 = .ok (.invokevirtual 134, 3) := by decide +kernel
theorem dX8_told_26 : decode cX8_told 26 = .ok (.ireturn, 1) := by decide +kernel
