theorem dX8_init_0 : decode cX8_init 0 = .ok (.aload_n 0, 1) := by decide +kernel
theorem dX8_init_1 : decode cX8_init 1 = .ok (.invokespecial 1, 3) := by decide +kernel
theorem dX8_init_4 : decode cX8_init 4 = .ok (.aload_n 0, 1) := by decide +kernel
theorem dX8_init_5 : decode cX8_init 5 = .ok (.sipush 229, 3) := by decide +kernel
theorem dX8_init_8 : decode cX8_init 8 = .ok (.newarray .int, 2) := by decide +kernel
theorem dX8_init_10 : decode cX8_init 10 = .ok (.putfield 7, 3) := by decide +kernel
theorem dX8_init_13 : decode cX8_init 13 = .ok (.aload_n 0, 1) := by decide +kernel
theorem dX8_init_14 : decode cX8_init 14 = .ok (.sipush 229, 3) := by decide +kernel
theorem dX8_init_17 : decode cX8_init 17 = .ok (.newarray .int, 2) := by decide +kernel
theorem dX8_init_19 : decode cX8_init 19 = .ok (.putfield 13, 3) := by decide +kernel
theorem dX8_init_22 : decode cX8_init 22 = .ok (.aload_n 0, 1) := by decide +kernel
theorem dX8_init_23 : decode cX8_init 23 = .ok (.bipush 57, 2) := by decide +kernel
theorem dX8_init_25 : decode cX8_init 25 = .ok (.newarray .int, 2) := by decide +kernel
theorem dX8_init_27 : decode cX8_init 27 = .ok (.putfield 16, 3) := by decide +kernel
theorem dX8_init_30 : decode cX8_init 30 = .ok (.aload_n 0, 1) := by decide +kernel
theorem dX8_init_31 : decode cX8_init 31 = .ok (.bipush 6, 2) := by decide +kernel
theorem dX8_init_33 : decode cX8_init 33 = .ok (.newarray .int, 2) := by decide +kernel
theorem dX8_init_35 : decode cX8_init 35 = .ok (.putfield 19, 3) := by decide +kernel
theorem dX8_init_38 : decode cX8_init 38 = .ok (.aload_n 0, 1) := by decide +kernel
theorem dX8_init_39 : decode cX8_init 39 = .ok (.iconst 3, 1) := by decide +kernel
theorem dX8_init_40 : decode cX8_init 40 = .ok (.newarray .int, 2) := by decide +kernel
theorem dX8_init_42 : decode cX8_init 42 = .ok (.putfield 22, 3) := by decide +kernel
theorem dX8_init_45 : decode cX8_init 45 = .ok (.aload_n 0, 1) := by decide +kernel
theorem dX8_init_46 : decode cX8_init 46 = .ok (.bipush 60, 2) := by decide +kernel
theorem dX8_init_48 : decode cX8_init 48 = .ok (.newarray .int, 2) := by decide +kernel
theorem dX8_init_50 : decode cX8_init 50 = .ok (.putfield 25, 3) := by decide +kernel
theorem dX8_init_53 : decode cX8_init 53 = .ok (.aload_n 0, 1) := by decide +kernel
theorem dX8_init_54 : decode cX8_init 54 = .ok (.bipush 60, 2) := by decide +kernel
theorem dX8_init_56 : decode cX8_init 56 = .ok (.newarray .int, 2) := by decide +kernel
theorem dX8_init_58 : decode cX8_init 58 = .ok (.putfield 28, 3) := by decide +kernel
theorem dX8_init_61 : decode cX8_init 61 = .ok (.aload_n 0, 1) := by decide +kernel
theorem dX8_init_62 : decode cX8_init 62 = .ok (.bipush 16, 2) := by decide +kernel
theorem dX8_init_64 : decode cX8_init 64 = .ok (.newarray .int, 2) := by decide +kernel
theorem dX8_init_66 : decode cX8_init 66 = .ok (.putfield 31, 3) := by decide +kernel
theorem dX8_init_69 : decode cX8_init 69 = .ok (.aload_n 0, 1) := by decide +kernel
theorem dX8_init_70 : decode cX8_init 70 = .ok (.bipush 8, 2) := by decide +kernel
theorem dX8_init_72 : decode cX8_init 72 = .ok (.newarray .int, 2) := by decide +kernel
theorem dX8_init_74 : decode cX8_init 74 = .ok (.putfield 34, 3) := by decide +kernel
theorem dX8_init_77 : decode cX8_init 77 = .ok (.aload_n 0, 1) := by decide +kernel
theorem dX8_init_78 : decode cX8_init 78 = .ok (.bipush 40, 2) := by decide +kernel
theorem dX8_init_80 : decode cX8_init 80 = .ok (.newarray .int, 2) := by decide +kernel
theorem dX8_init_82 : decode cX8_init 82 = .ok (.putfield 37, 3) := by decide +kernel
theorem dX8_init_85 : decode cX8_init 85 = .ok (.aload_n 0, 1) := by decide +kernel
theorem dX8_init_86 : decode cX8_init 86 = .ok (.iconst 4, 1) := by decide +kernel
theorem dX8_init_87 : decode cX8_init 87 = .ok (.newarray .int, 2) := by decide +kernel
theorem dX8_init_89 : decode cX8_init 89 = .ok (.putfield 40, 3) := by decide +kernel
theorem dX8_init_92 : decode cX8_init 92 = .ok (.aload_n 0, 1) := by decide +kernel
theorem dX8_init_93 : decode cX8_init 93 = .ok (.iconst 4, 1) := by decide +kernel
theorem dX8_init_94 : decode cX8_init 94 = .ok (.newarray .int, 2) := by decide +kernel
theorem dX8_init_96 : decode cX8_init 96 = .ok (.putfield 43, 3) := by decide +kernel
theorem dX8_init_99 : decode cX8_init 99 = .ok (.aload_n 0, 1) := by decide +kernel
theorem dX8_init_100 : decode cX8_init 100 = .ok (.sipush 160, 3) := by decide +kernel
theorem dX8_init_103 : decode cX8_init 103 = .ok (.newarray .int, 2) := by decide +kernel
theorem dX8_init_105 : decode cX8_init 105 = .ok (.putfield 46, 3) := by decide +kernel
theorem dX8_init_108 : decode cX8_init 108 = .ok (.aload_n 0, 1) := by decide +kernel
theorem dX8_init_109 : decode cX8_init 109 = .ok (.bipush 40, 2) := by decide +kernel
theorem dX8_init_111 : decode cX8_init 111 = .ok (.newarray .int, 2) := by decide +kernel
theorem dX8_init_113 : decode cX8_init 113 = .ok (.putfield 49, 3) := by decide +kernel
theorem dX8_init_116 : decode cX8_init 116 = .ok (.aload_n 0, 1) := by decide +kernel
theorem dX8_init_117 : decode cX8_init 117 = .ok (.getfield 7, 3) := by decide +kernel
theorem dX8_init_120 : decode cX8_init 120 = .ok (.iconst 2, 1) := by decide +kernel
theorem dX8_init_121 : decode cX8_init 121 = .ok (.bipush 20, 2) := by decide +kernel
theorem dX8_init_123 : decode cX8_init 123 = .ok (.iastore, 1) := by decide +kernel
theorem dX8_init_124 : decode cX8_init 124 = .ok (.aload_n 0, 1) := by decide +kernel
theorem dX8_init_125 : decode cX8_init 125 = .ok (.getfield 7, 3) := by decide +kernel
theorem dX8_init_128 : decode cX8_init 128 = .ok (.bipush 8, 2) := by decide +kernel
theorem dX8_init_130 : decode cX8_init 130 = .ok (.sipush 4095, 3) := by decide +kernel
theorem dX8_init_133 : decode cX8_init 133 = .ok (.iastore, 1) := by decide +kernel
theorem dX8_init_134 : decode cX8_init 134 = .ok (.aload_n 0, 1) := by decide +kernel
theorem dX8_init_135 : decode cX8_init 135 = .ok (.getfield 7, 3) := by decide +kernel
theorem dX8_init_138 : decode cX8_init 138 = .ok (.iconst 5, 1) := by decide +kernel
theorem dX8_init_139 : decode cX8_init 139 = .ok (.iconst 1, 1) := by decide +kernel
theorem dX8_init_140 : decode cX8_init 140 = .ok (.iastore, 1) := by decide +kernel
theorem dX8_init_141 : decode cX8_init 141 = .ok (.return_, 1) := by decide +kernel
theorem dX8_finds_0 : decode cX8_finds 0 = .ok (.aload_n 0, 1) := by decide +kernel
theorem dX8_finds_1 : decode cX8_finds 1 = .ok (.getfield 19, 3) := by decide +kernel
theorem dX8_finds_4 : decode cX8_finds 4 = .ok (.iload_n 1, 1) := by decide +kernel
theorem dX8_finds_5 : decode cX8_finds 5 = .ok (.dup2, 1) := by decide +kernel
theorem dX8_finds_6 : decode cX8_finds 6 = .ok (.iaload, 1) := by decide +kernel
theorem dX8_finds_7 : decode cX8_finds 7 = .ok (.iconst 1, 1) := by decide +kernel
theorem dX8_finds_8 : decode cX8_finds 8 = .ok (.iadd, 1) := by decide +kernel
theorem dX8_finds_9 : decode cX8_finds 9 = .ok (.iastore, 1) := by decide +kernel
theorem dX8_finds_10 : decode cX8_finds 10 = .ok (.ldc 52, 2) := by decide +kernel
theorem dX8_finds_12 : decode cX8_finds 12 = .ok (.iload_n 1, 1) := by decide +kernel
theorem dX8_finds_13 : decode cX8_finds 13 = .ok (.isub, 1) := by decide +kernel
theorem dX8_finds_14 : decode cX8_finds 14 = .ok (.ireturn, 1) := by decide +kernel
theorem dX8_in_0 : decode cX8_in 0 = .ok (.lload_n 0, 1) := by decide +kernel
theorem dX8_in_1 : decode cX8_in 1 = .ok (.lload_n 2, 1) := by decide +kernel
theorem dX8_in_2 : decode cX8_in 2 = .ok (.lcmp, 1) := by decide +kernel
theorem dX8_in_3 : decode cX8_in 3 = .ok (.ifCond .lt 14, 3) := by decide +kernel
theorem dX8_in_6 : decode cX8_in 6 = .ok (.lload_n 0, 1) := by decide +kernel
theorem dX8_in_7 : decode cX8_in 7 = .ok (.lload 4, 2) := by decide +kernel
theorem dX8_in_9 : decode cX8_in 9 = .ok (.lcmp, 1) := by decide +kernel
theorem dX8_in_10 : decode cX8_in 10 = .ok (.ifCond .gt 7, 3) := by decide +kernel
theorem dX8_in_13 : decode cX8_in 13 = .ok (.iconst 1, 1) := by decide +kernel
theorem dX8_in_14 : decode cX8_in 14 = .ok (.goto 4, 3) := by decide +kernel
theorem dX8_in_17 : decode cX8_in 17 = .ok (.iconst 0, 1) := by decide +kernel
theorem dX8_in_18 : decode cX8_in 18 = .ok (.ireturn, 1) := by decide +kernel
theorem dX8_held_0 : decode cX8_held 0 = .ok (.iload_n 0, 1) := by decide +kernel
theorem dX8_held_1 : decode cX8_held 1 = .ok (.iload_n 1, 1) := by decide +kernel
theorem dX8_held_2 : decode cX8_held 2 = .ok (.if_icmp .ge 7, 3) := by decide +kernel
theorem dX8_held_5 : decode cX8_held 5 = .ok (.iload_n 1, 1) := by decide +kernel
theorem dX8_held_6 : decode cX8_held 6 = .ok (.goto 13, 3) := by decide +kernel
theorem dX8_held_9 : decode cX8_held 9 = .ok (.iload_n 0, 1) := by decide +kernel
theorem dX8_held_10 : decode cX8_held 10 = .ok (.iload_n 2, 1) := by decide +kernel
theorem dX8_held_11 : decode cX8_held 11 = .ok (.if_icmp .le 7, 3) := by decide +kernel
theorem dX8_held_14 : decode cX8_held 14 = .ok (.iload_n 2, 1) := by decide +kernel
theorem dX8_held_15 : decode cX8_held 15 = .ok (.goto 4, 3) := by decide +kernel
theorem dX8_held_18 : decode cX8_held 18 = .ok (.iload_n 0, 1) := by decide +kernel
theorem dX8_held_19 : decode cX8_held 19 = .ok (.ireturn, 1) := by decide +kernel
theorem dX8_isHouse_0 : decode cX8_isHouse 0 = .ok (.iload_n 1, 1) := by decide +kernel
theorem dX8_isHouse_1 : decode cX8_isHouse 1 = .ok (.i2l, 1) := by decide +kernel
theorem dX8_isHouse_2 : decode cX8_isHouse 2 = .ok (.lconst 0, 1) := by decide +kernel
theorem dX8_isHouse_3 : decode cX8_isHouse 3 = .ok (.aload_n 0, 1) := by decide +kernel
theorem dX8_isHouse_4 : decode cX8_isHouse 4 = .ok (.getfield 7, 3) := by decide +kernel
theorem dX8_isHouse_7 : decode cX8_isHouse 7 = .ok (.iconst 0, 1) := by decide +kernel
theorem dX8_isHouse_8 : decode cX8_isHouse 8 = .ok (.iaload, 1) := by decide +kernel
theorem dX8_isHouse_9 : decode cX8_isHouse 9 = .ok (.iconst 1, 1) := by decide +kernel
theorem dX8_isHouse_10 : decode cX8_isHouse 10 = .ok (.isub, 1) := by decide +kernel
theorem dX8_isHouse_11 : decode cX8_isHouse 11 = .ok (.i2l, 1) := by decide +kernel
theorem dX8_isHouse_12 : decode cX8_isHouse 12 = .ok (.invokestatic 53, 3) := by decide +kernel
theorem dX8_isHouse_15 : decode cX8_isHouse 15 = .ok (.ireturn, 1) := by decide +kernel
theorem dX8_isCell_0 : decode cX8_isCell 0 = .ok (.iload_n 0, 1) := by decide +kernel
theorem dX8_isCell_1 : decode cX8_isCell 1 = .ok (.i2l, 1) := by decide +kernel
theorem dX8_isCell_2 : decode cX8_isCell 2 = .ok (.lconst 0, 1) := by decide +kernel
theorem dX8_isCell_3 : decode cX8_isCell 3 = .ok (.ldc2_w 57, 3) := by decide +kernel
theorem dX8_isCell_6 : decode cX8_isCell 6 = .ok (.invokestatic 53, 3) := by decide +kernel
theorem dX8_isCell_9 : decode cX8_isCell 9 = .ok (.ireturn, 1) := by decide +kernel
theorem dX8_isDoor_0 : decode cX8_isDoor 0 = .ok (.iload_n 0, 1) := by decide +kernel
theorem dX8_isDoor_1 : decode cX8_isDoor 1 = .ok (.i2l, 1) := by decide +kernel
theorem dX8_isDoor_2 : decode cX8_isDoor 2 = .ok (.lconst 0, 1) := by decide +kernel
theorem dX8_isDoor_3 : decode cX8_isDoor 3 = .ok (.ldc2_w 59, 3) := by decide +kernel
theorem dX8_isDoor_6 : decode cX8_isDoor 6 = .ok (.invokestatic 53, 3) := by decide +kernel
theorem dX8_isDoor_9 : decode cX8_isDoor 9 = .ok (.ireturn, 1) := by decide +kernel
theorem dX8_of_0 : decode cX8_of 0 = .ok (.aload_n 0, 1) := by decide +kernel
theorem dX8_of_1 : decode cX8_of 1 = .ok (.getfield 7, 3) := by decide +kernel
theorem dX8_of_4 : decode cX8_of 4 = .ok (.bipush 25, 2) := by decide +kernel
theorem dX8_of_6 : decode cX8_of 6 = .ok (.iconst 4, 1) := by decide +kernel
theorem dX8_of_7 : decode cX8_of 7 = .ok (.iload_n 1, 1) := by decide +kernel
theorem dX8_of_8 : decode cX8_of 8 = .ok (.imul, 1) := by decide +kernel
theorem dX8_of_9 : decode cX8_of 9 = .ok (.iadd, 1) := by decide +kernel
theorem dX8_of_10 : decode cX8_of 10 = .ok (.iload_n 2, 1) := by decide +kernel
theorem dX8_of_11 : decode cX8_of 11 = .ok (.iadd, 1) := by decide +kernel
theorem dX8_of_12 : decode cX8_of 12 = .ok (.iaload, 1) := by decide +kernel
theorem dX8_of_13 : decode cX8_of 13 = .ok (.ireturn, 1) := by decide +kernel
theorem dX8_sets_0 : decode cX8_sets 0 = .ok (.aload_n 0, 1) := by decide +kernel
theorem dX8_sets_1 : decode cX8_sets 1 = .ok (.getfield 7, 3) := by decide +kernel
theorem dX8_sets_4 : decode cX8_sets 4 = .ok (.bipush 25, 2) := by decide +kernel
theorem dX8_sets_6 : decode cX8_sets 6 = .ok (.iconst 4, 1) := by decide +kernel
theorem dX8_sets_7 : decode cX8_sets 7 = .ok (.iload_n 1, 1) := by decide +kernel
theorem dX8_sets_8 : decode cX8_sets 8 = .ok (.imul, 1) := by decide +kernel
theorem dX8_sets_9 : decode cX8_sets 9 = .ok (.iadd, 1) := by decide +kernel
theorem dX8_sets_10 : decode cX8_sets 10 = .ok (.iload_n 2, 1) := by decide +kernel
theorem dX8_sets_11 : decode cX8_sets 11 = .ok (.iadd, 1) := by decide +kernel
theorem dX8_sets_12 : decode cX8_sets 12 = .ok (.iload_n 3, 1) := by decide +kernel
theorem dX8_sets_13 : decode cX8_sets 13 = .ok (.iastore, 1) := by decide +kernel
theorem dX8_sets_14 : decode cX8_sets 14 = .ok (.return_, 1) := by decide +kernel
theorem dX8_above_0 : decode cX8_above 0 = .ok (.iload_n 0, 1) := by decide +kernel
theorem dX8_above_1 : decode cX8_above 1 = .ok (.iconst 3, 1) := by decide +kernel
theorem dX8_above_2 : decode cX8_above 2 = .ok (.if_icmp .le 9, 3) := by decide +kernel
theorem dX8_above_5 : decode cX8_above 5 = .ok (.iload_n 0, 1) := by decide +kernel
theorem dX8_above_6 : decode cX8_above 6 = .ok (.iconst 3, 1) := by decide +kernel
theorem dX8_above_7 : decode cX8_above 7 = .ok (.isub, 1) := by decide +kernel
theorem dX8_above_8 : decode cX8_above 8 = .ok (.goto 4, 3) := by decide +kernel
theorem dX8_above_11 : decode cX8_above 11 = .ok (.iconst 0, 1) := by decide +kernel
theorem dX8_above_12 : decode cX8_above 12 = .ok (.ireturn, 1) := by decide +kernel
theorem dX8_keepAside_0 : decode cX8_keepAside 0 = .ok (.iconst 0, 1) := by decide +kernel
theorem dX8_keepAside_1 : decode cX8_keepAside 1 = .ok (.istore_n 1, 1) := by decide +kernel
theorem dX8_keepAside_2 : decode cX8_keepAside 2 = .ok (.iload_n 1, 1) := by decide +kernel
theorem dX8_keepAside_3 : decode cX8_keepAside 3 = .ok (.bipush 57, 2) := by decide +kernel
theorem dX8_keepAside_5 : decode cX8_keepAside 5 = .ok (.if_icmp .ge 21, 3) := by decide +kernel
theorem dX8_keepAside_8 : decode cX8_keepAside 8 = .ok (.aload_n 0, 1) := by decide +kernel
theorem dX8_keepAside_9 : decode cX8_keepAside 9 = .ok (.getfield 16, 3) := by decide +kernel
theorem dX8_keepAside_12 : decode cX8_keepAside 12 = .ok (.iload_n 1, 1) := by decide +kernel
theorem dX8_keepAside_13 : decode cX8_keepAside 13 = .ok (.aload_n 0, 1) := by decide +kernel
theorem dX8_keepAside_14 : decode cX8_keepAside 14 = .ok (.getfield 7, 3) := by decide +kernel
theorem dX8_keepAside_17 : decode cX8_keepAside 17 = .ok (.iload_n 1, 1) := by decide +kernel
theorem dX8_keepAside_18 : decode cX8_keepAside 18 = .ok (.iaload, 1) := by decide +kernel
theorem dX8_keepAside_19 : decode cX8_keepAside 19 = .ok (.iastore, 1) := by decide +kernel
theorem dX8_keepAside_20 : decode cX8_keepAside 20 = .ok (.iinc 1 1, 3) := by decide +kernel
theorem dX8_keepAside_23 : decode cX8_keepAside 23 = .ok (.goto (-21), 3) := by decide +kernel
theorem dX8_keepAside_26 : decode cX8_keepAside 26 = .ok (.return_, 1) := by decide +kernel
theorem dX8_putBack_0 : decode cX8_putBack 0 = .ok (.iconst 0, 1) := by decide +kernel
theorem dX8_putBack_1 : decode cX8_putBack 1 = .ok (.istore_n 1, 1) := by decide +kernel
theorem dX8_putBack_2 : decode cX8_putBack 2 = .ok (.iload_n 1, 1) := by decide +kernel
theorem dX8_putBack_3 : decode cX8_putBack 3 = .ok (.bipush 57, 2) := by decide +kernel
theorem dX8_putBack_5 : decode cX8_putBack 5 = .ok (.if_icmp .ge 21, 3) := by decide +kernel
theorem dX8_putBack_8 : decode cX8_putBack 8 = .ok (.aload_n 0, 1) := by decide +kernel
theorem dX8_putBack_9 : decode cX8_putBack 9 = .ok (.getfield 7, 3) := by decide +kernel
theorem dX8_putBack_12 : decode cX8_putBack 12 = .ok (.iload_n 1, 1) := by decide +kernel
theorem dX8_putBack_13 : decode cX8_putBack 13 = .ok (.aload_n 0, 1) := by decide +kernel
theorem dX8_putBack_14 : decode cX8_putBack 14 = .ok (.getfield 16, 3) := by decide +kernel
theorem dX8_putBack_17 : decode cX8_putBack 17 = .ok (.iload_n 1, 1) := by decide +kernel
theorem dX8_putBack_18 : decode cX8_putBack 18 = .ok (.iaload, 1) := by decide +kernel
theorem dX8_putBack_19 : decode cX8_putBack 19 = .ok (.iastore, 1) := by decide +kernel
theorem dX8_putBack_20 : decode cX8_putBack 20 = .ok (.iinc 1 1, 3) := by decide +kernel
theorem dX8_putBack_23 : decode cX8_putBack 23 = .ok (.goto (-21), 3) := by decide +kernel
theorem dX8_putBack_26 : decode cX8_putBack 26 = .ok (.return_, 1) := by decide +kernel
theorem dX8_here_0 : decode cX8_here 0 = .ok (.aload_n 0, 1) := by decide +kernel
theorem dX8_here_1 : decode cX8_here 1 = .ok (.getfield 61, 3) := by decide +kernel
theorem dX8_here_4 : decode cX8_here 4 = .ok (.aload_n 0, 1) := by decide +kernel
theorem dX8_here_5 : decode cX8_here 5 = .ok (.getfield 65, 3) := by decide +kernel
theorem dX8_here_8 : decode cX8_here 8 = .ok (.if_icmp .ge 27, 3) := by decide +kernel
theorem dX8_here_11 : decode cX8_here 11 = .ok (.aload_n 0, 1) := by decide +kernel
theorem dX8_here_12 : decode cX8_here 12 = .ok (.getfield 68, 3) := by decide +kernel
theorem dX8_here_15 : decode cX8_here 15 = .ok (.ifCond .ge 20, 3) := by decide +kernel
theorem dX8_here_18 : decode cX8_here 18 = .ok (.aload_n 0, 1) := by decide +kernel
theorem dX8_here_19 : decode cX8_here 19 = .ok (.getfield 7, 3) := by decide +kernel
theorem dX8_here_22 : decode cX8_here 22 = .ok (.aload_n 0, 1) := by decide +kernel
theorem dX8_here_23 : decode cX8_here 23 = .ok (.getfield 71, 3) := by decide +kernel
theorem dX8_here_26 : decode cX8_here 26 = .ok (.aload_n 0, 1) := by decide +kernel
theorem dX8_here_27 : decode cX8_here 27 = .ok (.getfield 61, 3) := by decide +kernel
theorem dX8_here_30 : decode cX8_here 30 = .ok (.iadd, 1) := by decide +kernel
theorem dX8_here_31 : decode cX8_here 31 = .ok (.iaload, 1) := by decide +kernel
theorem dX8_here_32 : decode cX8_here 32 = .ok (.goto 4, 3) := by decide +kernel
theorem dX8_here_35 : decode cX8_here 35 = .ok (.iconst (-1), 1) := by decide +kernel
theorem dX8_here_36 : decode cX8_here 36 = .ok (.ireturn, 1) := by decide +kernel
theorem dX8_wrong_0 : decode cX8_wrong 0 = .ok (.aload_n 0, 1) := by decide +kernel
theorem dX8_wrong_1 : decode cX8_wrong 1 = .ok (.aload_n 0, 1) := by decide +kernel
theorem dX8_wrong_2 : decode cX8_wrong 2 = .ok (.getfield 68, 3) := by decide +kernel
theorem dX8_wrong_5 : decode cX8_wrong 5 = .ok (.ifCond .ge 10, 3) := by decide +kernel
theorem dX8_wrong_8 : decode cX8_wrong 8 = .ok (.aload_n 0, 1) := by decide +kernel
theorem dX8_wrong_9 : decode cX8_wrong 9 = .ok (.getfield 61, 3) := by decide +kernel
theorem dX8_wrong_12 : decode cX8_wrong 12 = .ok (.goto 7, 3) := by decide +kernel
theorem dX8_wrong_15 : decode cX8_wrong 15 = .ok (.aload_n 0, 1) := by decide +kernel
theorem dX8_wrong_16 : decode cX8_wrong 16 = .ok (.getfield 68, 3) := by decide +kernel
theorem dX8_wrong_19 : decode cX8_wrong 19 = .ok (.putfield 68, 3) := by decide +kernel
theorem dX8_wrong_22 : decode cX8_wrong 22 = .ok (.return_, 1) := by decide +kernel
theorem dX8_takes_0 : decode cX8_takes 0 = .ok (.aload_n 0, 1) := by decide +kernel
theorem dX8_takes_1 : decode cX8_takes 1 = .ok (.invokevirtual 74, 3) := by decide +kernel
theorem dX8_takes_4 : decode cX8_takes 4 = .ok (.iload_n 1, 1) := by decide +kernel
theorem dX8_takes_5 : decode cX8_takes 5 = .ok (.if_icmp .eq 5, 3) := by decide +kernel
theorem dX8_takes_8 : decode cX8_takes 8 = .ok (.iconst 0, 1) := by decide +kernel
theorem dX8_takes_9 : decode cX8_takes 9 = .ok (.ireturn, 1) := by decide +kernel
theorem dX8_takes_10 : decode cX8_takes 10 = .ok (.aload_n 0, 1) := by decide +kernel
theorem dX8_takes_11 : decode cX8_takes 11 = .ok (.dup, 1) := by decide +kernel
theorem dX8_takes_12 : decode cX8_takes 12 = .ok (.getfield 61, 3) := by decide +kernel
theorem dX8_takes_15 : decode cX8_takes 15 = .ok (.iconst 1, 1) := by decide +kernel
theorem dX8_takes_16 : decode cX8_takes 16 = .ok (.iadd, 1) := by decide +kernel
theorem dX8_takes_17 : decode cX8_takes 17 = .ok (.putfield 61, 3) := by decide +kernel
theorem dX8_takes_20 : decode cX8_takes 20 = .ok (.iconst 1, 1) := by decide +kernel
theorem dX8_takes_21 : decode cX8_takes 21 = .ok (.ireturn, 1) := by decide +kernel
theorem dX8_nameOf_0 : decode cX8_nameOf 0 = .ok (.iload_n 1, 1) := by decide +kernel
theorem dX8_nameOf_1 : decode cX8_nameOf 1 = .ok (.aload_n 0, 1) := by decide +kernel
theorem dX8_nameOf_2 : decode cX8_nameOf 2 = .ok (.getfield 78, 3) := by decide +kernel
theorem dX8_nameOf_5 : decode cX8_nameOf 5 = .ok (.ifCond .eq 8, 3) := by decide +kernel
theorem dX8_nameOf_8 : decode cX8_nameOf 8 = .ok (.bipush 100, 2) := by decide +kernel
theorem dX8_nameOf_10 : decode cX8_nameOf 10 = .ok (.goto 5, 3) := by decide +kernel
theorem dX8_nameOf_13 : decode cX8_nameOf 13 = .ok (.bipush 102, 2) := by decide +kernel
theorem dX8_nameOf_15 : decode cX8_nameOf 15 = .ok (.if_icmp .ne 7, 3) := by decide +kernel
theorem dX8_nameOf_18 : decode cX8_nameOf 18 = .ok (.iconst 0, 1) := by decide +kernel
theorem dX8_nameOf_19 : decode cX8_nameOf 19 = .ok (.goto 48, 3) := by decide +kernel
theorem dX8_nameOf_22 : decode cX8_nameOf 22 = .ok (.iload_n 1, 1) := by decide +kernel
theorem dX8_nameOf_23 : decode cX8_nameOf 23 = .ok (.aload_n 0, 1) := by decide +kernel
theorem dX8_nameOf_24 : decode cX8_nameOf 24 = .ok (.getfield 78, 3) := by decide +kernel
theorem dX8_nameOf_27 : decode cX8_nameOf 27 = .ok (.ifCond .eq 8, 3) := by decide +kernel
theorem dX8_nameOf_30 : decode cX8_nameOf 30 = .ok (.bipush 114, 2) := by decide +kernel
theorem dX8_nameOf_32 : decode cX8_nameOf 32 = .ok (.goto 5, 3) := by decide +kernel
theorem dX8_nameOf_35 : decode cX8_nameOf 35 = .ok (.bipush 104, 2) := by decide +kernel
theorem dX8_nameOf_37 : decode cX8_nameOf 37 = .ok (.if_icmp .ne 7, 3) := by decide +kernel
theorem dX8_nameOf_40 : decode cX8_nameOf 40 = .ok (.iconst 1, 1) := by decide +kernel
theorem dX8_nameOf_41 : decode cX8_nameOf 41 = .ok (.goto 26, 3) := by decide +kernel
theorem dX8_nameOf_44 : decode cX8_nameOf 44 = .ok (.iload_n 1, 1) := by decide +kernel
theorem dX8_nameOf_45 : decode cX8_nameOf 45 = .ok (.aload_n 0, 1) := by decide +kernel
theorem dX8_nameOf_46 : decode cX8_nameOf 46 = .ok (.getfield 78, 3) := by decide +kernel
theorem dX8_nameOf_49 : decode cX8_nameOf 49 = .ok (.ifCond .eq 8, 3) := by decide +kernel
theorem dX8_nameOf_52 : decode cX8_nameOf 52 = .ok (.bipush 104, 2) := by decide +kernel
theorem dX8_nameOf_54 : decode cX8_nameOf 54 = .ok (.goto 5, 3) := by decide +kernel
theorem dX8_nameOf_57 : decode cX8_nameOf 57 = .ok (.bipush 119, 2) := by decide +kernel
theorem dX8_nameOf_59 : decode cX8_nameOf 59 = .ok (.if_icmp .ne 7, 3) := by decide +kernel
theorem dX8_nameOf_62 : decode cX8_nameOf 62 = .ok (.iconst 2, 1) := by decide +kernel
theorem dX8_nameOf_63 : decode cX8_nameOf 63 = .ok (.goto 4, 3) := by decide +kernel
theorem dX8_nameOf_66 : decode cX8_nameOf 66 = .ok (.iconst (-1), 1) := by decide +kernel
theorem dX8_nameOf_67 : decode cX8_nameOf 67 = .ok (.ireturn, 1) := by decide +kernel
theorem dX8_lay_0 : decode cX8_lay 0 = .ok (.aload_n 0, 1) := by decide +kernel
theorem dX8_lay_1 : decode cX8_lay 1 = .ok (.getfield 68, 3) := by decide +kernel
theorem dX8_lay_4 : decode cX8_lay 4 = .ok (.ifCond .ge 23, 3) := by decide +kernel
theorem dX8_lay_7 : decode cX8_lay 7 = .ok (.aload_n 0, 1) := by decide +kernel
theorem dX8_lay_8 : decode cX8_lay 8 = .ok (.getfield 25, 3) := by decide +kernel
theorem dX8_lay_11 : decode cX8_lay 11 = .ok (.aload_n 0, 1) := by decide +kernel
theorem dX8_lay_12 : decode cX8_lay 12 = .ok (.getfield 82, 3) := by decide +kernel
theorem dX8_lay_15 : decode cX8_lay 15 = .ok (.iload_n 1, 1) := by decide +kernel
theorem dX8_lay_16 : decode cX8_lay 16 = .ok (.iastore, 1) := by decide +kernel
theorem dX8_lay_17 : decode cX8_lay 17 = .ok (.aload_n 0, 1) := by decide +kernel
theorem dX8_lay_18 : decode cX8_lay 18 = .ok (.dup, 1) := by decide +kernel
theorem dX8_lay_19 : decode cX8_lay 19 = .ok (.getfield 82, 3) := by decide +kernel
theorem dX8_lay_22 : decode cX8_lay 22 = .ok (.iconst 1, 1) := by decide +kernel
theorem dX8_lay_23 : decode cX8_lay 23 = .ok (.iadd, 1) := by decide +kernel
theorem dX8_lay_24 : decode cX8_lay 24 = .ok (.putfield 82, 3) := by decide +kernel
theorem dX8_lay_27 : decode cX8_lay 27 = .ok (.return_, 1) := by decide +kernel
theorem dX8_either_0 : decode cX8_either 0 = .ok (.aload_n 0, 1) := by decide +kernel
theorem dX8_either_1 : decode cX8_either 1 = .ok (.invokevirtual 85, 3) := by decide +kernel
theorem dX8_either_4 : decode cX8_either 4 = .ok (.aload_n 0, 1) := by decide +kernel
theorem dX8_either_5 : decode cX8_either 5 = .ok (.bipush 124, 2) := by decide +kernel
theorem dX8_either_7 : decode cX8_either 7 = .ok (.invokevirtual 88, 3) := by decide +kernel
theorem dX8_either_10 : decode cX8_either 10 = .ok (.ifCond .eq 17, 3) := by decide +kernel
theorem dX8_either_13 : decode cX8_either 13 = .ok (.aload_n 0, 1) := by decide +kernel
theorem dX8_either_14 : decode cX8_either 14 = .ok (.invokevirtual 85, 3) := by decide +kernel
theorem dX8_either_17 : decode cX8_either 17 = .ok (.aload_n 0, 1) := by decide +kernel
theorem dX8_either_18 : decode cX8_either 18 = .ok (.sipush 20124, 3) := by decide +kernel
theorem dX8_either_21 : decode cX8_either 21 = .ok (.invokevirtual 92, 3) := by decide +kernel
theorem dX8_either_24 : decode cX8_either 24 = .ok (.goto (-20), 3) := by decide +kernel
theorem dX8_either_27 : decode cX8_either 27 = .ok (.return_, 1) := by decide +kernel
theorem dX8_both_0 : decode cX8_both 0 = .ok (.aload_n 0, 1) := by decide +kernel
theorem dX8_both_1 : decode cX8_both 1 = .ok (.invokevirtual 96, 3) := by decide +kernel
theorem dX8_both_4 : decode cX8_both 4 = .ok (.aload_n 0, 1) := by decide +kernel
theorem dX8_both_5 : decode cX8_both 5 = .ok (.bipush 38, 2) := by decide +kernel
theorem dX8_both_7 : decode cX8_both 7 = .ok (.invokevirtual 88, 3) := by decide +kernel
theorem dX8_both_10 : decode cX8_both 10 = .ok (.ifCond .eq 17, 3) := by decide +kernel
theorem dX8_both_13 : decode cX8_both 13 = .ok (.aload_n 0, 1) := by decide +kernel
theorem dX8_both_14 : decode cX8_both 14 = .ok (.invokevirtual 96, 3) := by decide +kernel
theorem dX8_both_17 : decode cX8_both 17 = .ok (.aload_n 0, 1) := by decide +kernel
theorem dX8_both_18 : decode cX8_both 18 = .ok (.sipush 20038, 3) := by decide +kernel
theorem dX8_both_21 : decode cX8_both 21 = .ok (.invokevirtual 92, 3) := by decide +kernel
theorem dX8_both_24 : decode cX8_both 24 = .ok (.goto (-20), 3) := by decide +kernel
theorem dX8_both_27 : decode cX8_both 27 = .ok (.return_, 1) := by decide +kernel
theorem dX8_compared_0 : decode cX8_compared 0 = .ok (.aload_n 0, 1) := by decide +kernel
theorem dX8_compared_1 : decode cX8_compared 1 = .ok (.invokevirtual 99, 3) := by decide +kernel
theorem dX8_compared_4 : decode cX8_compared 4 = .ok (.aload_n 0, 1) := by decide +kernel
theorem dX8_compared_5 : decode cX8_compared 5 = .ok (.invokevirtual 74, 3) := by decide +kernel
theorem dX8_compared_8 : decode cX8_compared 8 = .ok (.istore_n 1, 1) := by decide +kernel
theorem dX8_compared_9 : decode cX8_compared 9 = .ok (.iload_n 1, 1) := by decide +kernel
theorem dX8_compared_10 : decode cX8_compared 10 = .ok (.bipush 60, 2) := by decide +kernel
theorem dX8_compared_12 : decode cX8_compared 12 = .ok (.if_icmp .eq 15, 3) := by decide +kernel
theorem dX8_compared_15 : decode cX8_compared 15 = .ok (.iload_n 1, 1) := by decide +kernel
theorem dX8_compared_16 : decode cX8_compared 16 = .ok (.bipush 61, 2) := by decide +kernel
theorem dX8_compared_18 : decode cX8_compared 18 = .ok (.if_icmp .eq 9, 3) := by decide +kernel
theorem dX8_compared_21 : decode cX8_compared 21 = .ok (.iload_n 1, 1) := by decide +kernel
theorem dX8_compared_22 : decode cX8_compared 22 = .ok (.bipush 62, 2) := by decide +kernel
theorem dX8_compared_24 : decode cX8_compared 24 = .ok (.if_icmp .ne 26, 3) := by decide +kernel
theorem dX8_compared_27 : decode cX8_compared 27 = .ok (.aload_n 0, 1) := by decide +kernel
theorem dX8_compared_28 : decode cX8_compared 28 = .ok (.dup, 1) := by decide +kernel
theorem dX8_compared_29 : decode cX8_compared 29 = .ok (.getfield 61, 3) := by decide +kernel
theorem dX8_compared_32 : decode cX8_compared 32 = .ok (.iconst 1, 1) := by decide +kernel
theorem dX8_compared_33 : decode cX8_compared 33 = .ok (.iadd, 1) := by decide +kernel
theorem dX8_compared_34 : decode cX8_compared 34 = .ok (.putfield 61, 3) := by decide +kernel
theorem dX8_compared_37 : decode cX8_compared 37 = .ok (.aload_n 0, 1) := by decide +kernel
theorem dX8_compared_38 : decode cX8_compared 38 = .ok (.invokevirtual 99, 3) := by decide +kernel
theorem dX8_compared_41 : decode cX8_compared 41 = .ok (.aload_n 0, 1) := by decide +kernel
theorem dX8_compared_42 : decode cX8_compared 42 = .ok (.sipush 20000, 3) := by decide +kernel
theorem dX8_compared_45 : decode cX8_compared 45 = .ok (.iload_n 1, 1) := by decide +kernel
theorem dX8_compared_46 : decode cX8_compared 46 = .ok (.iadd, 1) := by decide +kernel
theorem dX8_compared_47 : decode cX8_compared 47 = .ok (.invokevirtual 92, 3) := by decide +kernel
theorem dX8_compared_50 : decode cX8_compared 50 = .ok (.return_, 1) := by decide +kernel
theorem dX8_sum_0 : decode cX8_sum 0 = .ok (.aload_n 0, 1) := by decide +kernel
theorem dX8_sum_1 : decode cX8_sum 1 = .ok (.invokevirtual 102, 3) := by decide +kernel
theorem dX8_sum_4 : decode cX8_sum 4 = .ok (.aload_n 0, 1) := by decide +kernel
theorem dX8_sum_5 : decode cX8_sum 5 = .ok (.invokevirtual 74, 3) := by decide +kernel
theorem dX8_sum_8 : decode cX8_sum 8 = .ok (.bipush 43, 2) := by decide +kernel
theorem dX8_sum_10 : decode cX8_sum 10 = .ok (.if_icmp .eq 12, 3) := by decide +kernel
theorem dX8_sum_13 : decode cX8_sum 13 = .ok (.aload_n 0, 1) := by decide +kernel
theorem dX8_sum_14 : decode cX8_sum 14 = .ok (.invokevirtual 74, 3) := by decide +kernel
theorem dX8_sum_17 : decode cX8_sum 17 = .ok (.bipush 45, 2) := by decide +kernel
theorem dX8_sum_19 : decode cX8_sum 19 = .ok (.if_icmp .ne 34, 3) := by decide +kernel
theorem dX8_sum_22 : decode cX8_sum 22 = .ok (.aload_n 0, 1) := by decide +kernel
theorem dX8_sum_23 : decode cX8_sum 23 = .ok (.invokevirtual 74, 3) := by decide +kernel
theorem dX8_sum_26 : decode cX8_sum 26 = .ok (.istore_n 1, 1) := by decide +kernel
theorem dX8_sum_27 : decode cX8_sum 27 = .ok (.aload_n 0, 1) := by decide +kernel
theorem dX8_sum_28 : decode cX8_sum 28 = .ok (.dup, 1) := by decide +kernel
theorem dX8_sum_29 : decode cX8_sum 29 = .ok (.getfield 61, 3) := by decide +kernel
theorem dX8_sum_32 : decode cX8_sum 32 = .ok (.iconst 1, 1) := by decide +kernel
theorem dX8_sum_33 : decode cX8_sum 33 = .ok (.iadd, 1) := by decide +kernel
theorem dX8_sum_34 : decode cX8_sum 34 = .ok (.putfield 61, 3) := by decide +kernel
theorem dX8_sum_37 : decode cX8_sum 37 = .ok (.aload_n 0, 1) := by decide +kernel
theorem dX8_sum_38 : decode cX8_sum 38 = .ok (.invokevirtual 102, 3) := by decide +kernel
theorem dX8_sum_41 : decode cX8_sum 41 = .ok (.aload_n 0, 1) := by decide +kernel
theorem dX8_sum_42 : decode cX8_sum 42 = .ok (.sipush 20000, 3) := by decide +kernel
theorem dX8_sum_45 : decode cX8_sum 45 = .ok (.iload_n 1, 1) := by decide +kernel
theorem dX8_sum_46 : decode cX8_sum 46 = .ok (.iadd, 1) := by decide +kernel
theorem dX8_sum_47 : decode cX8_sum 47 = .ok (.invokevirtual 92, 3) := by decide +kernel
theorem dX8_sum_50 : decode cX8_sum 50 = .ok (.goto (-46), 3) := by decide +kernel
theorem dX8_sum_53 : decode cX8_sum 53 = .ok (.return_, 1) := by decide +kernel
theorem dX8_product_0 : decode cX8_product 0 = .ok (.aload_n 0, 1) := by decide +kernel
theorem dX8_product_1 : decode cX8_product 1 = .ok (.invokevirtual 105, 3) := by decide +kernel
theorem dX8_product_4 : decode cX8_product 4 = .ok (.aload_n 0, 1) := by decide +kernel
theorem dX8_product_5 : decode cX8_product 5 = .ok (.invokevirtual 74, 3) := by decide +kernel
theorem dX8_product_8 : decode cX8_product 8 = .ok (.bipush 42, 2) := by decide +kernel
theorem dX8_product_10 : decode cX8_product 10 = .ok (.if_icmp .eq 21, 3) := by decide +kernel
theorem dX8_product_13 : decode cX8_product 13 = .ok (.aload_n 0, 1) := by decide +kernel
theorem dX8_product_14 : decode cX8_product 14 = .ok (.invokevirtual 74, 3) := by decide +kernel
theorem dX8_product_17 : decode cX8_product 17 = .ok (.bipush 47, 2) := by decide +kernel
theorem dX8_product_19 : decode cX8_product 19 = .ok (.if_icmp .eq 12, 3) := by decide +kernel
theorem dX8_product_22 : decode cX8_product 22 = .ok (.aload_n 0, 1) := by decide +kernel
theorem dX8_product_23 : decode cX8_product 23 = .ok (.invokevirtual 74, 3) := by decide +kernel
theorem dX8_product_26 : decode cX8_product 26 = .ok (.bipush 37, 2) := by decide +kernel
theorem dX8_product_28 : decode cX8_product 28 = .ok (.if_icmp .ne 34, 3) := by decide +kernel
theorem dX8_product_31 : decode cX8_product 31 = .ok (.aload_n 0, 1) := by decide +kernel
theorem dX8_product_32 : decode cX8_product 32 = .ok (.invokevirtual 74, 3) := by decide +kernel
theorem dX8_product_35 : decode cX8_product 35 = .ok (.istore_n 1, 1) := by decide +kernel
theorem dX8_product_36 : decode cX8_product 36 = .ok (.aload_n 0, 1) := by decide +kernel
theorem dX8_product_37 : decode cX8_product 37 = .ok (.dup, 1) := by decide +kernel
theorem dX8_product_38 : decode cX8_product 38 = .ok (.getfield 61, 3) := by decide +kernel
theorem dX8_product_41 : decode cX8_product 41 = .ok (.iconst 1, 1) := by decide +kernel
theorem dX8_product_42 : decode cX8_product 42 = .ok (.iadd, 1) := by decide +kernel
theorem dX8_product_43 : decode cX8_product 43 = .ok (.putfield 61, 3) := by decide +kernel
theorem dX8_product_46 : decode cX8_product 46 = .ok (.aload_n 0, 1) := by decide +kernel
theorem dX8_product_47 : decode cX8_product 47 = .ok (.invokevirtual 105, 3) := by decide +kernel
theorem dX8_product_50 : decode cX8_product 50 = .ok (.aload_n 0, 1) := by decide +kernel
theorem dX8_product_51 : decode cX8_product 51 = .ok (.sipush 20000, 3) := by decide +kernel
theorem dX8_product_54 : decode cX8_product 54 = .ok (.iload_n 1, 1) := by decide +kernel
theorem dX8_product_55 : decode cX8_product 55 = .ok (.iadd, 1) := by decide +kernel
theorem dX8_product_56 : decode cX8_product 56 = .ok (.invokevirtual 92, 3) := by decide +kernel
theorem dX8_product_59 : decode cX8_product 59 = .ok (.goto (-55), 3) := by decide +kernel
theorem dX8_product_62 : decode cX8_product 62 = .ok (.return_, 1) := by decide +kernel
theorem dX8_opens_0 : decode cX8_opens 0 = .ok (.aload_n 0, 1) := by decide +kernel
theorem dX8_opens_1 : decode cX8_opens 1 = .ok (.getfield 108, 3) := by decide +kernel
theorem dX8_opens_4 : decode cX8_opens 4 = .ok (.iconst 5, 1) := by decide +kernel
theorem dX8_opens_5 : decode cX8_opens 5 = .ok (.if_icmp .ne 8, 3) := by decide +kernel
theorem dX8_opens_8 : decode cX8_opens 8 = .ok (.aload_n 0, 1) := by decide +kernel
theorem dX8_opens_9 : decode cX8_opens 9 = .ok (.invokevirtual 111, 3) := by decide +kernel
theorem dX8_opens_12 : decode cX8_opens 12 = .ok (.return_, 1) := by decide +kernel
theorem dX8_opens_13 : decode cX8_opens 13 = .ok (.aload_n 0, 1) := by decide +kernel
theorem dX8_opens_14 : decode cX8_opens 14 = .ok (.dup, 1) := by decide +kernel
theorem dX8_opens_15 : decode cX8_opens 15 = .ok (.getfield 108, 3) := by decide +kernel
theorem dX8_opens_18 : decode cX8_opens 18 = .ok (.iconst 1, 1) := by decide +kernel
theorem dX8_opens_19 : decode cX8_opens 19 = .ok (.iadd, 1) := by decide +kernel
theorem dX8_opens_20 : decode cX8_opens 20 = .ok (.putfield 108, 3) := by decide +kernel
theorem dX8_opens_23 : decode cX8_opens 23 = .ok (.aload_n 0, 1) := by decide +kernel
theorem dX8_opens_24 : decode cX8_opens 24 = .ok (.dup, 1) := by decide +kernel
theorem dX8_opens_25 : decode cX8_opens 25 = .ok (.getfield 61, 3) := by decide +kernel
theorem dX8_opens_28 : decode cX8_opens 28 = .ok (.iconst 1, 1) := by decide +kernel
theorem dX8_opens_29 : decode cX8_opens 29 = .ok (.iadd, 1) := by decide +kernel
theorem dX8_opens_30 : decode cX8_opens 30 = .ok (.putfield 61, 3) := by decide +kernel
theorem dX8_opens_33 : decode cX8_opens 33 = .ok (.iload_n 1, 1) := by decide +kernel
theorem dX8_opens_34 : decode cX8_opens 34 = .ok (.bipush 33, 2) := by decide +kernel
theorem dX8_opens_36 : decode cX8_opens 36 = .ok (.if_icmp .ne 17, 3) := by decide +kernel
theorem dX8_opens_39 : decode cX8_opens 39 = .ok (.aload_n 0, 1) := by decide +kernel
theorem dX8_opens_40 : decode cX8_opens 40 = .ok (.invokevirtual 105, 3) := by decide +kernel
theorem dX8_opens_43 : decode cX8_opens 43 = .ok (.aload_n 0, 1) := by decide +kernel
theorem dX8_opens_44 : decode cX8_opens 44 = .ok (.sipush 20033, 3) := by decide +kernel
theorem dX8_opens_47 : decode cX8_opens 47 = .ok (.invokevirtual 92, 3) := by decide +kernel
theorem dX8_opens_50 : decode cX8_opens 50 = .ok (.goto 20, 3) := by decide +kernel
theorem dX8_opens_53 : decode cX8_opens 53 = .ok (.aload_n 0, 1) := by decide +kernel
theorem dX8_opens_54 : decode cX8_opens 54 = .ok (.invokevirtual 114, 3) := by decide +kernel
theorem dX8_opens_57 : decode cX8_opens 57 = .ok (.aload_n 0, 1) := by decide +kernel
theorem dX8_opens_58 : decode cX8_opens 58 = .ok (.bipush 41, 2) := by decide +kernel
theorem dX8_opens_60 : decode cX8_opens 60 = .ok (.invokevirtual 88, 3) := by decide +kernel
theorem dX8_opens_63 : decode cX8_opens 63 = .ok (.ifCond .ne 7, 3) := by decide +kernel
theorem dX8_opens_66 : decode cX8_opens 66 = .ok (.aload_n 0, 1) := by decide +kernel
theorem dX8_opens_67 : decode cX8_opens 67 = .ok (.invokevirtual 111, 3) := by decide +kernel
theorem dX8_opens_70 : decode cX8_opens 70 = .ok (.aload_n 0, 1) := by decide +kernel
theorem dX8_opens_71 : decode cX8_opens 71 = .ok (.dup, 1) := by decide +kernel
theorem dX8_opens_72 : decode cX8_opens 72 = .ok (.getfield 108, 3) := by decide +kernel
theorem dX8_opens_75 : decode cX8_opens 75 = .ok (.iconst 1, 1) := by decide +kernel
theorem dX8_opens_76 : decode cX8_opens 76 = .ok (.isub, 1) := by decide +kernel
theorem dX8_opens_77 : decode cX8_opens 77 = .ok (.putfield 108, 3) := by decide +kernel
theorem dX8_opens_80 : decode cX8_opens 80 = .ok (.return_, 1) := by decide +kernel
theorem dX8_unit_0 : decode cX8_unit 0 = .ok (.aload_n 0, 1) := by decide +kernel
theorem dX8_unit_1 : decode cX8_unit 1 = .ok (.invokevirtual 74, 3) := by decide +kernel
theorem dX8_unit_4 : decode cX8_unit 4 = .ok (.istore_n 1, 1) := by decide +kernel
theorem dX8_unit_5 : decode cX8_unit 5 = .ok (.iload_n 1, 1) := by decide +kernel
theorem dX8_unit_6 : decode cX8_unit 6 = .ok (.bipush 33, 2) := by decide +kernel
theorem dX8_unit_8 : decode cX8_unit 8 = .ok (.if_icmp .eq 9, 3) := by decide +kernel
theorem dX8_unit_11 : decode cX8_unit 11 = .ok (.iload_n 1, 1) := by decide +kernel
theorem dX8_unit_12 : decode cX8_unit 12 = .ok (.bipush 40, 2) := by decide +kernel
theorem dX8_unit_14 : decode cX8_unit 14 = .ok (.if_icmp .ne 9, 3) := by decide +kernel
theorem dX8_unit_17 : decode cX8_unit 17 = .ok (.aload_n 0, 1) := by decide +kernel
theorem dX8_unit_18 : decode cX8_unit 18 = .ok (.iload_n 1, 1) := by decide +kernel
theorem dX8_unit_19 : decode cX8_unit 19 = .ok (.invokevirtual 117, 3) := by decide +kernel
theorem dX8_unit_22 : decode cX8_unit 22 = .ok (.return_, 1) := by decide +kernel
theorem dX8_unit_23 : decode cX8_unit 23 = .ok (.aload_n 0, 1) := by decide +kernel
theorem dX8_unit_24 : decode cX8_unit 24 = .ok (.iload_n 1, 1) := by decide +kernel
theorem dX8_unit_25 : decode cX8_unit 25 = .ok (.invokevirtual 120, 3) := by decide +kernel
theorem dX8_unit_28 : decode cX8_unit 28 = .ok (.istore_n 2, 1) := by decide +kernel
theorem dX8_unit_29 : decode cX8_unit 29 = .ok (.iload_n 2, 1) := by decide +kernel
theorem dX8_unit_30 : decode cX8_unit 30 = .ok (.ifCond .lt 23, 3) := by decide +kernel
theorem dX8_unit_33 : decode cX8_unit 33 = .ok (.aload_n 0, 1) := by decide +kernel
theorem dX8_unit_34 : decode cX8_unit 34 = .ok (.dup, 1) := by decide +kernel
theorem dX8_unit_35 : decode cX8_unit 35 = .ok (.getfield 61, 3) := by decide +kernel
theorem dX8_unit_38 : decode cX8_unit 38 = .ok (.iconst 1, 1) := by decide +kernel
theorem dX8_unit_39 : decode cX8_unit 39 = .ok (.iadd, 1) := by decide +kernel
theorem dX8_unit_40 : decode cX8_unit 40 = .ok (.putfield 61, 3) := by decide +kernel
theorem dX8_unit_43 : decode cX8_unit 43 = .ok (.aload_n 0, 1) := by decide +kernel
theorem dX8_unit_44 : decode cX8_unit 44 = .ok (.sipush 10000, 3) := by decide +kernel
theorem dX8_unit_47 : decode cX8_unit 47 = .ok (.iload_n 2, 1) := by decide +kernel
theorem dX8_unit_48 : decode cX8_unit 48 = .ok (.iadd, 1) := by decide +kernel
theorem dX8_unit_49 : decode cX8_unit 49 = .ok (.invokevirtual 92, 3) := by decide +kernel
theorem dX8_unit_52 : decode cX8_unit 52 = .ok (.return_, 1) := by decide +kernel
theorem dX8_unit_53 : decode cX8_unit 53 = .ok (.iconst 0, 1) := by decide +kernel
theorem dX8_unit_54 : decode cX8_unit 54 = .ok (.istore_n 3, 1) := by decide +kernel
theorem dX8_unit_55 : decode cX8_unit 55 = .ok (.iconst 0, 1) := by decide +kernel
theorem dX8_unit_56 : decode cX8_unit 56 = .ok (.istore 4, 2) := by decide +kernel
theorem dX8_unit_58 : decode cX8_unit 58 = .ok (.iload 4, 2) := by decide +kernel
theorem dX8_unit_60 : decode cX8_unit 60 = .ok (.iconst 4, 1) := by decide +kernel
theorem dX8_unit_61 : decode cX8_unit 61 = .ok (.if_icmp .ge 49, 3) := by decide +kernel
theorem dX8_unit_64 : decode cX8_unit 64 = .ok (.aload_n 0, 1) := by decide +kernel
theorem dX8_unit_65 : decode cX8_unit 65 = .ok (.invokevirtual 74, 3) := by decide +kernel
theorem dX8_unit_68 : decode cX8_unit 68 = .ok (.i2l, 1) := by decide +kernel
theorem dX8_unit_69 : decode cX8_unit 69 = .ok (.ldc2_w 124, 3) := by decide +kernel
theorem dX8_unit_72 : decode cX8_unit 72 = .ok (.ldc2_w 126, 3) := by decide +kernel
theorem dX8_unit_75 : decode cX8_unit 75 = .ok (.invokestatic 53, 3) := by decide +kernel
theorem dX8_unit_78 : decode cX8_unit 78 = .ok (.ifCond .eq 32, 3) := by decide +kernel
theorem dX8_unit_81 : decode cX8_unit 81 = .ok (.bipush 10, 2) := by decide +kernel
theorem dX8_unit_83 : decode cX8_unit 83 = .ok (.iload_n 3, 1) := by decide +kernel
theorem dX8_unit_84 : decode cX8_unit 84 = .ok (.imul, 1) := by decide +kernel
theorem dX8_unit_85 : decode cX8_unit 85 = .ok (.aload_n 0, 1) := by decide +kernel
theorem dX8_unit_86 : decode cX8_unit 86 = .ok (.invokevirtual 74, 3) := by decide +kernel
theorem dX8_unit_89 : decode cX8_unit 89 = .ok (.iadd, 1) := by decide +kernel
theorem dX8_unit_90 : decode cX8_unit 90 = .ok (.bipush 48, 2) := by decide +kernel
theorem dX8_unit_92 : decode cX8_unit 92 = .ok (.isub, 1) := by decide +kernel
theorem dX8_unit_93 : decode cX8_unit 93 = .ok (.istore_n 3, 1) := by decide +kernel
theorem dX8_unit_94 : decode cX8_unit 94 = .ok (.aload_n 0, 1) := by decide +kernel
theorem dX8_unit_95 : decode cX8_unit 95 = .ok (.dup, 1) := by decide +kernel
theorem dX8_unit_96 : decode cX8_unit 96 = .ok (.getfield 61, 3) := by decide +kernel
theorem dX8_unit_99 : decode cX8_unit 99 = .ok (.iconst 1, 1) := by decide +kernel
theorem dX8_unit_100 : decode cX8_unit 100 = .ok (.iadd, 1) := by decide +kernel
theorem dX8_unit_101 : decode cX8_unit 101 = .ok (.putfield 61, 3) := by decide +kernel
theorem dX8_unit_104 : decode cX8_unit 104 = .ok (.iinc 4 1, 3) := by decide +kernel
theorem dX8_unit_107 : decode cX8_unit 107 = .ok (.goto (-49), 3) := by decide +kernel
theorem dX8_unit_110 : decode cX8_unit 110 = .ok (.iload 4, 2) := by decide +kernel
theorem dX8_unit_112 : decode cX8_unit 112 = .ok (.ifCond .ne 7, 3) := by decide +kernel
theorem dX8_unit_115 : decode cX8_unit 115 = .ok (.aload_n 0, 1) := by decide +kernel
theorem dX8_unit_116 : decode cX8_unit 116 = .ok (.invokevirtual 111, 3) := by decide +kernel
theorem dX8_unit_119 : decode cX8_unit 119 = .ok (.aload_n 0, 1) := by decide +kernel
theorem dX8_unit_120 : decode cX8_unit 120 = .ok (.iload_n 3, 1) := by decide +kernel
theorem dX8_unit_121 : decode cX8_unit 121 = .ok (.invokevirtual 92, 3) := by decide +kernel
theorem dX8_unit_124 : decode cX8_unit 124 = .ok (.return_, 1) := by decide +kernel
theorem dX8_reads_0 : decode cX8_reads 0 = .ok (.aload_n 0, 1) := by decide +kernel
theorem dX8_reads_1 : decode cX8_reads 1 = .ok (.iload_n 1, 1) := by decide +kernel
theorem dX8_reads_2 : decode cX8_reads 2 = .ok (.putfield 71, 3) := by decide +kernel
theorem dX8_reads_5 : decode cX8_reads 5 = .ok (.aload_n 0, 1) := by decide +kernel
theorem dX8_reads_6 : decode cX8_reads 6 = .ok (.iconst 0, 1) := by decide +kernel
theorem dX8_reads_7 : decode cX8_reads 7 = .ok (.putfield 61, 3) := by decide +kernel
theorem dX8_reads_10 : decode cX8_reads 10 = .ok (.aload_n 0, 1) := by decide +kernel
theorem dX8_reads_11 : decode cX8_reads 11 = .ok (.iload_n 2, 1) := by decide +kernel
theorem dX8_reads_12 : decode cX8_reads 12 = .ok (.putfield 65, 3) := by decide +kernel
theorem dX8_reads_15 : decode cX8_reads 15 = .ok (.aload_n 0, 1) := by decide +kernel
theorem dX8_reads_16 : decode cX8_reads 16 = .ok (.iconst (-1), 1) := by decide +kernel
theorem dX8_reads_17 : decode cX8_reads 17 = .ok (.putfield 68, 3) := by decide +kernel
theorem dX8_reads_20 : decode cX8_reads 20 = .ok (.aload_n 0, 1) := by decide +kernel
theorem dX8_reads_21 : decode cX8_reads 21 = .ok (.iconst 0, 1) := by decide +kernel
theorem dX8_reads_22 : decode cX8_reads 22 = .ok (.putfield 108, 3) := by decide +kernel
theorem dX8_reads_25 : decode cX8_reads 25 = .ok (.aload_n 0, 1) := by decide +kernel
theorem dX8_reads_26 : decode cX8_reads 26 = .ok (.iconst 0, 1) := by decide +kernel
theorem dX8_reads_27 : decode cX8_reads 27 = .ok (.putfield 82, 3) := by decide +kernel
theorem dX8_reads_30 : decode cX8_reads 30 = .ok (.aload_n 0, 1) := by decide +kernel
theorem dX8_reads_31 : decode cX8_reads 31 = .ok (.iload_n 3, 1) := by decide +kernel
theorem dX8_reads_32 : decode cX8_reads 32 = .ok (.iconst 1, 1) := by decide +kernel
theorem dX8_reads_33 : decode cX8_reads 33 = .ok (.if_icmp .ne 7, 3) := by decide +kernel
theorem dX8_reads_36 : decode cX8_reads 36 = .ok (.iconst 1, 1) := by decide +kernel
theorem dX8_reads_37 : decode cX8_reads 37 = .ok (.goto 4, 3) := by decide +kernel
theorem dX8_reads_40 : decode cX8_reads 40 = .ok (.iconst 0, 1) := by decide +kernel
theorem dX8_reads_41 : decode cX8_reads 41 = .ok (.putfield 78, 3) := by decide +kernel
theorem dX8_reads_44 : decode cX8_reads 44 = .ok (.aload_n 0, 1) := by decide +kernel
theorem dX8_reads_45 : decode cX8_reads 45 = .ok (.invokevirtual 114, 3) := by decide +kernel
theorem dX8_reads_48 : decode cX8_reads 48 = .ok (.aload_n 0, 1) := by decide +kernel
theorem dX8_reads_49 : decode cX8_reads 49 = .ok (.getfield 68, 3) := by decide +kernel
theorem dX8_reads_52 : decode cX8_reads 52 = .ok (.ifCond .ge 18, 3) := by decide +kernel
theorem dX8_reads_55 : decode cX8_reads 55 = .ok (.aload_n 0, 1) := by decide +kernel
theorem dX8_reads_56 : decode cX8_reads 56 = .ok (.getfield 61, 3) := by decide +kernel
theorem dX8_reads_59 : decode cX8_reads 59 = .ok (.aload_n 0, 1) := by decide +kernel
theorem dX8_reads_60 : decode cX8_reads 60 = .ok (.getfield 65, 3) := by decide +kernel
theorem dX8_reads_63 : decode cX8_reads 63 = .ok (.if_icmp .ge 7, 3) := by decide +kernel
theorem dX8_reads_66 : decode cX8_reads 66 = .ok (.aload_n 0, 1) := by decide +kernel
theorem dX8_reads_67 : decode cX8_reads 67 = .ok (.invokevirtual 111, 3) := by decide +kernel
theorem dX8_reads_70 : decode cX8_reads 70 = .ok (.return_, 1) := by decide +kernel
theorem dX8_done_0 : decode cX8_done 0 = .ok (.iload_n 0, 1) := by decide +kernel
theorem dX8_done_1 : decode cX8_done 1 = .ok (.lookupswitch 168 #[(38, 97), (42, 152), (43, 144), (45, 148), (47, 156), (60, 111), (61, 122), (62, 133), (124, 83)], 83) := by decide +kernel
theorem dX8_done_84 : decode cX8_done 84 = .ok (.iload_n 1, 1) := by decide +kernel
theorem dX8_done_85 : decode cX8_done 85 = .ok (.ifCond .ne 7, 3) := by decide +kernel
theorem dX8_done_88 : decode cX8_done 88 = .ok (.iload_n 2, 1) := by decide +kernel
theorem dX8_done_89 : decode cX8_done 89 = .ok (.ifCond .eq 7, 3) := by decide +kernel
theorem dX8_done_92 : decode cX8_done 92 = .ok (.iconst 1, 1) := by decide +kernel
theorem dX8_done_93 : decode cX8_done 93 = .ok (.goto 4, 3) := by decide +kernel
theorem dX8_done_96 : decode cX8_done 96 = .ok (.iconst 0, 1) := by decide +kernel
theorem dX8_done_97 : decode cX8_done 97 = .ok (.ireturn, 1) := by decide +kernel
theorem dX8_done_98 : decode cX8_done 98 = .ok (.iload_n 1, 1) := by decide +kernel
theorem dX8_done_99 : decode cX8_done 99 = .ok (.ifCond .eq 11, 3) := by decide +kernel
theorem dX8_done_102 : decode cX8_done 102 = .ok (.iload_n 2, 1) := by decide +kernel
theorem dX8_done_103 : decode cX8_done 103 = .ok (.ifCond .eq 7, 3) := by decide +kernel
theorem dX8_done_106 : decode cX8_done 106 = .ok (.iconst 1, 1) := by decide +kernel
theorem dX8_done_107 : decode cX8_done 107 = .ok (.goto 4, 3) := by decide +kernel
theorem dX8_done_110 : decode cX8_done 110 = .ok (.iconst 0, 1) := by decide +kernel
theorem dX8_done_111 : decode cX8_done 111 = .ok (.ireturn, 1) := by decide +kernel
theorem dX8_done_112 : decode cX8_done 112 = .ok (.iload_n 1, 1) := by decide +kernel
theorem dX8_done_113 : decode cX8_done 113 = .ok (.iload_n 2, 1) := by decide +kernel
theorem dX8_done_114 : decode cX8_done 114 = .ok (.if_icmp .ge 7, 3) := by decide +kernel
theorem dX8_done_117 : decode cX8_done 117 = .ok (.iconst 1, 1) := by decide +kernel
theorem dX8_done_118 : decode cX8_done 118 = .ok (.goto 4, 3) := by decide +kernel
theorem dX8_done_121 : decode cX8_done 121 = .ok (.iconst 0, 1) := by decide +kernel
theorem dX8_done_122 : decode cX8_done 122 = .ok (.ireturn, 1) := by decide +kernel
theorem dX8_done_123 : decode cX8_done 123 = .ok (.iload_n 1, 1) := by decide +kernel
theorem dX8_done_124 : decode cX8_done 124 = .ok (.iload_n 2, 1) := by decide +kernel
theorem dX8_done_125 : decode cX8_done 125 = .ok (.if_icmp .ne 7, 3) := by decide +kernel
theorem dX8_done_128 : decode cX8_done 128 = .ok (.iconst 1, 1) := by decide +kernel
theorem dX8_done_129 : decode cX8_done 129 = .ok (.goto 4, 3) := by decide +kernel
theorem dX8_done_132 : decode cX8_done 132 = .ok (.iconst 0, 1) := by decide +kernel
theorem dX8_done_133 : decode cX8_done 133 = .ok (.ireturn, 1) := by decide +kernel
theorem dX8_done_134 : decode cX8_done 134 = .ok (.iload_n 1, 1) := by decide +kernel
theorem dX8_done_135 : decode cX8_done 135 = .ok (.iload_n 2, 1) := by decide +kernel
theorem dX8_done_136 : decode cX8_done 136 = .ok (.if_icmp .le 7, 3) := by decide +kernel
theorem dX8_done_139 : decode cX8_done 139 = .ok (.iconst 1, 1) := by decide +kernel
theorem dX8_done_140 : decode cX8_done 140 = .ok (.goto 4, 3) := by decide +kernel
theorem dX8_done_143 : decode cX8_done 143 = .ok (.iconst 0, 1) := by decide +kernel
theorem dX8_done_144 : decode cX8_done 144 = .ok (.ireturn, 1) := by decide +kernel
theorem dX8_done_145 : decode cX8_done 145 = .ok (.iload_n 1, 1) := by decide +kernel
theorem dX8_done_146 : decode cX8_done 146 = .ok (.iload_n 2, 1) := by decide +kernel
theorem dX8_done_147 : decode cX8_done 147 = .ok (.iadd, 1) := by decide +kernel
theorem dX8_done_148 : decode cX8_done 148 = .ok (.ireturn, 1) := by decide +kernel
theorem dX8_done_149 : decode cX8_done 149 = .ok (.iload_n 1, 1) := by decide +kernel
theorem dX8_done_150 : decode cX8_done 150 = .ok (.iload_n 2, 1) := by decide +kernel
theorem dX8_done_151 : decode cX8_done 151 = .ok (.isub, 1) := by decide +kernel
theorem dX8_done_152 : decode cX8_done 152 = .ok (.ireturn, 1) := by decide +kernel
theorem dX8_done_153 : decode cX8_done 153 = .ok (.iload_n 1, 1) := by decide +kernel
theorem dX8_done_154 : decode cX8_done 154 = .ok (.iload_n 2, 1) := by decide +kernel
theorem dX8_done_155 : decode cX8_done 155 = .ok (.imul, 1) := by decide +kernel
theorem dX8_done_156 : decode cX8_done 156 = .ok (.ireturn, 1) := by decide +kernel
theorem dX8_done_157 : decode cX8_done 157 = .ok (.iload_n 2, 1) := by decide +kernel
theorem dX8_done_158 : decode cX8_done 158 = .ok (.ifCond .ne 7, 3) := by decide +kernel
theorem dX8_done_161 : decode cX8_done 161 = .ok (.iconst 0, 1) := by decide +kernel
theorem dX8_done_162 : decode cX8_done 162 = .ok (.goto 6, 3) := by decide +kernel
theorem dX8_done_165 : decode cX8_done 165 = .ok (.iload_n 1, 1) := by decide +kernel
theorem dX8_done_166 : decode cX8_done 166 = .ok (.iload_n 2, 1) := by decide +kernel
theorem dX8_done_167 : decode cX8_done 167 = .ok (.idiv, 1) := by decide +kernel
theorem dX8_done_168 : decode cX8_done 168 = .ok (.ireturn, 1) := by decide +kernel
theorem dX8_done_169 : decode cX8_done 169 = .ok (.iload_n 2, 1) := by decide +kernel
theorem dX8_done_170 : decode cX8_done 170 = .ok (.ifCond .ne 7, 3) := by decide +kernel
theorem dX8_done_173 : decode cX8_done 173 = .ok (.iconst 0, 1) := by decide +kernel
theorem dX8_done_174 : decode cX8_done 174 = .ok (.goto 6, 3) := by decide +kernel
theorem dX8_done_177 : decode cX8_done 177 = .ok (.iload_n 1, 1) := by decide +kernel
theorem dX8_done_178 : decode cX8_done 178 = .ok (.iload_n 2, 1) := by decide +kernel
theorem dX8_done_179 : decode cX8_done 179 = .ok (.irem, 1) := by decide +kernel
theorem dX8_done_180 : decode cX8_done 180 = .ok (.ireturn, 1) := by decide +kernel
theorem dX8_worked_0 : decode cX8_worked 0 = .ok (.iconst 0, 1) := by decide +kernel
theorem dX8_worked_1 : decode cX8_worked 1 = .ok (.istore_n 3, 1) := by decide +kernel
theorem dX8_worked_2 : decode cX8_worked 2 = .ok (.iload_n 1, 1) := by decide +kernel
theorem dX8_worked_3 : decode cX8_worked 3 = .ok (.istore 4, 2) := by decide +kernel
theorem dX8_worked_5 : decode cX8_worked 5 = .ok (.iload 4, 2) := by decide +kernel
theorem dX8_worked_7 : decode cX8_worked 7 = .ok (.iload_n 1, 1) := by decide +kernel
theorem dX8_worked_8 : decode cX8_worked 8 = .ok (.iload_n 2, 1) := by decide +kernel
theorem dX8_worked_9 : decode cX8_worked 9 = .ok (.iadd, 1) := by decide +kernel
theorem dX8_worked_10 : decode cX8_worked 10 = .ok (.if_icmp .ge 131, 3) := by decide +kernel
theorem dX8_worked_13 : decode cX8_worked 13 = .ok (.aload_n 0, 1) := by decide +kernel
theorem dX8_worked_14 : decode cX8_worked 14 = .ok (.getfield 7, 3) := by decide +kernel
theorem dX8_worked_17 : decode cX8_worked 17 = .ok (.iload 4, 2) := by decide +kernel
theorem dX8_worked_19 : decode cX8_worked 19 = .ok (.iaload, 1) := by decide +kernel
theorem dX8_worked_20 : decode cX8_worked 20 = .ok (.istore 5, 2) := by decide +kernel
theorem dX8_worked_22 : decode cX8_worked 22 = .ok (.iload 5, 2) := by decide +kernel
theorem dX8_worked_24 : decode cX8_worked 24 = .ok (.sipush 20000, 3) := by decide +kernel
theorem dX8_worked_27 : decode cX8_worked 27 = .ok (.if_icmp .ge 39, 3) := by decide +kernel
theorem dX8_worked_30 : decode cX8_worked 30 = .ok (.aload_n 0, 1) := by decide +kernel
theorem dX8_worked_31 : decode cX8_worked 31 = .ok (.getfield 28, 3) := by decide +kernel
theorem dX8_worked_34 : decode cX8_worked 34 = .ok (.iload_n 3, 1) := by decide +kernel
theorem dX8_worked_35 : decode cX8_worked 35 = .ok (.iload 5, 2) := by decide +kernel
theorem dX8_worked_37 : decode cX8_worked 37 = .ok (.sipush 10000, 3) := by decide +kernel
theorem dX8_worked_40 : decode cX8_worked 40 = .ok (.if_icmp .ge 8, 3) := by decide +kernel
theorem dX8_worked_43 : decode cX8_worked 43 = .ok (.iload 5, 2) := by decide +kernel
theorem dX8_worked_45 : decode cX8_worked 45 = .ok (.goto 14, 3) := by decide +kernel
theorem dX8_worked_48 : decode cX8_worked 48 = .ok (.aload_n 0, 1) := by decide +kernel
theorem dX8_worked_49 : decode cX8_worked 49 = .ok (.getfield 22, 3) := by decide +kernel
theorem dX8_worked_52 : decode cX8_worked 52 = .ok (.iload 5, 2) := by decide +kernel
theorem dX8_worked_54 : decode cX8_worked 54 = .ok (.sipush 10000, 3) := by decide +kernel
theorem dX8_worked_57 : decode cX8_worked 57 = .ok (.isub, 1) := by decide +kernel
theorem dX8_worked_58 : decode cX8_worked 58 = .ok (.iaload, 1) := by decide +kernel
theorem dX8_worked_59 : decode cX8_worked 59 = .ok (.iastore, 1) := by decide +kernel
theorem dX8_worked_60 : decode cX8_worked 60 = .ok (.iinc 3 1, 3) := by decide +kernel
theorem dX8_worked_63 : decode cX8_worked 63 = .ok (.goto 72, 3) := by decide +kernel
theorem dX8_worked_66 : decode cX8_worked 66 = .ok (.iload 5, 2) := by decide +kernel
theorem dX8_worked_68 : decode cX8_worked 68 = .ok (.sipush 20033, 3) := by decide +kernel
theorem dX8_worked_71 : decode cX8_worked 71 = .ok (.if_icmp .ne 30, 3) := by decide +kernel
theorem dX8_worked_74 : decode cX8_worked 74 = .ok (.aload_n 0, 1) := by decide +kernel
theorem dX8_worked_75 : decode cX8_worked 75 = .ok (.getfield 28, 3) := by decide +kernel
theorem dX8_worked_78 : decode cX8_worked 78 = .ok (.iload_n 3, 1) := by decide +kernel
theorem dX8_worked_79 : decode cX8_worked 79 = .ok (.iconst 1, 1) := by decide +kernel
theorem dX8_worked_80 : decode cX8_worked 80 = .ok (.isub, 1) := by decide +kernel
theorem dX8_worked_81 : decode cX8_worked 81 = .ok (.aload_n 0, 1) := by decide +kernel
theorem dX8_worked_82 : decode cX8_worked 82 = .ok (.getfield 28, 3) := by decide +kernel
theorem dX8_worked_85 : decode cX8_worked 85 = .ok (.iload_n 3, 1) := by decide +kernel
theorem dX8_worked_86 : decode cX8_worked 86 = .ok (.iconst 1, 1) := by decide +kernel
theorem dX8_worked_87 : decode cX8_worked 87 = .ok (.isub, 1) := by decide +kernel
theorem dX8_worked_88 : decode cX8_worked 88 = .ok (.iaload, 1) := by decide +kernel
theorem dX8_worked_89 : decode cX8_worked 89 = .ok (.ifCond .ne 7, 3) := by decide +kernel
theorem dX8_worked_92 : decode cX8_worked 92 = .ok (.iconst 1, 1) := by decide +kernel
theorem dX8_worked_93 : decode cX8_worked 93 = .ok (.goto 4, 3) := by decide +kernel
theorem dX8_worked_96 : decode cX8_worked 96 = .ok (.iconst 0, 1) := by decide +kernel
theorem dX8_worked_97 : decode cX8_worked 97 = .ok (.iastore, 1) := by decide +kernel
theorem dX8_worked_98 : decode cX8_worked 98 = .ok (.goto 37, 3) := by decide +kernel
theorem dX8_worked_101 : decode cX8_worked 101 = .ok (.iinc 3 (-1), 3) := by decide +kernel
theorem dX8_worked_104 : decode cX8_worked 104 = .ok (.aload_n 0, 1) := by decide +kernel
theorem dX8_worked_105 : decode cX8_worked 105 = .ok (.getfield 28, 3) := by decide +kernel
theorem dX8_worked_108 : decode cX8_worked 108 = .ok (.iload_n 3, 1) := by decide +kernel
theorem dX8_worked_109 : decode cX8_worked 109 = .ok (.iconst 1, 1) := by decide +kernel
theorem dX8_worked_110 : decode cX8_worked 110 = .ok (.isub, 1) := by decide +kernel
theorem dX8_worked_111 : decode cX8_worked 111 = .ok (.iload 5, 2) := by decide +kernel
theorem dX8_worked_113 : decode cX8_worked 113 = .ok (.sipush 20000, 3) := by decide +kernel
theorem dX8_worked_116 : decode cX8_worked 116 = .ok (.isub, 1) := by decide +kernel
theorem dX8_worked_117 : decode cX8_worked 117 = .ok (.aload_n 0, 1) := by decide +kernel
theorem dX8_worked_118 : decode cX8_worked 118 = .ok (.getfield 28, 3) := by decide +kernel
theorem dX8_worked_121 : decode cX8_worked 121 = .ok (.iload_n 3, 1) := by decide +kernel
theorem dX8_worked_122 : decode cX8_worked 122 = .ok (.iconst 1, 1) := by decide +kernel
theorem dX8_worked_123 : decode cX8_worked 123 = .ok (.isub, 1) := by decide +kernel
theorem dX8_worked_124 : decode cX8_worked 124 = .ok (.iaload, 1) := by decide +kernel
theorem dX8_worked_125 : decode cX8_worked 125 = .ok (.aload_n 0, 1) := by decide +kernel
theorem dX8_worked_126 : decode cX8_worked 126 = .ok (.getfield 28, 3) := by decide +kernel
theorem dX8_worked_129 : decode cX8_worked 129 = .ok (.iload_n 3, 1) := by decide +kernel
theorem dX8_worked_130 : decode cX8_worked 130 = .ok (.iaload, 1) := by decide +kernel
theorem dX8_worked_131 : decode cX8_worked 131 = .ok (.invokestatic 128, 3) := by decide +kernel
theorem dX8_worked_134 : decode cX8_worked 134 = .ok (.iastore, 1) := by decide +kernel
theorem dX8_worked_135 : decode cX8_worked 135 = .ok (.iinc 4 1, 3) := by decide +kernel
theorem dX8_worked_138 : decode cX8_worked 138 = .ok (.goto (-133), 3) := by decide +kernel
theorem dX8_worked_141 : decode cX8_worked 141 = .ok (.aload_n 0, 1) := by decide +kernel
theorem dX8_worked_142 : decode cX8_worked 142 = .ok (.getfield 28, 3) := by decide +kernel
theorem dX8_worked_145 : decode cX8_worked 145 = .ok (.iconst 0, 1) := by decide +kernel
theorem dX8_worked_146 : decode cX8_worked 146 = .ok (.iaload, 1) := by decide +kernel
theorem dX8_worked_147 : decode cX8_worked 147 = .ok (.ireturn, 1) := by decide +kernel
theorem dX8_feed_0 : decode cX8_feed 0 = .ok (.iload_n 3, 1) := by decide +kernel
theorem dX8_feed_1 : decode cX8_feed 1 = .ok (.i2l, 1) := by decide +kernel
theorem dX8_feed_2 : decode cX8_feed 2 = .ok (.lconst 1, 1) := by decide +kernel
theorem dX8_feed_3 : decode cX8_feed 3 = .ok (.ldc2_w 132, 3) := by decide +kernel
theorem dX8_feed_6 : decode cX8_feed 6 = .ok (.invokestatic 53, 3) := by decide +kernel
theorem dX8_feed_9 : decode cX8_feed 9 = .ok (.ifCond .ne 9, 3) := by decide +kernel
theorem dX8_feed_12 : decode cX8_feed 12 = .ok (.aload_n 0, 1) := by decide +kernel
theorem dX8_feed_13 : decode cX8_feed 13 = .ok (.iconst 1, 1) := by decide +kernel
theorem dX8_feed_14 : decode cX8_feed 14 = .ok (.invokevirtual 134, 3) := by decide +kernel
theorem dX8_feed_17 : decode cX8_feed 17 = .ok (.ireturn, 1) := by decide +kernel
theorem dX8_feed_18 : decode cX8_feed 18 = .ok (.aload_n 0, 1) := by decide +kernel
theorem dX8_feed_19 : decode cX8_feed 19 = .ok (.getfield 7, 3) := by decide +kernel
theorem dX8_feed_22 : decode cX8_feed 22 = .ok (.bipush 6, 2) := by decide +kernel
theorem dX8_feed_24 : decode cX8_feed 24 = .ok (.iaload, 1) := by decide +kernel
theorem dX8_feed_25 : decode cX8_feed 25 = .ok (.iload_n 3, 1) := by decide +kernel
theorem dX8_feed_26 : decode cX8_feed 26 = .ok (.iadd, 1) := by decide +kernel
theorem dX8_feed_27 : decode cX8_feed 27 = .ok (.bipush 50, 2) := by decide +kernel
theorem dX8_feed_29 : decode cX8_feed 29 = .ok (.if_icmp .le 9, 3) := by decide +kernel
theorem dX8_feed_32 : decode cX8_feed 32 = .ok (.aload_n 0, 1) := by decide +kernel
theorem dX8_feed_33 : decode cX8_feed 33 = .ok (.iconst 4, 1) := by decide +kernel
theorem dX8_feed_34 : decode cX8_feed 34 = .ok (.invokevirtual 134, 3) := by decide +kernel
theorem dX8_feed_37 : decode cX8_feed 37 = .ok (.ireturn, 1) := by decide +kernel
theorem dX8_feed_38 : decode cX8_feed 38 = .ok (.iconst 0, 1) := by decide +kernel
theorem dX8_feed_39 : decode cX8_feed 39 = .ok (.istore 4, 2) := by decide +kernel
theorem dX8_feed_41 : decode cX8_feed 41 = .ok (.iload 4, 2) := by decide +kernel
theorem dX8_feed_43 : decode cX8_feed 43 = .ok (.iload_n 3, 1) := by decide +kernel
theorem dX8_feed_44 : decode cX8_feed 44 = .ok (.if_icmp .ge 48, 3) := by decide +kernel
theorem dX8_feed_47 : decode cX8_feed 47 = .ok (.aload_n 0, 1) := by decide +kernel
theorem dX8_feed_48 : decode cX8_feed 48 = .ok (.getfield 7, 3) := by decide +kernel
theorem dX8_feed_51 : decode cX8_feed 51 = .ok (.sipush 179, 3) := by decide +kernel
theorem dX8_feed_54 : decode cX8_feed 54 = .ok (.aload_n 0, 1) := by decide +kernel
theorem dX8_feed_55 : decode cX8_feed 55 = .ok (.getfield 7, 3) := by decide +kernel
theorem dX8_feed_58 : decode cX8_feed 58 = .ok (.bipush 6, 2) := by decide +kernel
theorem dX8_feed_60 : decode cX8_feed 60 = .ok (.iaload, 1) := by decide +kernel
theorem dX8_feed_61 : decode cX8_feed 61 = .ok (.iadd, 1) := by decide +kernel
theorem dX8_feed_62 : decode cX8_feed 62 = .ok (.lload_n 1, 1) := by decide +kernel
theorem dX8_feed_63 : decode cX8_feed 63 = .ok (.bipush 8, 2) := by decide +kernel
theorem dX8_feed_65 : decode cX8_feed 65 = .ok (.iload 4, 2) := by decide +kernel
theorem dX8_feed_67 : decode cX8_feed 67 = .ok (.imul, 1) := by decide +kernel
theorem dX8_feed_68 : decode cX8_feed 68 = .ok (.lshr, 1) := by decide +kernel
theorem dX8_feed_69 : decode cX8_feed 69 = .ok (.ldc2_w 137, 3) := by decide +kernel
theorem dX8_feed_72 : decode cX8_feed 72 = .ok (.land, 1) := by decide +kernel
theorem dX8_feed_73 : decode cX8_feed 73 = .ok (.l2i, 1) := by decide +kernel
theorem dX8_feed_74 : decode cX8_feed 74 = .ok (.iastore, 1) := by decide +kernel
theorem dX8_feed_75 : decode cX8_feed 75 = .ok (.aload_n 0, 1) := by decide +kernel
theorem dX8_feed_76 : decode cX8_feed 76 = .ok (.getfield 7, 3) := by decide +kernel
theorem dX8_feed_79 : decode cX8_feed 79 = .ok (.bipush 6, 2) := by decide +kernel
theorem dX8_feed_81 : decode cX8_feed 81 = .ok (.dup2, 1) := by decide +kernel
theorem dX8_feed_82 : decode cX8_feed 82 = .ok (.iaload, 1) := by decide +kernel
theorem dX8_feed_83 : decode cX8_feed 83 = .ok (.iconst 1, 1) := by decide +kernel
theorem dX8_feed_84 : decode cX8_feed 84 = .ok (.iadd, 1) := by decide +kernel
theorem dX8_feed_85 : decode cX8_feed 85 = .ok (.iastore, 1) := by decide +kernel
theorem dX8_feed_86 : decode cX8_feed 86 = .ok (.iinc 4 1, 3) := by decide +kernel
theorem dX8_feed_89 : decode cX8_feed 89 = .ok (.goto (-48), 3) := by decide +kernel
theorem dX8_feed_92 : decode cX8_feed 92 = .ok (.aload_n 0, 1) := by decide +kernel
theorem dX8_feed_93 : decode cX8_feed 93 = .ok (.getfield 7, 3) := by decide +kernel
theorem dX8_feed_96 : decode cX8_feed 96 = .ok (.bipush 6, 2) := by decide +kernel
theorem dX8_feed_98 : decode cX8_feed 98 = .ok (.iaload, 1) := by decide +kernel
theorem dX8_feed_99 : decode cX8_feed 99 = .ok (.ireturn, 1) := by decide +kernel
theorem dX8_text_0 : decode cX8_text 0 = .ok (.iload_n 1, 1) := by decide +kernel
theorem dX8_text_1 : decode cX8_text 1 = .ok (.i2l, 1) := by decide +kernel
theorem dX8_text_2 : decode cX8_text 2 = .ok (.lconst 0, 1) := by decide +kernel
theorem dX8_text_3 : decode cX8_text 3 = .ok (.lconst 1, 1) := by decide +kernel
theorem dX8_text_4 : decode cX8_text 4 = .ok (.invokestatic 53, 3) := by decide +kernel
theorem dX8_text_7 : decode cX8_text 7 = .ok (.ifCond .ne 9, 3) := by decide +kernel
theorem dX8_text_10 : decode cX8_text 10 = .ok (.aload_n 0, 1) := by decide +kernel
theorem dX8_text_11 : decode cX8_text 11 = .ok (.iconst 1, 1) := by decide +kernel
theorem dX8_text_12 : decode cX8_text 12 = .ok (.invokevirtual 134, 3) := by decide +kernel
theorem dX8_text_15 : decode cX8_text 15 = .ok (.ireturn, 1) := by decide +kernel
theorem dX8_text_16 : decode cX8_text 16 = .ok (.aload_n 0, 1) := by decide +kernel
theorem dX8_text_17 : decode cX8_text 17 = .ok (.getfield 7, 3) := by decide +kernel
theorem dX8_text_20 : decode cX8_text 20 = .ok (.bipush 6, 2) := by decide +kernel
theorem dX8_text_22 : decode cX8_text 22 = .ok (.iaload, 1) := by decide +kernel
theorem dX8_text_23 : decode cX8_text 23 = .ok (.istore_n 2, 1) := by decide +kernel
theorem dX8_text_24 : decode cX8_text 24 = .ok (.aload_n 0, 1) := by decide +kernel
theorem dX8_text_25 : decode cX8_text 25 = .ok (.getfield 7, 3) := by decide +kernel
theorem dX8_text_28 : decode cX8_text 28 = .ok (.bipush 6, 2) := by decide +kernel
theorem dX8_text_30 : decode cX8_text 30 = .ok (.iconst 0, 1) := by decide +kernel
theorem dX8_text_31 : decode cX8_text 31 = .ok (.iastore, 1) := by decide +kernel
theorem dX8_text_32 : decode cX8_text 32 = .ok (.aload_n 0, 1) := by decide +kernel
theorem dX8_text_33 : decode cX8_text 33 = .ok (.sipush 179, 3) := by decide +kernel
theorem dX8_text_36 : decode cX8_text 36 = .ok (.iload_n 2, 1) := by decide +kernel
theorem dX8_text_37 : decode cX8_text 37 = .ok (.iload_n 1, 1) := by decide +kernel
theorem dX8_text_38 : decode cX8_text 38 = .ok (.invokevirtual 139, 3) := by decide +kernel
theorem dX8_text_41 : decode cX8_text 41 = .ok (.aload_n 0, 1) := by decide +kernel
theorem dX8_text_42 : decode cX8_text 42 = .ok (.getfield 68, 3) := by decide +kernel
theorem dX8_text_45 : decode cX8_text 45 = .ok (.ifCond .lt 11, 3) := by decide +kernel
theorem dX8_text_48 : decode cX8_text 48 = .ok (.bipush (-10), 2) := by decide +kernel
theorem dX8_text_50 : decode cX8_text 50 = .ok (.aload_n 0, 1) := by decide +kernel
theorem dX8_text_51 : decode cX8_text 51 = .ok (.getfield 68, 3) := by decide +kernel
theorem dX8_text_54 : decode cX8_text 54 = .ok (.isub, 1) := by decide +kernel
theorem dX8_text_55 : decode cX8_text 55 = .ok (.ireturn, 1) := by decide +kernel
theorem dX8_text_56 : decode cX8_text 56 = .ok (.aload_n 0, 1) := by decide +kernel
theorem dX8_text_57 : decode cX8_text 57 = .ok (.getfield 7, 3) := by decide +kernel
theorem dX8_text_60 : decode cX8_text 60 = .ok (.bipush 57, 2) := by decide +kernel
theorem dX8_text_62 : decode cX8_text 62 = .ok (.iload_n 1, 1) := by decide +kernel
theorem dX8_text_63 : decode cX8_text 63 = .ok (.iadd, 1) := by decide +kernel
theorem dX8_text_64 : decode cX8_text 64 = .ok (.aload_n 0, 1) := by decide +kernel
theorem dX8_text_65 : decode cX8_text 65 = .ok (.getfield 82, 3) := by decide +kernel
theorem dX8_text_68 : decode cX8_text 68 = .ok (.iastore, 1) := by decide +kernel
theorem dX8_text_69 : decode cX8_text 69 = .ok (.iconst 0, 1) := by decide +kernel
theorem dX8_text_70 : decode cX8_text 70 = .ok (.istore_n 3, 1) := by decide +kernel
theorem dX8_text_71 : decode cX8_text 71 = .ok (.iload_n 3, 1) := by decide +kernel
theorem dX8_text_72 : decode cX8_text 72 = .ok (.aload_n 0, 1) := by decide +kernel
theorem dX8_text_73 : decode cX8_text 73 = .ok (.getfield 82, 3) := by decide +kernel
theorem dX8_text_76 : decode cX8_text 76 = .ok (.if_icmp .ge 29, 3) := by decide +kernel
theorem dX8_text_79 : decode cX8_text 79 = .ok (.aload_n 0, 1) := by decide +kernel
theorem dX8_text_80 : decode cX8_text 80 = .ok (.getfield 7, 3) := by decide +kernel
theorem dX8_text_83 : decode cX8_text 83 = .ok (.bipush 79, 2) := by decide +kernel
theorem dX8_text_85 : decode cX8_text 85 = .ok (.bipush 50, 2) := by decide +kernel
theorem dX8_text_87 : decode cX8_text 87 = .ok (.iload_n 1, 1) := by decide +kernel
theorem dX8_text_88 : decode cX8_text 88 = .ok (.imul, 1) := by decide +kernel
theorem dX8_text_89 : decode cX8_text 89 = .ok (.iadd, 1) := by decide +kernel
theorem dX8_text_90 : decode cX8_text 90 = .ok (.iload_n 3, 1) := by decide +kernel
theorem dX8_text_91 : decode cX8_text 91 = .ok (.iadd, 1) := by decide +kernel
theorem dX8_text_92 : decode cX8_text 92 = .ok (.aload_n 0, 1) := by decide +kernel
theorem dX8_text_93 : decode cX8_text 93 = .ok (.getfield 25, 3) := by decide +kernel
theorem dX8_text_96 : decode cX8_text 96 = .ok (.iload_n 3, 1) := by decide +kernel
theorem dX8_text_97 : decode cX8_text 97 = .ok (.iaload, 1) := by decide +kernel
theorem dX8_text_98 : decode cX8_text 98 = .ok (.iastore, 1) := by decide +kernel
theorem dX8_text_99 : decode cX8_text 99 = .ok (.iinc 3 1, 3) := by decide +kernel
theorem dX8_text_102 : decode cX8_text 102 = .ok (.goto (-31), 3) := by decide +kernel
theorem dX8_text_105 : decode cX8_text 105 = .ok (.iconst 1, 1) := by decide +kernel
theorem dX8_text_106 : decode cX8_text 106 = .ok (.ireturn, 1) := by decide +kernel
theorem dX8_textGives_0 : decode cX8_textGives 0 = .ok (.iload_n 1, 1) := by decide +kernel
theorem dX8_textGives_1 : decode cX8_textGives 1 = .ok (.ifCond .ne 8, 3) := by decide +kernel
theorem dX8_textGives_4 : decode cX8_textGives 4 = .ok (.bipush 20, 2) := by decide +kernel
theorem dX8_textGives_6 : decode cX8_textGives 6 = .ok (.goto 6, 3) := by decide +kernel
theorem dX8_textGives_9 : decode cX8_textGives 9 = .ok (.iload_n 2, 1) := by decide +kernel
theorem dX8_textGives_10 : decode cX8_textGives 10 = .ok (.iconst 3, 1) := by decide +kernel
theorem dX8_textGives_11 : decode cX8_textGives 11 = .ok (.idiv, 1) := by decide +kernel
theorem dX8_textGives_12 : decode cX8_textGives 12 = .ok (.istore 5, 2) := by decide +kernel
theorem dX8_textGives_14 : decode cX8_textGives 14 = .ok (.aload_n 0, 1) := by decide +kernel
theorem dX8_textGives_15 : decode cX8_textGives 15 = .ok (.getfield 7, 3) := by decide +kernel
theorem dX8_textGives_18 : decode cX8_textGives 18 = .ok (.bipush 57, 2) := by decide +kernel
theorem dX8_textGives_20 : decode cX8_textGives 20 = .ok (.iload_n 1, 1) := by decide +kernel
theorem dX8_textGives_21 : decode cX8_textGives 21 = .ok (.iadd, 1) := by decide +kernel
theorem dX8_textGives_22 : decode cX8_textGives 22 = .ok (.iaload, 1) := by decide +kernel
theorem dX8_textGives_23 : decode cX8_textGives 23 = .ok (.ifCond .le 47, 3) := by decide +kernel
theorem dX8_textGives_26 : decode cX8_textGives 26 = .ok (.aload_n 0, 1) := by decide +kernel
theorem dX8_textGives_27 : decode cX8_textGives 27 = .ok (.getfield 22, 3) := by decide +kernel
theorem dX8_textGives_30 : decode cX8_textGives 30 = .ok (.iconst 0, 1) := by decide +kernel
theorem dX8_textGives_31 : decode cX8_textGives 31 = .ok (.iload_n 2, 1) := by decide +kernel
theorem dX8_textGives_32 : decode cX8_textGives 32 = .ok (.iastore, 1) := by decide +kernel
theorem dX8_textGives_33 : decode cX8_textGives 33 = .ok (.aload_n 0, 1) := by decide +kernel
theorem dX8_textGives_34 : decode cX8_textGives 34 = .ok (.getfield 22, 3) := by decide +kernel
theorem dX8_textGives_37 : decode cX8_textGives 37 = .ok (.iconst 1, 1) := by decide +kernel
theorem dX8_textGives_38 : decode cX8_textGives 38 = .ok (.iload_n 3, 1) := by decide +kernel
theorem dX8_textGives_39 : decode cX8_textGives 39 = .ok (.iastore, 1) := by decide +kernel
theorem dX8_textGives_40 : decode cX8_textGives 40 = .ok (.aload_n 0, 1) := by decide +kernel
theorem dX8_textGives_41 : decode cX8_textGives 41 = .ok (.getfield 22, 3) := by decide +kernel
theorem dX8_textGives_44 : decode cX8_textGives 44 = .ok (.iconst 2, 1) := by decide +kernel
theorem dX8_textGives_45 : decode cX8_textGives 45 = .ok (.iload 4, 2) := by decide +kernel
theorem dX8_textGives_47 : decode cX8_textGives 47 = .ok (.iastore, 1) := by decide +kernel
theorem dX8_textGives_48 : decode cX8_textGives 48 = .ok (.aload_n 0, 1) := by decide +kernel
theorem dX8_textGives_49 : decode cX8_textGives 49 = .ok (.bipush 79, 2) := by decide +kernel
theorem dX8_textGives_51 : decode cX8_textGives 51 = .ok (.bipush 50, 2) := by decide +kernel
theorem dX8_textGives_53 : decode cX8_textGives 53 = .ok (.iload_n 1, 1) := by decide +kernel
theorem dX8_textGives_54 : decode cX8_textGives 54 = .ok (.imul, 1) := by decide +kernel
theorem dX8_textGives_55 : decode cX8_textGives 55 = .ok (.iadd, 1) := by decide +kernel
theorem dX8_textGives_56 : decode cX8_textGives 56 = .ok (.aload_n 0, 1) := by decide +kernel
theorem dX8_textGives_57 : decode cX8_textGives 57 = .ok (.getfield 7, 3) := by decide +kernel
theorem dX8_textGives_60 : decode cX8_textGives 60 = .ok (.bipush 57, 2) := by decide +kernel
theorem dX8_textGives_62 : decode cX8_textGives 62 = .ok (.iload_n 1, 1) := by decide +kernel
theorem dX8_textGives_63 : decode cX8_textGives 63 = .ok (.iadd, 1) := by decide +kernel
theorem dX8_textGives_64 : decode cX8_textGives 64 = .ok (.iaload, 1) := by decide +kernel
theorem dX8_textGives_65 : decode cX8_textGives 65 = .ok (.invokevirtual 143, 3) := by decide +kernel
theorem dX8_textGives_68 : decode cX8_textGives 68 = .ok (.istore 5, 2) := by decide +kernel
theorem dX8_textGives_70 : decode cX8_textGives 70 = .ok (.iload 5, 2) := by decide +kernel
theorem dX8_textGives_72 : decode cX8_textGives 72 = .ok (.iconst 0, 1) := by decide +kernel
theorem dX8_textGives_73 : decode cX8_textGives 73 = .ok (.iload_n 1, 1) := by decide +kernel
theorem dX8_textGives_74 : decode cX8_textGives 74 = .ok (.ifCond .ne 8, 3) := by decide +kernel
theorem dX8_textGives_77 : decode cX8_textGives 77 = .ok (.bipush 99, 2) := by decide +kernel
theorem dX8_textGives_79 : decode cX8_textGives 79 = .ok (.goto 6, 3) := by decide +kernel
theorem dX8_textGives_82 : decode cX8_textGives 82 = .ok (.sipush 999, 3) := by decide +kernel
theorem dX8_textGives_85 : decode cX8_textGives 85 = .ok (.invokestatic 147, 3) := by decide +kernel
theorem dX8_textGives_88 : decode cX8_textGives 88 = .ok (.ireturn, 1) := by decide +kernel
theorem dX8_law_0 : decode cX8_law 0 = .ok (.iload_n 1, 1) := by decide +kernel
theorem dX8_law_1 : decode cX8_law 1 = .ok (.i2l, 1) := by decide +kernel
theorem dX8_law_2 : decode cX8_law 2 = .ok (.lconst 0, 1) := by decide +kernel
theorem dX8_law_3 : decode cX8_law 3 = .ok (.lconst 1, 1) := by decide +kernel
theorem dX8_law_4 : decode cX8_law 4 = .ok (.invokestatic 53, 3) := by decide +kernel
theorem dX8_law_7 : decode cX8_law 7 = .ok (.ifCond .eq 15, 3) := by decide +kernel
theorem dX8_law_10 : decode cX8_law 10 = .ok (.aload_n 0, 1) := by decide +kernel
theorem dX8_law_11 : decode cX8_law 11 = .ok (.iload_n 1, 1) := by decide +kernel
theorem dX8_law_12 : decode cX8_law 12 = .ok (.iload_n 2, 1) := by decide +kernel
theorem dX8_law_13 : decode cX8_law 13 = .ok (.iload_n 3, 1) := by decide +kernel
theorem dX8_law_14 : decode cX8_law 14 = .ok (.iload 4, 2) := by decide +kernel
theorem dX8_law_16 : decode cX8_law 16 = .ok (.invokevirtual 150, 3) := by decide +kernel
theorem dX8_law_19 : decode cX8_law 19 = .ok (.goto 8, 3) := by decide +kernel
theorem dX8_law_22 : decode cX8_law 22 = .ok (.aload_n 0, 1) := by decide +kernel
theorem dX8_law_23 : decode cX8_law 23 = .ok (.iconst 1, 1) := by decide +kernel
theorem dX8_law_24 : decode cX8_law 24 = .ok (.invokevirtual 134, 3) := by decide +kernel
theorem dX8_law_27 : decode cX8_law 27 = .ok (.ireturn, 1) := by decide +kernel
theorem dX8_least_0 : decode cX8_least 0 = .ok (.aload_n 0, 1) := by decide +kernel
