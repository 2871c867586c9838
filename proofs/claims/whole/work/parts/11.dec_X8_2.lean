theorem dX8_loose_58 : decode cX8_loose 58 = .ok (.aload_n 0, 1) := by decide +kernel
theorem dX8_loose_59 : decode cX8_loose 59 = .ok (.invokevirtual 224, 3) := by decide +kernel
theorem dX8_loose_62 : decode cX8_loose 62 = .ok (.istore_n 3, 1) := by decide +kernel
theorem dX8_loose_63 : decode cX8_loose 63 = .ok (.iload_n 3, 1) := by decide +kernel
theorem dX8_loose_64 : decode cX8_loose 64 = .ok (.iconst 4, 1) := by decide +kernel
theorem dX8_loose_65 : decode cX8_loose 65 = .ok (.irem, 1) := by decide +kernel
theorem dX8_loose_66 : decode cX8_loose 66 = .ok (.ifCond .ne 22, 3) := by decide +kernel
theorem dX8_loose_69 : decode cX8_loose 69 = .ok (.aload_n 0, 1) := by decide +kernel
theorem dX8_loose_70 : decode cX8_loose 70 = .ok (.getfield 7, 3) := by decide +kernel
theorem dX8_loose_73 : decode cX8_loose 73 = .ok (.bipush 8, 2) := by decide +kernel
theorem dX8_loose_75 : decode cX8_loose 75 = .ok (.dup2, 1) := by decide +kernel
theorem dX8_loose_76 : decode cX8_loose 76 = .ok (.iaload, 1) := by decide +kernel
theorem dX8_loose_77 : decode cX8_loose 77 = .ok (.iconst 1, 1) := by decide +kernel
theorem dX8_loose_78 : decode cX8_loose 78 = .ok (.iload_n 3, 1) := by decide +kernel
theorem dX8_loose_79 : decode cX8_loose 79 = .ok (.bipush 8, 2) := by decide +kernel
theorem dX8_loose_81 : decode cX8_loose 81 = .ok (.idiv, 1) := by decide +kernel
theorem dX8_loose_82 : decode cX8_loose 82 = .ok (.bipush 12, 2) := by decide +kernel
theorem dX8_loose_84 : decode cX8_loose 84 = .ok (.irem, 1) := by decide +kernel
theorem dX8_loose_85 : decode cX8_loose 85 = .ok (.ishl, 1) := by decide +kernel
theorem dX8_loose_86 : decode cX8_loose 86 = .ok (.ixor, 1) := by decide +kernel
theorem dX8_loose_87 : decode cX8_loose 87 = .ok (.iastore, 1) := by decide +kernel
theorem dX8_loose_88 : decode cX8_loose 88 = .ok (.aload_n 0, 1) := by decide +kernel
theorem dX8_loose_89 : decode cX8_loose 89 = .ok (.invokevirtual 179, 3) := by decide +kernel
theorem dX8_loose_92 : decode cX8_loose 92 = .ok (.iinc 2 1, 3) := by decide +kernel
theorem dX8_loose_95 : decode cX8_loose 95 = .ok (.goto (-55), 3) := by decide +kernel
theorem dX8_loose_98 : decode cX8_loose 98 = .ok (.aload_n 0, 1) := by decide +kernel
theorem dX8_loose_99 : decode cX8_loose 99 = .ok (.invokevirtual 218, 3) := by decide +kernel
theorem dX8_loose_102 : decode cX8_loose 102 = .ok (.ireturn, 1) := by decide +kernel
theorem dX8_behind_0 : decode cX8_behind 0 = .ok (.aload_n 0, 1) := by decide +kernel
theorem dX8_behind_1 : decode cX8_behind 1 = .ok (.iload_n 1, 1) := by decide +kernel
theorem dX8_behind_2 : decode cX8_behind 2 = .ok (.invokevirtual 215, 3) := by decide +kernel
theorem dX8_behind_5 : decode cX8_behind 5 = .ok (.aload_n 0, 1) := by decide +kernel
theorem dX8_behind_6 : decode cX8_behind 6 = .ok (.getfield 7, 3) := by decide +kernel
theorem dX8_behind_9 : decode cX8_behind 9 = .ok (.iload_n 2, 1) := by decide +kernel
theorem dX8_behind_10 : decode cX8_behind 10 = .ok (.iaload, 1) := by decide +kernel
theorem dX8_behind_11 : decode cX8_behind 11 = .ok (.istore_n 3, 1) := by decide +kernel
theorem dX8_behind_12 : decode cX8_behind 12 = .ok (.aload_n 0, 1) := by decide +kernel
theorem dX8_behind_13 : decode cX8_behind 13 = .ok (.invokevirtual 227, 3) := by decide +kernel
theorem dX8_behind_16 : decode cX8_behind 16 = .ok (.iload_n 3, 1) := by decide +kernel
theorem dX8_behind_17 : decode cX8_behind 17 = .ok (.ireturn, 1) := by decide +kernel
theorem dX8_then_0 : decode cX8_then 0 = .ok (.iload_n 1, 1) := by decide +kernel
theorem dX8_then_1 : decode cX8_then 1 = .ok (.i2l, 1) := by decide +kernel
theorem dX8_then_2 : decode cX8_then 2 = .ok (.lconst 0, 1) := by decide +kernel
theorem dX8_then_3 : decode cX8_then 3 = .ok (.ldc2_w 213, 3) := by decide +kernel
theorem dX8_then_6 : decode cX8_then 6 = .ok (.invokestatic 53, 3) := by decide +kernel
theorem dX8_then_9 : decode cX8_then 9 = .ok (.ifCond .eq 10, 3) := by decide +kernel
theorem dX8_then_12 : decode cX8_then 12 = .ok (.iload_n 2, 1) := by decide +kernel
theorem dX8_then_13 : decode cX8_then 13 = .ok (.invokestatic 182, 3) := by decide +kernel
theorem dX8_then_16 : decode cX8_then 16 = .ok (.ifCond .ne 9, 3) := by decide +kernel
theorem dX8_then_19 : decode cX8_then 19 = .ok (.aload_n 0, 1) := by decide +kernel
theorem dX8_then_20 : decode cX8_then 20 = .ok (.iconst 1, 1) := by decide +kernel
theorem dX8_then_21 : decode cX8_then 21 = .ok (.invokevirtual 134, 3) := by decide +kernel
theorem dX8_then_24 : decode cX8_then 24 = .ok (.ireturn, 1) := by decide +kernel
theorem dX8_then_25 : decode cX8_then 25 = .ok (.aload_n 0, 1) := by decide +kernel
theorem dX8_then_26 : decode cX8_then 26 = .ok (.invokevirtual 230, 3) := by decide +kernel
theorem dX8_then_29 : decode cX8_then 29 = .ok (.aload_n 0, 1) := by decide +kernel
theorem dX8_then_30 : decode cX8_then 30 = .ok (.iload_n 1, 1) := by decide +kernel
theorem dX8_then_31 : decode cX8_then 31 = .ok (.bipush 9, 2) := by decide +kernel
theorem dX8_then_33 : decode cX8_then 33 = .ok (.iload_n 2, 1) := by decide +kernel
theorem dX8_then_34 : decode cX8_then 34 = .ok (.iadd, 1) := by decide +kernel
theorem dX8_then_35 : decode cX8_then 35 = .ok (.invokevirtual 233, 3) := by decide +kernel
theorem dX8_then_38 : decode cX8_then 38 = .ok (.ireturn, 1) := by decide +kernel
theorem dX8_hotOne_0 : decode cX8_hotOne 0 = .ok (.iconst 0, 1) := by decide +kernel
theorem dX8_hotOne_1 : decode cX8_hotOne 1 = .ok (.istore_n 2, 1) := by decide +kernel
theorem dX8_hotOne_2 : decode cX8_hotOne 2 = .ok (.iload_n 2, 1) := by decide +kernel
theorem dX8_hotOne_3 : decode cX8_hotOne 3 = .ok (.bipush 16, 2) := by decide +kernel
theorem dX8_hotOne_5 : decode cX8_hotOne 5 = .ok (.if_icmp .ge 24, 3) := by decide +kernel
theorem dX8_hotOne_8 : decode cX8_hotOne 8 = .ok (.aload_n 0, 1) := by decide +kernel
theorem dX8_hotOne_9 : decode cX8_hotOne 9 = .ok (.getfield 7, 3) := by decide +kernel
theorem dX8_hotOne_12 : decode cX8_hotOne 12 = .ok (.bipush 9, 2) := by decide +kernel
theorem dX8_hotOne_14 : decode cX8_hotOne 14 = .ok (.iload_n 2, 1) := by decide +kernel
theorem dX8_hotOne_15 : decode cX8_hotOne 15 = .ok (.iadd, 1) := by decide +kernel
theorem dX8_hotOne_16 : decode cX8_hotOne 16 = .ok (.iaload, 1) := by decide +kernel
theorem dX8_hotOne_17 : decode cX8_hotOne 17 = .ok (.iload_n 1, 1) := by decide +kernel
theorem dX8_hotOne_18 : decode cX8_hotOne 18 = .ok (.if_icmp .lt 5, 3) := by decide +kernel
theorem dX8_hotOne_21 : decode cX8_hotOne 21 = .ok (.iload_n 2, 1) := by decide +kernel
theorem dX8_hotOne_22 : decode cX8_hotOne 22 = .ok (.ireturn, 1) := by decide +kernel
theorem dX8_hotOne_23 : decode cX8_hotOne 23 = .ok (.iinc 2 1, 3) := by decide +kernel
theorem dX8_hotOne_26 : decode cX8_hotOne 26 = .ok (.goto (-24), 3) := by decide +kernel
theorem dX8_hotOne_29 : decode cX8_hotOne 29 = .ok (.iconst (-1), 1) := by decide +kernel
theorem dX8_hotOne_30 : decode cX8_hotOne 30 = .ok (.ireturn, 1) := by decide +kernel
theorem dX8_hot_0 : decode cX8_hot 0 = .ok (.iload_n 1, 1) := by decide +kernel
theorem dX8_hot_1 : decode cX8_hot 1 = .ok (.i2l, 1) := by decide +kernel
theorem dX8_hot_2 : decode cX8_hot 2 = .ok (.lconst 1, 1) := by decide +kernel
theorem dX8_hot_3 : decode cX8_hot 3 = .ok (.ldc2_w 185, 3) := by decide +kernel
theorem dX8_hot_6 : decode cX8_hot 6 = .ok (.invokestatic 53, 3) := by decide +kernel
theorem dX8_hot_9 : decode cX8_hot 9 = .ok (.ifCond .eq 13, 3) := by decide +kernel
theorem dX8_hot_12 : decode cX8_hot 12 = .ok (.iload_n 2, 1) := by decide +kernel
theorem dX8_hot_13 : decode cX8_hot 13 = .ok (.i2l, 1) := by decide +kernel
theorem dX8_hot_14 : decode cX8_hot 14 = .ok (.lconst 0, 1) := by decide +kernel
theorem dX8_hot_15 : decode cX8_hot 15 = .ok (.lconst 1, 1) := by decide +kernel
theorem dX8_hot_16 : decode cX8_hot 16 = .ok (.invokestatic 53, 3) := by decide +kernel
theorem dX8_hot_19 : decode cX8_hot 19 = .ok (.ifCond .ne 9, 3) := by decide +kernel
theorem dX8_hot_22 : decode cX8_hot 22 = .ok (.aload_n 0, 1) := by decide +kernel
theorem dX8_hot_23 : decode cX8_hot 23 = .ok (.iconst 1, 1) := by decide +kernel
theorem dX8_hot_24 : decode cX8_hot 24 = .ok (.invokevirtual 134, 3) := by decide +kernel
theorem dX8_hot_27 : decode cX8_hot 27 = .ok (.ireturn, 1) := by decide +kernel
theorem dX8_hot_28 : decode cX8_hot 28 = .ok (.aload_n 0, 1) := by decide +kernel
theorem dX8_hot_29 : decode cX8_hot 29 = .ok (.invokevirtual 230, 3) := by decide +kernel
theorem dX8_hot_32 : decode cX8_hot 32 = .ok (.iconst 0, 1) := by decide +kernel
theorem dX8_hot_33 : decode cX8_hot 33 = .ok (.istore_n 3, 1) := by decide +kernel
theorem dX8_hot_34 : decode cX8_hot 34 = .ok (.iload_n 3, 1) := by decide +kernel
theorem dX8_hot_35 : decode cX8_hot 35 = .ok (.bipush 60, 2) := by decide +kernel
theorem dX8_hot_37 : decode cX8_hot 37 = .ok (.if_icmp .ge 21, 3) := by decide +kernel
theorem dX8_hot_40 : decode cX8_hot 40 = .ok (.aload_n 0, 1) := by decide +kernel
theorem dX8_hot_41 : decode cX8_hot 41 = .ok (.iload_n 1, 1) := by decide +kernel
theorem dX8_hot_42 : decode cX8_hot 42 = .ok (.invokevirtual 236, 3) := by decide +kernel
theorem dX8_hot_45 : decode cX8_hot 45 = .ok (.ifCond .ge 13, 3) := by decide +kernel
theorem dX8_hot_48 : decode cX8_hot 48 = .ok (.aload_n 0, 1) := by decide +kernel
theorem dX8_hot_49 : decode cX8_hot 49 = .ok (.invokevirtual 179, 3) := by decide +kernel
theorem dX8_hot_52 : decode cX8_hot 52 = .ok (.iinc 3 1, 3) := by decide +kernel
theorem dX8_hot_55 : decode cX8_hot 55 = .ok (.goto (-21), 3) := by decide +kernel
theorem dX8_hot_58 : decode cX8_hot 58 = .ok (.aload_n 0, 1) := by decide +kernel
theorem dX8_hot_59 : decode cX8_hot 59 = .ok (.iload_n 1, 1) := by decide +kernel
theorem dX8_hot_60 : decode cX8_hot 60 = .ok (.invokevirtual 236, 3) := by decide +kernel
theorem dX8_hot_63 : decode cX8_hot 63 = .ok (.istore 4, 2) := by decide +kernel
theorem dX8_hot_65 : decode cX8_hot 65 = .ok (.aload_n 0, 1) := by decide +kernel
theorem dX8_hot_66 : decode cX8_hot 66 = .ok (.invokevirtual 227, 3) := by decide +kernel
theorem dX8_hot_69 : decode cX8_hot 69 = .ok (.iload 4, 2) := by decide +kernel
theorem dX8_hot_71 : decode cX8_hot 71 = .ok (.ifCond .ge 11, 3) := by decide +kernel
theorem dX8_hot_74 : decode cX8_hot 74 = .ok (.aload_n 0, 1) := by decide +kernel
theorem dX8_hot_75 : decode cX8_hot 75 = .ok (.iconst 2, 1) := by decide +kernel
theorem dX8_hot_76 : decode cX8_hot 76 = .ok (.invokevirtual 134, 3) := by decide +kernel
theorem dX8_hot_79 : decode cX8_hot 79 = .ok (.goto 13, 3) := by decide +kernel
theorem dX8_hot_82 : decode cX8_hot 82 = .ok (.iload_n 2, 1) := by decide +kernel
theorem dX8_hot_83 : decode cX8_hot 83 = .ok (.ifCond .ne 7, 3) := by decide +kernel
theorem dX8_hot_86 : decode cX8_hot 86 = .ok (.iload_n 3, 1) := by decide +kernel
theorem dX8_hot_87 : decode cX8_hot 87 = .ok (.goto 5, 3) := by decide +kernel
theorem dX8_hot_90 : decode cX8_hot 90 = .ok (.iload 4, 2) := by decide +kernel
theorem dX8_hot_92 : decode cX8_hot 92 = .ok (.ireturn, 1) := by decide +kernel
theorem dX8_feedFor_0 : decode cX8_feedFor 0 = .ok (.iload_n 1, 1) := by decide +kernel
theorem dX8_feedFor_1 : decode cX8_feedFor 1 = .ok (.i2l, 1) := by decide +kernel
theorem dX8_feedFor_2 : decode cX8_feedFor 2 = .ok (.lconst 0, 1) := by decide +kernel
theorem dX8_feedFor_3 : decode cX8_feedFor 3 = .ok (.iconst 1, 1) := by decide +kernel
theorem dX8_feedFor_4 : decode cX8_feedFor 4 = .ok (.aload_n 0, 1) := by decide +kernel
theorem dX8_feedFor_5 : decode cX8_feedFor 5 = .ok (.getfield 7, 3) := by decide +kernel
theorem dX8_feedFor_8 : decode cX8_feedFor 8 = .ok (.iconst 0, 1) := by decide +kernel
theorem dX8_feedFor_9 : decode cX8_feedFor 9 = .ok (.iaload, 1) := by decide +kernel
theorem dX8_feedFor_10 : decode cX8_feedFor 10 = .ok (.ishl, 1) := by decide +kernel
theorem dX8_feedFor_11 : decode cX8_feedFor 11 = .ok (.iconst 1, 1) := by decide +kernel
theorem dX8_feedFor_12 : decode cX8_feedFor 12 = .ok (.isub, 1) := by decide +kernel
theorem dX8_feedFor_13 : decode cX8_feedFor 13 = .ok (.i2l, 1) := by decide +kernel
theorem dX8_feedFor_14 : decode cX8_feedFor 14 = .ok (.invokestatic 53, 3) := by decide +kernel
theorem dX8_feedFor_17 : decode cX8_feedFor 17 = .ok (.ifCond .eq 15, 3) := by decide +kernel
theorem dX8_feedFor_20 : decode cX8_feedFor 20 = .ok (.iload_n 2, 1) := by decide +kernel
theorem dX8_feedFor_21 : decode cX8_feedFor 21 = .ok (.i2l, 1) := by decide +kernel
theorem dX8_feedFor_22 : decode cX8_feedFor 22 = .ok (.lconst 1, 1) := by decide +kernel
theorem dX8_feedFor_23 : decode cX8_feedFor 23 = .ok (.ldc2_w 239, 3) := by decide +kernel
theorem dX8_feedFor_26 : decode cX8_feedFor 26 = .ok (.invokestatic 53, 3) := by decide +kernel
theorem dX8_feedFor_29 : decode cX8_feedFor 29 = .ok (.ifCond .ne 9, 3) := by decide +kernel
theorem dX8_feedFor_32 : decode cX8_feedFor 32 = .ok (.aload_n 0, 1) := by decide +kernel
theorem dX8_feedFor_33 : decode cX8_feedFor 33 = .ok (.iconst 1, 1) := by decide +kernel
theorem dX8_feedFor_34 : decode cX8_feedFor 34 = .ok (.invokevirtual 134, 3) := by decide +kernel
theorem dX8_feedFor_37 : decode cX8_feedFor 37 = .ok (.ireturn, 1) := by decide +kernel
theorem dX8_feedFor_38 : decode cX8_feedFor 38 = .ok (.aload_n 0, 1) := by decide +kernel
theorem dX8_feedFor_39 : decode cX8_feedFor 39 = .ok (.invokevirtual 230, 3) := by decide +kernel
theorem dX8_feedFor_42 : decode cX8_feedFor 42 = .ok (.iconst 0, 1) := by decide +kernel
theorem dX8_feedFor_43 : decode cX8_feedFor 43 = .ok (.istore_n 3, 1) := by decide +kernel
theorem dX8_feedFor_44 : decode cX8_feedFor 44 = .ok (.iload_n 3, 1) := by decide +kernel
theorem dX8_feedFor_45 : decode cX8_feedFor 45 = .ok (.bipush 100, 2) := by decide +kernel
theorem dX8_feedFor_47 : decode cX8_feedFor 47 = .ok (.if_icmp .ge 38, 3) := by decide +kernel
theorem dX8_feedFor_50 : decode cX8_feedFor 50 = .ok (.aload_n 0, 1) := by decide +kernel
theorem dX8_feedFor_51 : decode cX8_feedFor 51 = .ok (.getfield 7, 3) := by decide +kernel
theorem dX8_feedFor_54 : decode cX8_feedFor 54 = .ok (.iconst 2, 1) := by decide +kernel
theorem dX8_feedFor_55 : decode cX8_feedFor 55 = .ok (.iload_n 3, 1) := by decide +kernel
theorem dX8_feedFor_56 : decode cX8_feedFor 56 = .ok (.iastore, 1) := by decide +kernel
theorem dX8_feedFor_57 : decode cX8_feedFor 57 = .ok (.aload_n 0, 1) := by decide +kernel
theorem dX8_feedFor_58 : decode cX8_feedFor 58 = .ok (.iload_n 2, 1) := by decide +kernel
theorem dX8_feedFor_59 : decode cX8_feedFor 59 = .ok (.invokevirtual 215, 3) := by decide +kernel
theorem dX8_feedFor_62 : decode cX8_feedFor 62 = .ok (.aload_n 0, 1) := by decide +kernel
theorem dX8_feedFor_63 : decode cX8_feedFor 63 = .ok (.invokevirtual 227, 3) := by decide +kernel
theorem dX8_feedFor_66 : decode cX8_feedFor 66 = .ok (.iload_n 1, 1) := by decide +kernel
theorem dX8_feedFor_67 : decode cX8_feedFor 67 = .ok (.aload_n 0, 1) := by decide +kernel
theorem dX8_feedFor_68 : decode cX8_feedFor 68 = .ok (.getfield 167, 3) := by decide +kernel
theorem dX8_feedFor_71 : decode cX8_feedFor 71 = .ok (.iconst (-1), 1) := by decide +kernel
theorem dX8_feedFor_72 : decode cX8_feedFor 72 = .ok (.ixor, 1) := by decide +kernel
theorem dX8_feedFor_73 : decode cX8_feedFor 73 = .ok (.iand, 1) := by decide +kernel
theorem dX8_feedFor_74 : decode cX8_feedFor 74 = .ok (.ifCond .ne 5, 3) := by decide +kernel
theorem dX8_feedFor_77 : decode cX8_feedFor 77 = .ok (.iload_n 3, 1) := by decide +kernel
theorem dX8_feedFor_78 : decode cX8_feedFor 78 = .ok (.ireturn, 1) := by decide +kernel
theorem dX8_feedFor_79 : decode cX8_feedFor 79 = .ok (.iinc 3 1, 3) := by decide +kernel
theorem dX8_feedFor_82 : decode cX8_feedFor 82 = .ok (.goto (-38), 3) := by decide +kernel
theorem dX8_feedFor_85 : decode cX8_feedFor 85 = .ok (.aload_n 0, 1) := by decide +kernel
theorem dX8_feedFor_86 : decode cX8_feedFor 86 = .ok (.iconst 2, 1) := by decide +kernel
theorem dX8_feedFor_87 : decode cX8_feedFor 87 = .ok (.invokevirtual 134, 3) := by decide +kernel
theorem dX8_feedFor_90 : decode cX8_feedFor 90 = .ok (.ireturn, 1) := by decide +kernel
theorem dX8_open_0 : decode cX8_open 0 = .ok (.aload_n 0, 1) := by decide +kernel
theorem dX8_open_1 : decode cX8_open 1 = .ok (.iload_n 1, 1) := by decide +kernel
theorem dX8_open_2 : decode cX8_open 2 = .ok (.invokevirtual 203, 3) := by decide +kernel
theorem dX8_open_5 : decode cX8_open 5 = .ok (.ifCond .eq 15, 3) := by decide +kernel
theorem dX8_open_8 : decode cX8_open 8 = .ok (.iload_n 2, 1) := by decide +kernel
theorem dX8_open_9 : decode cX8_open 9 = .ok (.i2l, 1) := by decide +kernel
theorem dX8_open_10 : decode cX8_open 10 = .ok (.lconst 0, 1) := by decide +kernel
theorem dX8_open_11 : decode cX8_open 11 = .ok (.ldc2_w 241, 3) := by decide +kernel
theorem dX8_open_14 : decode cX8_open 14 = .ok (.invokestatic 53, 3) := by decide +kernel
theorem dX8_open_17 : decode cX8_open 17 = .ok (.ifCond .ne 9, 3) := by decide +kernel
theorem dX8_open_20 : decode cX8_open 20 = .ok (.aload_n 0, 1) := by decide +kernel
theorem dX8_open_21 : decode cX8_open 21 = .ok (.iconst 1, 1) := by decide +kernel
theorem dX8_open_22 : decode cX8_open 22 = .ok (.invokevirtual 134, 3) := by decide +kernel
theorem dX8_open_25 : decode cX8_open 25 = .ok (.ireturn, 1) := by decide +kernel
theorem dX8_open_26 : decode cX8_open 26 = .ok (.aload_n 0, 1) := by decide +kernel
theorem dX8_open_27 : decode cX8_open 27 = .ok (.invokevirtual 230, 3) := by decide +kernel
theorem dX8_open_30 : decode cX8_open 30 = .ok (.bipush 25, 2) := by decide +kernel
theorem dX8_open_32 : decode cX8_open 32 = .ok (.iconst 4, 1) := by decide +kernel
theorem dX8_open_33 : decode cX8_open 33 = .ok (.iload_n 1, 1) := by decide +kernel
theorem dX8_open_34 : decode cX8_open 34 = .ok (.imul, 1) := by decide +kernel
theorem dX8_open_35 : decode cX8_open 35 = .ok (.iadd, 1) := by decide +kernel
theorem dX8_open_36 : decode cX8_open 36 = .ok (.iconst 3, 1) := by decide +kernel
theorem dX8_open_37 : decode cX8_open 37 = .ok (.iadd, 1) := by decide +kernel
theorem dX8_open_38 : decode cX8_open 38 = .ok (.istore_n 3, 1) := by decide +kernel
theorem dX8_open_39 : decode cX8_open 39 = .ok (.aload_n 0, 1) := by decide +kernel
theorem dX8_open_40 : decode cX8_open 40 = .ok (.iload_n 2, 1) := by decide +kernel
theorem dX8_open_41 : decode cX8_open 41 = .ok (.iload_n 3, 1) := by decide +kernel
theorem dX8_open_42 : decode cX8_open 42 = .ok (.invokevirtual 233, 3) := by decide +kernel
theorem dX8_open_45 : decode cX8_open 45 = .ok (.istore 4, 2) := by decide +kernel
theorem dX8_open_47 : decode cX8_open 47 = .ok (.iconst (-1), 1) := by decide +kernel
theorem dX8_open_48 : decode cX8_open 48 = .ok (.istore 5, 2) := by decide +kernel
theorem dX8_open_50 : decode cX8_open 50 = .ok (.iconst 0, 1) := by decide +kernel
theorem dX8_open_51 : decode cX8_open 51 = .ok (.istore 6, 2) := by decide +kernel
theorem dX8_open_53 : decode cX8_open 53 = .ok (.iload 6, 2) := by decide +kernel
theorem dX8_open_55 : decode cX8_open 55 = .ok (.bipush 12, 2) := by decide +kernel
theorem dX8_open_57 : decode cX8_open 57 = .ok (.if_icmp .ge 46, 3) := by decide +kernel
theorem dX8_open_60 : decode cX8_open 60 = .ok (.aload_n 0, 1) := by decide +kernel
theorem dX8_open_61 : decode cX8_open 61 = .ok (.getfield 7, 3) := by decide +kernel
theorem dX8_open_64 : decode cX8_open 64 = .ok (.bipush 8, 2) := by decide +kernel
theorem dX8_open_66 : decode cX8_open 66 = .ok (.dup2, 1) := by decide +kernel
theorem dX8_open_67 : decode cX8_open 67 = .ok (.iaload, 1) := by decide +kernel
theorem dX8_open_68 : decode cX8_open 68 = .ok (.iconst 1, 1) := by decide +kernel
theorem dX8_open_69 : decode cX8_open 69 = .ok (.iload 6, 2) := by decide +kernel
theorem dX8_open_71 : decode cX8_open 71 = .ok (.ishl, 1) := by decide +kernel
theorem dX8_open_72 : decode cX8_open 72 = .ok (.ixor, 1) := by decide +kernel
theorem dX8_open_73 : decode cX8_open 73 = .ok (.iastore, 1) := by decide +kernel
theorem dX8_open_74 : decode cX8_open 74 = .ok (.aload_n 0, 1) := by decide +kernel
theorem dX8_open_75 : decode cX8_open 75 = .ok (.iload_n 2, 1) := by decide +kernel
theorem dX8_open_76 : decode cX8_open 76 = .ok (.iload_n 3, 1) := by decide +kernel
theorem dX8_open_77 : decode cX8_open 77 = .ok (.invokevirtual 233, 3) := by decide +kernel
theorem dX8_open_80 : decode cX8_open 80 = .ok (.istore 7, 2) := by decide +kernel
theorem dX8_open_82 : decode cX8_open 82 = .ok (.iload 7, 2) := by decide +kernel
theorem dX8_open_84 : decode cX8_open 84 = .ok (.iload 4, 2) := by decide +kernel
theorem dX8_open_86 : decode cX8_open 86 = .ok (.if_icmp .le 11, 3) := by decide +kernel
theorem dX8_open_89 : decode cX8_open 89 = .ok (.iload 6, 2) := by decide +kernel
theorem dX8_open_91 : decode cX8_open 91 = .ok (.istore 5, 2) := by decide +kernel
theorem dX8_open_93 : decode cX8_open 93 = .ok (.iload 7, 2) := by decide +kernel
theorem dX8_open_95 : decode cX8_open 95 = .ok (.istore 4, 2) := by decide +kernel
theorem dX8_open_97 : decode cX8_open 97 = .ok (.iinc 6 1, 3) := by decide +kernel
theorem dX8_open_100 : decode cX8_open 100 = .ok (.goto (-47), 3) := by decide +kernel
theorem dX8_open_103 : decode cX8_open 103 = .ok (.iload 5, 2) := by decide +kernel
theorem dX8_open_105 : decode cX8_open 105 = .ok (.ireturn, 1) := by decide +kernel
theorem dX8_isSo_0 : decode cX8_isSo 0 = .ok (.aload_n 0, 1) := by decide +kernel
theorem dX8_isSo_1 : decode cX8_isSo 1 = .ok (.getfield 7, 3) := by decide +kernel
theorem dX8_isSo_4 : decode cX8_isSo 4 = .ok (.bipush 8, 2) := by decide +kernel
theorem dX8_isSo_6 : decode cX8_isSo 6 = .ok (.dup2, 1) := by decide +kernel
theorem dX8_isSo_7 : decode cX8_isSo 7 = .ok (.iaload, 1) := by decide +kernel
theorem dX8_isSo_8 : decode cX8_isSo 8 = .ok (.iload_n 1, 1) := by decide +kernel
theorem dX8_isSo_9 : decode cX8_isSo 9 = .ok (.ixor, 1) := by decide +kernel
theorem dX8_isSo_10 : decode cX8_isSo 10 = .ok (.iastore, 1) := by decide +kernel
theorem dX8_isSo_11 : decode cX8_isSo 11 = .ok (.aload_n 0, 1) := by decide +kernel
theorem dX8_isSo_12 : decode cX8_isSo 12 = .ok (.iload 4, 2) := by decide +kernel
theorem dX8_isSo_14 : decode cX8_isSo 14 = .ok (.bipush 9, 2) := by decide +kernel
theorem dX8_isSo_16 : decode cX8_isSo 16 = .ok (.iload_n 2, 1) := by decide +kernel
theorem dX8_isSo_17 : decode cX8_isSo 17 = .ok (.iadd, 1) := by decide +kernel
theorem dX8_isSo_18 : decode cX8_isSo 18 = .ok (.invokevirtual 233, 3) := by decide +kernel
theorem dX8_isSo_21 : decode cX8_isSo 21 = .ok (.iload_n 3, 1) := by decide +kernel
theorem dX8_isSo_22 : decode cX8_isSo 22 = .ok (.if_icmp .lt 7, 3) := by decide +kernel
theorem dX8_isSo_25 : decode cX8_isSo 25 = .ok (.iconst 1, 1) := by decide +kernel
theorem dX8_isSo_26 : decode cX8_isSo 26 = .ok (.goto 4, 3) := by decide +kernel
theorem dX8_isSo_29 : decode cX8_isSo 29 = .ok (.iconst 0, 1) := by decide +kernel
theorem dX8_isSo_30 : decode cX8_isSo 30 = .ok (.ireturn, 1) := by decide +kernel
theorem dX8_doors_0 : decode cX8_doors 0 = .ok (.aload_n 0, 1) := by decide +kernel
theorem dX8_doors_1 : decode cX8_doors 1 = .ok (.iload_n 1, 1) := by decide +kernel
theorem dX8_doors_2 : decode cX8_doors 2 = .ok (.invokevirtual 203, 3) := by decide +kernel
theorem dX8_doors_5 : decode cX8_doors 5 = .ok (.ifCond .eq 27, 3) := by decide +kernel
theorem dX8_doors_8 : decode cX8_doors 8 = .ok (.iload_n 2, 1) := by decide +kernel
theorem dX8_doors_9 : decode cX8_doors 9 = .ok (.i2l, 1) := by decide +kernel
theorem dX8_doors_10 : decode cX8_doors 10 = .ok (.lconst 0, 1) := by decide +kernel
theorem dX8_doors_11 : decode cX8_doors 11 = .ok (.ldc2_w 185, 3) := by decide +kernel
theorem dX8_doors_14 : decode cX8_doors 14 = .ok (.invokestatic 53, 3) := by decide +kernel
theorem dX8_doors_17 : decode cX8_doors 17 = .ok (.ifCond .eq 15, 3) := by decide +kernel
theorem dX8_doors_20 : decode cX8_doors 20 = .ok (.iload_n 3, 1) := by decide +kernel
theorem dX8_doors_21 : decode cX8_doors 21 = .ok (.i2l, 1) := by decide +kernel
theorem dX8_doors_22 : decode cX8_doors 22 = .ok (.lconst 0, 1) := by decide +kernel
theorem dX8_doors_23 : decode cX8_doors 23 = .ok (.ldc2_w 241, 3) := by decide +kernel
theorem dX8_doors_26 : decode cX8_doors 26 = .ok (.invokestatic 53, 3) := by decide +kernel
theorem dX8_doors_29 : decode cX8_doors 29 = .ok (.ifCond .ne 9, 3) := by decide +kernel
theorem dX8_doors_32 : decode cX8_doors 32 = .ok (.aload_n 0, 1) := by decide +kernel
theorem dX8_doors_33 : decode cX8_doors 33 = .ok (.iconst 1, 1) := by decide +kernel
theorem dX8_doors_34 : decode cX8_doors 34 = .ok (.invokevirtual 134, 3) := by decide +kernel
theorem dX8_doors_37 : decode cX8_doors 37 = .ok (.ireturn, 1) := by decide +kernel
theorem dX8_doors_38 : decode cX8_doors 38 = .ok (.aload_n 0, 1) := by decide +kernel
theorem dX8_doors_39 : decode cX8_doors 39 = .ok (.invokevirtual 230, 3) := by decide +kernel
theorem dX8_doors_42 : decode cX8_doors 42 = .ok (.aload_n 0, 1) := by decide +kernel
theorem dX8_doors_43 : decode cX8_doors 43 = .ok (.iload_n 1, 1) := by decide +kernel
theorem dX8_doors_44 : decode cX8_doors 44 = .ok (.iconst 2, 1) := by decide +kernel
theorem dX8_doors_45 : decode cX8_doors 45 = .ok (.invokevirtual 154, 3) := by decide +kernel
theorem dX8_doors_48 : decode cX8_doors 48 = .ok (.istore 4, 2) := by decide +kernel
theorem dX8_doors_50 : decode cX8_doors 50 = .ok (.aload_n 0, 1) := by decide +kernel
theorem dX8_doors_51 : decode cX8_doors 51 = .ok (.iconst 0, 1) := by decide +kernel
theorem dX8_doors_52 : decode cX8_doors 52 = .ok (.iload 4, 2) := by decide +kernel
theorem dX8_doors_54 : decode cX8_doors 54 = .ok (.iload_n 2, 1) := by decide +kernel
theorem dX8_doors_55 : decode cX8_doors 55 = .ok (.iload_n 3, 1) := by decide +kernel
theorem dX8_doors_56 : decode cX8_doors 56 = .ok (.invokevirtual 243, 3) := by decide +kernel
theorem dX8_doors_59 : decode cX8_doors 59 = .ok (.ifCond .eq 5, 3) := by decide +kernel
theorem dX8_doors_62 : decode cX8_doors 62 = .ok (.iconst 0, 1) := by decide +kernel
theorem dX8_doors_63 : decode cX8_doors 63 = .ok (.ireturn, 1) := by decide +kernel
theorem dX8_doors_64 : decode cX8_doors 64 = .ok (.iconst 0, 1) := by decide +kernel
theorem dX8_doors_65 : decode cX8_doors 65 = .ok (.istore 5, 2) := by decide +kernel
theorem dX8_doors_67 : decode cX8_doors 67 = .ok (.iload 5, 2) := by decide +kernel
theorem dX8_doors_69 : decode cX8_doors 69 = .ok (.bipush 12, 2) := by decide +kernel
theorem dX8_doors_71 : decode cX8_doors 71 = .ok (.if_icmp .ge 29, 3) := by decide +kernel
theorem dX8_doors_74 : decode cX8_doors 74 = .ok (.aload_n 0, 1) := by decide +kernel
theorem dX8_doors_75 : decode cX8_doors 75 = .ok (.iconst 1, 1) := by decide +kernel
theorem dX8_doors_76 : decode cX8_doors 76 = .ok (.iload 5, 2) := by decide +kernel
theorem dX8_doors_78 : decode cX8_doors 78 = .ok (.ishl, 1) := by decide +kernel
theorem dX8_doors_79 : decode cX8_doors 79 = .ok (.iload 4, 2) := by decide +kernel
theorem dX8_doors_81 : decode cX8_doors 81 = .ok (.iload_n 2, 1) := by decide +kernel
theorem dX8_doors_82 : decode cX8_doors 82 = .ok (.iload_n 3, 1) := by decide +kernel
theorem dX8_doors_83 : decode cX8_doors 83 = .ok (.invokevirtual 243, 3) := by decide +kernel
theorem dX8_doors_86 : decode cX8_doors 86 = .ok (.ifCond .eq 8, 3) := by decide +kernel
theorem dX8_doors_89 : decode cX8_doors 89 = .ok (.iconst 1, 1) := by decide +kernel
theorem dX8_doors_90 : decode cX8_doors 90 = .ok (.iload 5, 2) := by decide +kernel
theorem dX8_doors_92 : decode cX8_doors 92 = .ok (.ishl, 1) := by decide +kernel
theorem dX8_doors_93 : decode cX8_doors 93 = .ok (.ireturn, 1) := by decide +kernel
theorem dX8_doors_94 : decode cX8_doors 94 = .ok (.iinc 5 1, 3) := by decide +kernel
theorem dX8_doors_97 : decode cX8_doors 97 = .ok (.goto (-30), 3) := by decide +kernel
theorem dX8_doors_100 : decode cX8_doors 100 = .ok (.iconst 1, 1) := by decide +kernel
theorem dX8_doors_101 : decode cX8_doors 101 = .ok (.istore 5, 2) := by decide +kernel
theorem dX8_doors_103 : decode cX8_doors 103 = .ok (.iload 5, 2) := by decide +kernel
theorem dX8_doors_105 : decode cX8_doors 105 = .ok (.bipush 12, 2) := by decide +kernel
theorem dX8_doors_107 : decode cX8_doors 107 = .ok (.if_icmp .ge 55, 3) := by decide +kernel
theorem dX8_doors_110 : decode cX8_doors 110 = .ok (.iconst 0, 1) := by decide +kernel
theorem dX8_doors_111 : decode cX8_doors 111 = .ok (.istore 6, 2) := by decide +kernel
theorem dX8_doors_113 : decode cX8_doors 113 = .ok (.iload 6, 2) := by decide +kernel
theorem dX8_doors_115 : decode cX8_doors 115 = .ok (.iload 5, 2) := by decide +kernel
theorem dX8_doors_117 : decode cX8_doors 117 = .ok (.if_icmp .ge 39, 3) := by decide +kernel
theorem dX8_doors_120 : decode cX8_doors 120 = .ok (.aload_n 0, 1) := by decide +kernel
theorem dX8_doors_121 : decode cX8_doors 121 = .ok (.iconst 1, 1) := by decide +kernel
theorem dX8_doors_122 : decode cX8_doors 122 = .ok (.iload 6, 2) := by decide +kernel
theorem dX8_doors_124 : decode cX8_doors 124 = .ok (.ishl, 1) := by decide +kernel
theorem dX8_doors_125 : decode cX8_doors 125 = .ok (.iconst 1, 1) := by decide +kernel
theorem dX8_doors_126 : decode cX8_doors 126 = .ok (.iload 5, 2) := by decide +kernel
theorem dX8_doors_128 : decode cX8_doors 128 = .ok (.ishl, 1) := by decide +kernel
theorem dX8_doors_129 : decode cX8_doors 129 = .ok (.ior, 1) := by decide +kernel
theorem dX8_doors_130 : decode cX8_doors 130 = .ok (.iload 4, 2) := by decide +kernel
theorem dX8_doors_132 : decode cX8_doors 132 = .ok (.iload_n 2, 1) := by decide +kernel
theorem dX8_doors_133 : decode cX8_doors 133 = .ok (.iload_n 3, 1) := by decide +kernel
theorem dX8_doors_134 : decode cX8_doors 134 = .ok (.invokevirtual 243, 3) := by decide +kernel
theorem dX8_doors_137 : decode cX8_doors 137 = .ok (.ifCond .eq 13, 3) := by decide +kernel
theorem dX8_doors_140 : decode cX8_doors 140 = .ok (.iconst 1, 1) := by decide +kernel
theorem dX8_doors_141 : decode cX8_doors 141 = .ok (.iload 6, 2) := by decide +kernel
theorem dX8_doors_143 : decode cX8_doors 143 = .ok (.ishl, 1) := by decide +kernel
theorem dX8_doors_144 : decode cX8_doors 144 = .ok (.iconst 1, 1) := by decide +kernel
theorem dX8_doors_145 : decode cX8_doors 145 = .ok (.iload 5, 2) := by decide +kernel
theorem dX8_doors_147 : decode cX8_doors 147 = .ok (.ishl, 1) := by decide +kernel
theorem dX8_doors_148 : decode cX8_doors 148 = .ok (.ior, 1) := by decide +kernel
theorem dX8_doors_149 : decode cX8_doors 149 = .ok (.ireturn, 1) := by decide +kernel
theorem dX8_doors_150 : decode cX8_doors 150 = .ok (.iinc 6 1, 3) := by decide +kernel
theorem dX8_doors_153 : decode cX8_doors 153 = .ok (.goto (-40), 3) := by decide +kernel
theorem dX8_doors_156 : decode cX8_doors 156 = .ok (.iinc 5 1, 3) := by decide +kernel
theorem dX8_doors_159 : decode cX8_doors 159 = .ok (.goto (-56), 3) := by decide +kernel
theorem dX8_doors_162 : decode cX8_doors 162 = .ok (.aload_n 0, 1) := by decide +kernel
theorem dX8_doors_163 : decode cX8_doors 163 = .ok (.iconst 2, 1) := by decide +kernel
theorem dX8_doors_164 : decode cX8_doors 164 = .ok (.invokevirtual 134, 3) := by decide +kernel
theorem dX8_doors_167 : decode cX8_doors 167 = .ok (.ireturn, 1) := by decide +kernel
theorem dX8_bits_0 : decode cX8_bits 0 = .ok (.iconst 0, 1) := by decide +kernel
theorem dX8_bits_1 : decode cX8_bits 1 = .ok (.istore_n 1, 1) := by decide +kernel
theorem dX8_bits_2 : decode cX8_bits 2 = .ok (.iconst 0, 1) := by decide +kernel
theorem dX8_bits_3 : decode cX8_bits 3 = .ok (.istore_n 2, 1) := by decide +kernel
theorem dX8_bits_4 : decode cX8_bits 4 = .ok (.iload_n 2, 1) := by decide +kernel
theorem dX8_bits_5 : decode cX8_bits 5 = .ok (.bipush 16, 2) := by decide +kernel
theorem dX8_bits_7 : decode cX8_bits 7 = .ok (.if_icmp .ge 17, 3) := by decide +kernel
theorem dX8_bits_10 : decode cX8_bits 10 = .ok (.iload_n 1, 1) := by decide +kernel
theorem dX8_bits_11 : decode cX8_bits 11 = .ok (.iload_n 0, 1) := by decide +kernel
theorem dX8_bits_12 : decode cX8_bits 12 = .ok (.iload_n 2, 1) := by decide +kernel
theorem dX8_bits_13 : decode cX8_bits 13 = .ok (.ishr, 1) := by decide +kernel
theorem dX8_bits_14 : decode cX8_bits 14 = .ok (.iconst 1, 1) := by decide +kernel
theorem dX8_bits_15 : decode cX8_bits 15 = .ok (.iand, 1) := by decide +kernel
theorem dX8_bits_16 : decode cX8_bits 16 = .ok (.iadd, 1) := by decide +kernel
theorem dX8_bits_17 : decode cX8_bits 17 = .ok (.istore_n 1, 1) := by decide +kernel
theorem dX8_bits_18 : decode cX8_bits 18 = .ok (.iinc 2 1, 3) := by decide +kernel
theorem dX8_bits_21 : decode cX8_bits 21 = .ok (.goto (-17), 3) := by decide +kernel
theorem dX8_bits_24 : decode cX8_bits 24 = .ok (.iload_n 1, 1) := by decide +kernel
theorem dX8_bits_25 : decode cX8_bits 25 = .ok (.ireturn, 1) := by decide +kernel
theorem dX8_which_0 : decode cX8_which 0 = .ok (.iload_n 1, 1) := by decide +kernel
theorem dX8_which_1 : decode cX8_which 1 = .ok (.invokestatic 247, 3) := by decide +kernel
theorem dX8_which_4 : decode cX8_which 4 = .ok (.ifCond .eq 13, 3) := by decide +kernel
theorem dX8_which_7 : decode cX8_which 7 = .ok (.iload_n 2, 1) := by decide +kernel
theorem dX8_which_8 : decode cX8_which 8 = .ok (.i2l, 1) := by decide +kernel
theorem dX8_which_9 : decode cX8_which 9 = .ok (.lconst 0, 1) := by decide +kernel
theorem dX8_which_10 : decode cX8_which 10 = .ok (.lconst 1, 1) := by decide +kernel
theorem dX8_which_11 : decode cX8_which 11 = .ok (.invokestatic 53, 3) := by decide +kernel
theorem dX8_which_14 : decode cX8_which 14 = .ok (.ifCond .ne 9, 3) := by decide +kernel
theorem dX8_which_17 : decode cX8_which 17 = .ok (.aload_n 0, 1) := by decide +kernel
theorem dX8_which_18 : decode cX8_which 18 = .ok (.iconst 1, 1) := by decide +kernel
theorem dX8_which_19 : decode cX8_which 19 = .ok (.invokevirtual 134, 3) := by decide +kernel
theorem dX8_which_22 : decode cX8_which 22 = .ok (.ireturn, 1) := by decide +kernel
theorem dX8_which_23 : decode cX8_which 23 = .ok (.aload_n 0, 1) := by decide +kernel
theorem dX8_which_24 : decode cX8_which 24 = .ok (.getfield 40, 3) := by decide +kernel
theorem dX8_which_27 : decode cX8_which 27 = .ok (.iload_n 1, 1) := by decide +kernel
theorem dX8_which_28 : decode cX8_which 28 = .ok (.iaload, 1) := by decide +kernel
theorem dX8_which_29 : decode cX8_which 29 = .ok (.ifCond .eq 14, 3) := by decide +kernel
theorem dX8_which_32 : decode cX8_which 32 = .ok (.aload_n 0, 1) := by decide +kernel
theorem dX8_which_33 : decode cX8_which 33 = .ok (.getfield 43, 3) := by decide +kernel
theorem dX8_which_36 : decode cX8_which 36 = .ok (.iload_n 1, 1) := by decide +kernel
theorem dX8_which_37 : decode cX8_which 37 = .ok (.iaload, 1) := by decide +kernel
theorem dX8_which_38 : decode cX8_which 38 = .ok (.bipush 16, 2) := by decide +kernel
theorem dX8_which_40 : decode cX8_which 40 = .ok (.if_icmp .eq 9, 3) := by decide +kernel
theorem dX8_which_43 : decode cX8_which 43 = .ok (.aload_n 0, 1) := by decide +kernel
theorem dX8_which_44 : decode cX8_which 44 = .ok (.iconst 2, 1) := by decide +kernel
theorem dX8_which_45 : decode cX8_which 45 = .ok (.invokevirtual 134, 3) := by decide +kernel
theorem dX8_which_48 : decode cX8_which 48 = .ok (.ireturn, 1) := by decide +kernel
theorem dX8_which_49 : decode cX8_which 49 = .ok (.aload_n 0, 1) := by decide +kernel
theorem dX8_which_50 : decode cX8_which 50 = .ok (.invokevirtual 230, 3) := by decide +kernel
theorem dX8_which_53 : decode cX8_which 53 = .ok (.iconst 0, 1) := by decide +kernel
theorem dX8_which_54 : decode cX8_which 54 = .ok (.istore_n 3, 1) := by decide +kernel
theorem dX8_which_55 : decode cX8_which 55 = .ok (.iconst 0, 1) := by decide +kernel
theorem dX8_which_56 : decode cX8_which 56 = .ok (.istore 4, 2) := by decide +kernel
theorem dX8_which_58 : decode cX8_which 58 = .ok (.iload 4, 2) := by decide +kernel
theorem dX8_which_60 : decode cX8_which 60 = .ok (.bipush 12, 2) := by decide +kernel
theorem dX8_which_62 : decode cX8_which 62 = .ok (.if_icmp .ge 103, 3) := by decide +kernel
theorem dX8_which_65 : decode cX8_which 65 = .ok (.aload_n 0, 1) := by decide +kernel
theorem dX8_which_66 : decode cX8_which 66 = .ok (.getfield 7, 3) := by decide +kernel
theorem dX8_which_69 : decode cX8_which 69 = .ok (.bipush 8, 2) := by decide +kernel
theorem dX8_which_71 : decode cX8_which 71 = .ok (.dup2, 1) := by decide +kernel
theorem dX8_which_72 : decode cX8_which 72 = .ok (.iaload, 1) := by decide +kernel
theorem dX8_which_73 : decode cX8_which 73 = .ok (.iconst 1, 1) := by decide +kernel
theorem dX8_which_74 : decode cX8_which 74 = .ok (.iload 4, 2) := by decide +kernel
theorem dX8_which_76 : decode cX8_which 76 = .ok (.ishl, 1) := by decide +kernel
theorem dX8_which_77 : decode cX8_which 77 = .ok (.ixor, 1) := by decide +kernel
theorem dX8_which_78 : decode cX8_which 78 = .ok (.iastore, 1) := by decide +kernel
theorem dX8_which_79 : decode cX8_which 79 = .ok (.aload_n 0, 1) := by decide +kernel
theorem dX8_which_80 : decode cX8_which 80 = .ok (.invokevirtual 179, 3) := by decide +kernel
theorem dX8_which_83 : decode cX8_which 83 = .ok (.iconst 1, 1) := by decide +kernel
theorem dX8_which_84 : decode cX8_which 84 = .ok (.istore 5, 2) := by decide +kernel
theorem dX8_which_86 : decode cX8_which 86 = .ok (.iconst 0, 1) := by decide +kernel
theorem dX8_which_87 : decode cX8_which 87 = .ok (.istore 6, 2) := by decide +kernel
theorem dX8_which_89 : decode cX8_which 89 = .ok (.iload 6, 2) := by decide +kernel
theorem dX8_which_91 : decode cX8_which 91 = .ok (.bipush 16, 2) := by decide +kernel
theorem dX8_which_93 : decode cX8_which 93 = .ok (.if_icmp .ge 46, 3) := by decide +kernel
theorem dX8_which_96 : decode cX8_which 96 = .ok (.iload 5, 2) := by decide +kernel
theorem dX8_which_98 : decode cX8_which 98 = .ok (.ifCond .eq 32, 3) := by decide +kernel
theorem dX8_which_101 : decode cX8_which 101 = .ok (.aload_n 0, 1) := by decide +kernel
theorem dX8_which_102 : decode cX8_which 102 = .ok (.getfield 46, 3) := by decide +kernel
theorem dX8_which_105 : decode cX8_which 105 = .ok (.bipush 40, 2) := by decide +kernel
theorem dX8_which_107 : decode cX8_which 107 = .ok (.iload_n 1, 1) := by decide +kernel
theorem dX8_which_108 : decode cX8_which 108 = .ok (.imul, 1) := by decide +kernel
theorem dX8_which_109 : decode cX8_which 109 = .ok (.iload 6, 2) := by decide +kernel
theorem dX8_which_111 : decode cX8_which 111 = .ok (.iadd, 1) := by decide +kernel
theorem dX8_which_112 : decode cX8_which 112 = .ok (.iaload, 1) := by decide +kernel
theorem dX8_which_113 : decode cX8_which 113 = .ok (.aload_n 0, 1) := by decide +kernel
theorem dX8_which_114 : decode cX8_which 114 = .ok (.getfield 7, 3) := by decide +kernel
theorem dX8_which_117 : decode cX8_which 117 = .ok (.bipush 9, 2) := by decide +kernel
theorem dX8_which_119 : decode cX8_which 119 = .ok (.iload 6, 2) := by decide +kernel
theorem dX8_which_121 : decode cX8_which 121 = .ok (.iadd, 1) := by decide +kernel
theorem dX8_which_122 : decode cX8_which 122 = .ok (.iaload, 1) := by decide +kernel
theorem dX8_which_123 : decode cX8_which 123 = .ok (.if_icmp .ne 7, 3) := by decide +kernel
theorem dX8_which_126 : decode cX8_which 126 = .ok (.iconst 1, 1) := by decide +kernel
theorem dX8_which_127 : decode cX8_which 127 = .ok (.goto 4, 3) := by decide +kernel
theorem dX8_which_130 : decode cX8_which 130 = .ok (.iconst 0, 1) := by decide +kernel
theorem dX8_which_131 : decode cX8_which 131 = .ok (.istore 5, 2) := by decide +kernel
theorem dX8_which_133 : decode cX8_which 133 = .ok (.iinc 6 1, 3) := by decide +kernel
theorem dX8_which_136 : decode cX8_which 136 = .ok (.goto (-47), 3) := by decide +kernel
theorem dX8_which_139 : decode cX8_which 139 = .ok (.aload_n 0, 1) := by decide +kernel
theorem dX8_which_140 : decode cX8_which 140 = .ok (.invokevirtual 227, 3) := by decide +kernel
theorem dX8_which_143 : decode cX8_which 143 = .ok (.iload_n 3, 1) := by decide +kernel
theorem dX8_which_144 : decode cX8_which 144 = .ok (.iload 5, 2) := by decide +kernel
theorem dX8_which_146 : decode cX8_which 146 = .ok (.ifCond .eq 10, 3) := by decide +kernel
theorem dX8_which_149 : decode cX8_which 149 = .ok (.iconst 1, 1) := by decide +kernel
theorem dX8_which_150 : decode cX8_which 150 = .ok (.iload 4, 2) := by decide +kernel
theorem dX8_which_152 : decode cX8_which 152 = .ok (.ishl, 1) := by decide +kernel
theorem dX8_which_153 : decode cX8_which 153 = .ok (.goto 4, 3) := by decide +kernel
theorem dX8_which_156 : decode cX8_which 156 = .ok (.iconst 0, 1) := by decide +kernel
theorem dX8_which_157 : decode cX8_which 157 = .ok (.ior, 1) := by decide +kernel
theorem dX8_which_158 : decode cX8_which 158 = .ok (.istore_n 3, 1) := by decide +kernel
theorem dX8_which_159 : decode cX8_which 159 = .ok (.iinc 4 1, 3) := by decide +kernel
theorem dX8_which_162 : decode cX8_which 162 = .ok (.goto (-104), 3) := by decide +kernel
theorem dX8_which_165 : decode cX8_which 165 = .ok (.iload_n 2, 1) := by decide +kernel
theorem dX8_which_166 : decode cX8_which 166 = .ok (.ifCond .ne 7, 3) := by decide +kernel
theorem dX8_which_169 : decode cX8_which 169 = .ok (.iload_n 3, 1) := by decide +kernel
theorem dX8_which_170 : decode cX8_which 170 = .ok (.goto 7, 3) := by decide +kernel
theorem dX8_which_173 : decode cX8_which 173 = .ok (.iload_n 3, 1) := by decide +kernel
theorem dX8_which_174 : decode cX8_which 174 = .ok (.invokestatic 250, 3) := by decide +kernel
theorem dX8_which_177 : decode cX8_which 177 = .ok (.ireturn, 1) := by decide +kernel
theorem dX8_settle_0 : decode cX8_settle 0 = .ok (.aload_n 0, 1) := by decide +kernel
theorem dX8_settle_1 : decode cX8_settle 1 = .ok (.iload_n 1, 1) := by decide +kernel
theorem dX8_settle_2 : decode cX8_settle 2 = .ok (.invokevirtual 203, 3) := by decide +kernel
theorem dX8_settle_5 : decode cX8_settle 5 = .ok (.ifCond .eq 25, 3) := by decide +kernel
theorem dX8_settle_8 : decode cX8_settle 8 = .ok (.iload_n 2, 1) := by decide +kernel
theorem dX8_settle_9 : decode cX8_settle 9 = .ok (.i2l, 1) := by decide +kernel
theorem dX8_settle_10 : decode cX8_settle 10 = .ok (.lconst 0, 1) := by decide +kernel
theorem dX8_settle_11 : decode cX8_settle 11 = .ok (.ldc2_w 239, 3) := by decide +kernel
theorem dX8_settle_14 : decode cX8_settle 14 = .ok (.invokestatic 53, 3) := by decide +kernel
theorem dX8_settle_17 : decode cX8_settle 17 = .ok (.ifCond .eq 13, 3) := by decide +kernel
theorem dX8_settle_20 : decode cX8_settle 20 = .ok (.iload_n 3, 1) := by decide +kernel
theorem dX8_settle_21 : decode cX8_settle 21 = .ok (.i2l, 1) := by decide +kernel
theorem dX8_settle_22 : decode cX8_settle 22 = .ok (.lconst 0, 1) := by decide +kernel
theorem dX8_settle_23 : decode cX8_settle 23 = .ok (.lconst 1, 1) := by decide +kernel
theorem dX8_settle_24 : decode cX8_settle 24 = .ok (.invokestatic 53, 3) := by decide +kernel
theorem dX8_settle_27 : decode cX8_settle 27 = .ok (.ifCond .ne 9, 3) := by decide +kernel
theorem dX8_settle_30 : decode cX8_settle 30 = .ok (.aload_n 0, 1) := by decide +kernel
theorem dX8_settle_31 : decode cX8_settle 31 = .ok (.iconst 1, 1) := by decide +kernel
theorem dX8_settle_32 : decode cX8_settle 32 = .ok (.invokevirtual 134, 3) := by decide +kernel
theorem dX8_settle_35 : decode cX8_settle 35 = .ok (.ireturn, 1) := by decide +kernel
theorem dX8_settle_36 : decode cX8_settle 36 = .ok (.aload_n 0, 1) := by decide +kernel
theorem dX8_settle_37 : decode cX8_settle 37 = .ok (.invokevirtual 230, 3) := by decide +kernel
theorem dX8_settle_40 : decode cX8_settle 40 = .ok (.iconst 0, 1) := by decide +kernel
theorem dX8_settle_41 : decode cX8_settle 41 = .ok (.istore 4, 2) := by decide +kernel
theorem dX8_settle_43 : decode cX8_settle 43 = .ok (.iconst (-1), 1) := by decide +kernel
theorem dX8_settle_44 : decode cX8_settle 44 = .ok (.istore 5, 2) := by decide +kernel
theorem dX8_settle_46 : decode cX8_settle 46 = .ok (.iconst 0, 1) := by decide +kernel
theorem dX8_settle_47 : decode cX8_settle 47 = .ok (.istore 6, 2) := by decide +kernel
theorem dX8_settle_49 : decode cX8_settle 49 = .ok (.iload 6, 2) := by decide +kernel
theorem dX8_settle_51 : decode cX8_settle 51 = .ok (.bipush 16, 2) := by decide +kernel
theorem dX8_settle_53 : decode cX8_settle 53 = .ok (.if_icmp .ge 47, 3) := by decide +kernel
theorem dX8_settle_56 : decode cX8_settle 56 = .ok (.aload_n 0, 1) := by decide +kernel
theorem dX8_settle_57 : decode cX8_settle 57 = .ok (.iload_n 1, 1) := by decide +kernel
theorem dX8_settle_58 : decode cX8_settle 58 = .ok (.iconst 2, 1) := by decide +kernel
theorem dX8_settle_59 : decode cX8_settle 59 = .ok (.iload 6, 2) := by decide +kernel
theorem dX8_settle_61 : decode cX8_settle 61 = .ok (.invokevirtual 176, 3) := by decide +kernel
theorem dX8_settle_64 : decode cX8_settle 64 = .ok (.aload_n 0, 1) := by decide +kernel
theorem dX8_settle_65 : decode cX8_settle 65 = .ok (.iload_n 2, 1) := by decide +kernel
theorem dX8_settle_66 : decode cX8_settle 66 = .ok (.bipush 25, 2) := by decide +kernel
theorem dX8_settle_68 : decode cX8_settle 68 = .ok (.iconst 4, 1) := by decide +kernel
theorem dX8_settle_69 : decode cX8_settle 69 = .ok (.iload_n 1, 1) := by decide +kernel
theorem dX8_settle_70 : decode cX8_settle 70 = .ok (.imul, 1) := by decide +kernel
theorem dX8_settle_71 : decode cX8_settle 71 = .ok (.iadd, 1) := by decide +kernel
theorem dX8_settle_72 : decode cX8_settle 72 = .ok (.iconst 3, 1) := by decide +kernel
theorem dX8_settle_73 : decode cX8_settle 73 = .ok (.iadd, 1) := by decide +kernel
theorem dX8_settle_74 : decode cX8_settle 74 = .ok (.invokevirtual 233, 3) := by decide +kernel
theorem dX8_settle_77 : decode cX8_settle 77 = .ok (.istore 7, 2) := by decide +kernel
theorem dX8_settle_79 : decode cX8_settle 79 = .ok (.iload 7, 2) := by decide +kernel
theorem dX8_settle_81 : decode cX8_settle 81 = .ok (.iload 5, 2) := by decide +kernel
theorem dX8_settle_83 : decode cX8_settle 83 = .ok (.if_icmp .le 11, 3) := by decide +kernel
theorem dX8_settle_86 : decode cX8_settle 86 = .ok (.iload 6, 2) := by decide +kernel
theorem dX8_settle_88 : decode cX8_settle 88 = .ok (.istore 4, 2) := by decide +kernel
theorem dX8_settle_90 : decode cX8_settle 90 = .ok (.iload 7, 2) := by decide +kernel
theorem dX8_settle_92 : decode cX8_settle 92 = .ok (.istore 5, 2) := by decide +kernel
theorem dX8_settle_94 : decode cX8_settle 94 = .ok (.iinc 6 1, 3) := by decide +kernel
theorem dX8_settle_97 : decode cX8_settle 97 = .ok (.goto (-48), 3) := by decide +kernel
theorem dX8_settle_100 : decode cX8_settle 100 = .ok (.iload_n 3, 1) := by decide +kernel
theorem dX8_settle_101 : decode cX8_settle 101 = .ok (.ifCond .ne 8, 3) := by decide +kernel
theorem dX8_settle_104 : decode cX8_settle 104 = .ok (.iload 4, 2) := by decide +kernel
theorem dX8_settle_106 : decode cX8_settle 106 = .ok (.goto 5, 3) := by decide +kernel
theorem dX8_settle_109 : decode cX8_settle 109 = .ok (.iload 5, 2) := by decide +kernel
theorem dX8_settle_111 : decode cX8_settle 111 = .ok (.ireturn, 1) := by decide +kernel
theorem dX8_vote_0 : decode cX8_vote 0 = .ok (.iload_n 1, 1) := by decide +kernel
theorem dX8_vote_1 : decode cX8_vote 1 = .ok (.invokestatic 192, 3) := by decide +kernel
theorem dX8_vote_4 : decode cX8_vote 4 = .ok (.ifCond .eq 15, 3) := by decide +kernel
theorem dX8_vote_7 : decode cX8_vote 7 = .ok (.iload_n 2, 1) := by decide +kernel
theorem dX8_vote_8 : decode cX8_vote 8 = .ok (.i2l, 1) := by decide +kernel
theorem dX8_vote_9 : decode cX8_vote 9 = .ok (.lconst 0, 1) := by decide +kernel
theorem dX8_vote_10 : decode cX8_vote 10 = .ok (.ldc2_w 241, 3) := by decide +kernel
theorem dX8_vote_13 : decode cX8_vote 13 = .ok (.invokestatic 53, 3) := by decide +kernel
theorem dX8_vote_16 : decode cX8_vote 16 = .ok (.ifCond .ne 9, 3) := by decide +kernel
theorem dX8_vote_19 : decode cX8_vote 19 = .ok (.aload_n 0, 1) := by decide +kernel
theorem dX8_vote_20 : decode cX8_vote 20 = .ok (.iconst 1, 1) := by decide +kernel
theorem dX8_vote_21 : decode cX8_vote 21 = .ok (.invokevirtual 134, 3) := by decide +kernel
theorem dX8_vote_24 : decode cX8_vote 24 = .ok (.ireturn, 1) := by decide +kernel
theorem dX8_vote_25 : decode cX8_vote 25 = .ok (.aload_n 0, 1) := by decide +kernel
theorem dX8_vote_26 : decode cX8_vote 26 = .ok (.invokevirtual 230, 3) := by decide +kernel
theorem dX8_vote_29 : decode cX8_vote 29 = .ok (.aload_n 0, 1) := by decide +kernel
theorem dX8_vote_30 : decode cX8_vote 30 = .ok (.iload_n 2, 1) := by decide +kernel
theorem dX8_vote_31 : decode cX8_vote 31 = .ok (.invokevirtual 215, 3) := by decide +kernel
theorem dX8_vote_34 : decode cX8_vote 34 = .ok (.iconst 0, 1) := by decide +kernel
theorem dX8_vote_35 : decode cX8_vote 35 = .ok (.istore_n 3, 1) := by decide +kernel
theorem dX8_vote_36 : decode cX8_vote 36 = .ok (.iload_n 3, 1) := by decide +kernel
theorem dX8_vote_37 : decode cX8_vote 37 = .ok (.aload_n 0, 1) := by decide +kernel
theorem dX8_vote_38 : decode cX8_vote 38 = .ok (.getfield 7, 3) := by decide +kernel
theorem dX8_vote_41 : decode cX8_vote 41 = .ok (.iconst 0, 1) := by decide +kernel
theorem dX8_vote_42 : decode cX8_vote 42 = .ok (.iaload, 1) := by decide +kernel
theorem dX8_vote_43 : decode cX8_vote 43 = .ok (.if_icmp .ge 21, 3) := by decide +kernel
theorem dX8_vote_46 : decode cX8_vote 46 = .ok (.aload_n 0, 1) := by decide +kernel
theorem dX8_vote_47 : decode cX8_vote 47 = .ok (.getfield 34, 3) := by decide +kernel
theorem dX8_vote_50 : decode cX8_vote 50 = .ok (.iload_n 3, 1) := by decide +kernel
theorem dX8_vote_51 : decode cX8_vote 51 = .ok (.aload_n 0, 1) := by decide +kernel
theorem dX8_vote_52 : decode cX8_vote 52 = .ok (.iload_n 3, 1) := by decide +kernel
theorem dX8_vote_53 : decode cX8_vote 53 = .ok (.iconst 3, 1) := by decide +kernel
theorem dX8_vote_54 : decode cX8_vote 54 = .ok (.invokevirtual 154, 3) := by decide +kernel
theorem dX8_vote_57 : decode cX8_vote 57 = .ok (.iastore, 1) := by decide +kernel
theorem dX8_vote_58 : decode cX8_vote 58 = .ok (.iinc 3 1, 3) := by decide +kernel
theorem dX8_vote_61 : decode cX8_vote 61 = .ok (.goto (-25), 3) := by decide +kernel
theorem dX8_vote_64 : decode cX8_vote 64 = .ok (.aload_n 0, 1) := by decide +kernel
theorem dX8_vote_65 : decode cX8_vote 65 = .ok (.invokevirtual 227, 3) := by decide +kernel
theorem dX8_vote_68 : decode cX8_vote 68 = .ok (.aload_n 0, 1) := by decide +kernel
theorem dX8_vote_69 : decode cX8_vote 69 = .ok (.getfield 7, 3) := by decide +kernel
theorem dX8_vote_72 : decode cX8_vote 72 = .ok (.bipush 8, 2) := by decide +kernel
theorem dX8_vote_74 : decode cX8_vote 74 = .ok (.dup2, 1) := by decide +kernel
theorem dX8_vote_75 : decode cX8_vote 75 = .ok (.iaload, 1) := by decide +kernel
theorem dX8_vote_76 : decode cX8_vote 76 = .ok (.iconst 1, 1) := by decide +kernel
theorem dX8_vote_77 : decode cX8_vote 77 = .ok (.iload_n 1, 1) := by decide +kernel
theorem dX8_vote_78 : decode cX8_vote 78 = .ok (.ishl, 1) := by decide +kernel
theorem dX8_vote_79 : decode cX8_vote 79 = .ok (.ixor, 1) := by decide +kernel
theorem dX8_vote_80 : decode cX8_vote 80 = .ok (.iastore, 1) := by decide +kernel
theorem dX8_vote_81 : decode cX8_vote 81 = .ok (.aload_n 0, 1) := by decide +kernel
theorem dX8_vote_82 : decode cX8_vote 82 = .ok (.iload_n 2, 1) := by decide +kernel
theorem dX8_vote_83 : decode cX8_vote 83 = .ok (.invokevirtual 215, 3) := by decide +kernel
theorem dX8_vote_86 : decode cX8_vote 86 = .ok (.iconst 0, 1) := by decide +kernel
theorem dX8_vote_87 : decode cX8_vote 87 = .ok (.istore_n 3, 1) := by decide +kernel
theorem dX8_vote_88 : decode cX8_vote 88 = .ok (.iconst 0, 1) := by decide +kernel
theorem dX8_vote_89 : decode cX8_vote 89 = .ok (.istore 4, 2) := by decide +kernel
theorem dX8_vote_91 : decode cX8_vote 91 = .ok (.iload 4, 2) := by decide +kernel
theorem dX8_vote_93 : decode cX8_vote 93 = .ok (.aload_n 0, 1) := by decide +kernel
theorem dX8_vote_94 : decode cX8_vote 94 = .ok (.getfield 7, 3) := by decide +kernel
theorem dX8_vote_97 : decode cX8_vote 97 = .ok (.iconst 0, 1) := by decide +kernel
theorem dX8_vote_98 : decode cX8_vote 98 = .ok (.iaload, 1) := by decide +kernel
theorem dX8_vote_99 : decode cX8_vote 99 = .ok (.if_icmp .ge 55, 3) := by decide +kernel
theorem dX8_vote_102 : decode cX8_vote 102 = .ok (.iload_n 3, 1) := by decide +kernel
theorem dX8_vote_103 : decode cX8_vote 103 = .ok (.aload_n 0, 1) := by decide +kernel
theorem dX8_vote_104 : decode cX8_vote 104 = .ok (.iload 4, 2) := by decide +kernel
theorem dX8_vote_106 : decode cX8_vote 106 = .ok (.iconst 3, 1) := by decide +kernel
theorem dX8_vote_107 : decode cX8_vote 107 = .ok (.invokevirtual 154, 3) := by decide +kernel
theorem dX8_vote_110 : decode cX8_vote 110 = .ok (.aload_n 0, 1) := by decide +kernel
theorem dX8_vote_111 : decode cX8_vote 111 = .ok (.getfield 34, 3) := by decide +kernel
theorem dX8_vote_114 : decode cX8_vote 114 = .ok (.iload 4, 2) := by decide +kernel
theorem dX8_vote_116 : decode cX8_vote 116 = .ok (.iaload, 1) := by decide +kernel
theorem dX8_vote_117 : decode cX8_vote 117 = .ok (.if_icmp .le 7, 3) := by decide +kernel
theorem dX8_vote_120 : decode cX8_vote 120 = .ok (.iconst 1, 1) := by decide +kernel
theorem dX8_vote_121 : decode cX8_vote 121 = .ok (.goto 25, 3) := by decide +kernel
theorem dX8_vote_124 : decode cX8_vote 124 = .ok (.aload_n 0, 1) := by decide +kernel
theorem dX8_vote_125 : decode cX8_vote 125 = .ok (.iload 4, 2) := by decide +kernel
theorem dX8_vote_127 : decode cX8_vote 127 = .ok (.iconst 3, 1) := by decide +kernel
theorem dX8_vote_128 : decode cX8_vote 128 = .ok (.invokevirtual 154, 3) := by decide +kernel
theorem dX8_vote_131 : decode cX8_vote 131 = .ok (.aload_n 0, 1) := by decide +kernel
theorem dX8_vote_132 : decode cX8_vote 132 = .ok (.getfield 34, 3) := by decide +kernel
theorem dX8_vote_135 : decode cX8_vote 135 = .ok (.iload 4, 2) := by decide +kernel
theorem dX8_vote_137 : decode cX8_vote 137 = .ok (.iaload, 1) := by decide +kernel
theorem dX8_vote_138 : decode cX8_vote 138 = .ok (.if_icmp .ge 7, 3) := by decide +kernel
theorem dX8_vote_141 : decode cX8_vote 141 = .ok (.iconst (-1), 1) := by decide +kernel
theorem dX8_vote_142 : decode cX8_vote 142 = .ok (.goto 4, 3) := by decide +kernel
theorem dX8_vote_145 : decode cX8_vote 145 = .ok (.iconst 0, 1) := by decide +kernel
theorem dX8_vote_146 : decode cX8_vote 146 = .ok (.iadd, 1) := by decide +kernel
theorem dX8_vote_147 : decode cX8_vote 147 = .ok (.istore_n 3, 1) := by decide +kernel
theorem dX8_vote_148 : decode cX8_vote 148 = .ok (.iinc 4 1, 3) := by decide +kernel
theorem dX8_vote_151 : decode cX8_vote 151 = .ok (.goto (-60), 3) := by decide +kernel
theorem dX8_vote_154 : decode cX8_vote 154 = .ok (.aload_n 0, 1) := by decide +kernel
theorem dX8_vote_155 : decode cX8_vote 155 = .ok (.invokevirtual 227, 3) := by decide +kernel
theorem dX8_vote_158 : decode cX8_vote 158 = .ok (.iload_n 3, 1) := by decide +kernel
theorem dX8_vote_159 : decode cX8_vote 159 = .ok (.ireturn, 1) := by decide +kernel
theorem dX8_cold_0 : decode cX8_cold 0 = .ok (.iload_n 1, 1) := by decide +kernel
theorem dX8_cold_1 : decode cX8_cold 1 = .ok (.i2l, 1) := by decide +kernel
theorem dX8_cold_2 : decode cX8_cold 2 = .ok (.lconst 0, 1) := by decide +kernel
theorem dX8_cold_3 : decode cX8_cold 3 = .ok (.ldc2_w 213, 3) := by decide +kernel
theorem dX8_cold_6 : decode cX8_cold 6 = .ok (.invokestatic 53, 3) := by decide +kernel
theorem dX8_cold_9 : decode cX8_cold 9 = .ok (.ifCond .eq 13, 3) := by decide +kernel
theorem dX8_cold_12 : decode cX8_cold 12 = .ok (.iload_n 2, 1) := by decide +kernel
theorem dX8_cold_13 : decode cX8_cold 13 = .ok (.i2l, 1) := by decide +kernel
theorem dX8_cold_14 : decode cX8_cold 14 = .ok (.lconst 0, 1) := by decide +kernel
theorem dX8_cold_15 : decode cX8_cold 15 = .ok (.lconst 1, 1) := by decide +kernel
theorem dX8_cold_16 : decode cX8_cold 16 = .ok (.invokestatic 53, 3) := by decide +kernel
theorem dX8_cold_19 : decode cX8_cold 19 = .ok (.ifCond .ne 9, 3) := by decide +kernel
theorem dX8_cold_22 : decode cX8_cold 22 = .ok (.aload_n 0, 1) := by decide +kernel
theorem dX8_cold_23 : decode cX8_cold 23 = .ok (.iconst 1, 1) := by decide +kernel
theorem dX8_cold_24 : decode cX8_cold 24 = .ok (.invokevirtual 134, 3) := by decide +kernel
theorem dX8_cold_27 : decode cX8_cold 27 = .ok (.ireturn, 1) := by decide +kernel
theorem dX8_cold_28 : decode cX8_cold 28 = .ok (.aload_n 0, 1) := by decide +kernel
theorem dX8_cold_29 : decode cX8_cold 29 = .ok (.invokevirtual 230, 3) := by decide +kernel
theorem dX8_cold_32 : decode cX8_cold 32 = .ok (.aload_n 0, 1) := by decide +kernel
theorem dX8_cold_33 : decode cX8_cold 33 = .ok (.iload_n 1, 1) := by decide +kernel
theorem dX8_cold_34 : decode cX8_cold 34 = .ok (.invokevirtual 215, 3) := by decide +kernel
theorem dX8_cold_37 : decode cX8_cold 37 = .ok (.iconst 0, 1) := by decide +kernel
theorem dX8_cold_38 : decode cX8_cold 38 = .ok (.istore_n 3, 1) := by decide +kernel
theorem dX8_cold_39 : decode cX8_cold 39 = .ok (.iconst 1, 1) := by decide +kernel
theorem dX8_cold_40 : decode cX8_cold 40 = .ok (.istore 4, 2) := by decide +kernel
theorem dX8_cold_42 : decode cX8_cold 42 = .ok (.iload 4, 2) := by decide +kernel
theorem dX8_cold_44 : decode cX8_cold 44 = .ok (.bipush 16, 2) := by decide +kernel
theorem dX8_cold_46 : decode cX8_cold 46 = .ok (.if_icmp .ge 38, 3) := by decide +kernel
theorem dX8_cold_49 : decode cX8_cold 49 = .ok (.aload_n 0, 1) := by decide +kernel
theorem dX8_cold_50 : decode cX8_cold 50 = .ok (.getfield 7, 3) := by decide +kernel
theorem dX8_cold_53 : decode cX8_cold 53 = .ok (.bipush 9, 2) := by decide +kernel
theorem dX8_cold_55 : decode cX8_cold 55 = .ok (.iload 4, 2) := by decide +kernel
theorem dX8_cold_57 : decode cX8_cold 57 = .ok (.iadd, 1) := by decide +kernel
theorem dX8_cold_58 : decode cX8_cold 58 = .ok (.iaload, 1) := by decide +kernel
theorem dX8_cold_59 : decode cX8_cold 59 = .ok (.aload_n 0, 1) := by decide +kernel
theorem dX8_cold_60 : decode cX8_cold 60 = .ok (.getfield 7, 3) := by decide +kernel
theorem dX8_cold_63 : decode cX8_cold 63 = .ok (.bipush 9, 2) := by decide +kernel
theorem dX8_cold_65 : decode cX8_cold 65 = .ok (.iload_n 3, 1) := by decide +kernel
theorem dX8_cold_66 : decode cX8_cold 66 = .ok (.iadd, 1) := by decide +kernel
theorem dX8_cold_67 : decode cX8_cold 67 = .ok (.iaload, 1) := by decide +kernel
theorem dX8_cold_68 : decode cX8_cold 68 = .ok (.if_icmp .ge 8, 3) := by decide +kernel
theorem dX8_cold_71 : decode cX8_cold 71 = .ok (.iload 4, 2) := by decide +kernel
theorem dX8_cold_73 : decode cX8_cold 73 = .ok (.goto 4, 3) := by decide +kernel
theorem dX8_cold_76 : decode cX8_cold 76 = .ok (.iload_n 3, 1) := by decide +kernel
theorem dX8_cold_77 : decode cX8_cold 77 = .ok (.istore_n 3, 1) := by decide +kernel
theorem dX8_cold_78 : decode cX8_cold 78 = .ok (.iinc 4 1, 3) := by decide +kernel
theorem dX8_cold_81 : decode cX8_cold 81 = .ok (.goto (-39), 3) := by decide +kernel
theorem dX8_cold_84 : decode cX8_cold 84 = .ok (.iload_n 2, 1) := by decide +kernel
theorem dX8_cold_85 : decode cX8_cold 85 = .ok (.ifCond .ne 7, 3) := by decide +kernel
theorem dX8_cold_88 : decode cX8_cold 88 = .ok (.iload_n 3, 1) := by decide +kernel
theorem dX8_cold_89 : decode cX8_cold 89 = .ok (.goto 12, 3) := by decide +kernel
theorem dX8_cold_92 : decode cX8_cold 92 = .ok (.aload_n 0, 1) := by decide +kernel
theorem dX8_cold_93 : decode cX8_cold 93 = .ok (.getfield 7, 3) := by decide +kernel
theorem dX8_cold_96 : decode cX8_cold 96 = .ok (.bipush 9, 2) := by decide +kernel
theorem dX8_cold_98 : decode cX8_cold 98 = .ok (.iload_n 3, 1) := by decide +kernel
theorem dX8_cold_99 : decode cX8_cold 99 = .ok (.iadd, 1) := by decide +kernel
theorem dX8_cold_100 : decode cX8_cold 100 = .ok (.iaload, 1) := by decide +kernel
theorem dX8_cold_101 : decode cX8_cold 101 = .ok (.istore 4, 2) := by decide +kernel
theorem dX8_cold_103 : decode cX8_cold 103 = .ok (.aload_n 0, 1) := by decide +kernel
theorem dX8_cold_104 : decode cX8_cold 104 = .ok (.invokevirtual 227, 3) := by decide +kernel
theorem dX8_cold_107 : decode cX8_cold 107 = .ok (.iload 4, 2) := by decide +kernel
theorem dX8_cold_109 : decode cX8_cold 109 = .ok (.ireturn, 1) := by decide +kernel
theorem dX8_keeps_0 : decode cX8_keeps 0 = .ok (.iload_n 1, 1) := by decide +kernel
theorem dX8_keeps_1 : decode cX8_keeps 1 = .ok (.invokestatic 182, 3) := by decide +kernel
theorem dX8_keeps_4 : decode cX8_keeps 4 = .ok (.ifCond .ne 9, 3) := by decide +kernel
theorem dX8_keeps_7 : decode cX8_keeps 7 = .ok (.aload_n 0, 1) := by decide +kernel
theorem dX8_keeps_8 : decode cX8_keeps 8 = .ok (.iconst 1, 1) := by decide +kernel
theorem dX8_keeps_9 : decode cX8_keeps 9 = .ok (.invokevirtual 134, 3) := by decide +kernel
theorem dX8_keeps_12 : decode cX8_keeps 12 = .ok (.ireturn, 1) := by decide +kernel
theorem dX8_keeps_13 : decode cX8_keeps 13 = .ok (.aload_n 0, 1) := by decide +kernel
theorem dX8_keeps_14 : decode cX8_keeps 14 = .ok (.invokevirtual 230, 3) := by decide +kernel
theorem dX8_keeps_17 : decode cX8_keeps 17 = .ok (.aload_n 0, 1) := by decide +kernel
theorem dX8_keeps_18 : decode cX8_keeps 18 = .ok (.getfield 7, 3) := by decide +kernel
theorem dX8_keeps_21 : decode cX8_keeps 21 = .ok (.bipush 9, 2) := by decide +kernel
theorem dX8_keeps_23 : decode cX8_keeps 23 = .ok (.iload_n 1, 1) := by decide +kernel
theorem dX8_keeps_24 : decode cX8_keeps 24 = .ok (.iadd, 1) := by decide +kernel
theorem dX8_keeps_25 : decode cX8_keeps 25 = .ok (.iaload, 1) := by decide +kernel
theorem dX8_keeps_26 : decode cX8_keeps 26 = .ok (.iconst 2, 1) := by decide +kernel
theorem dX8_keeps_27 : decode cX8_keeps 27 = .ok (.idiv, 1) := by decide +kernel
theorem dX8_keeps_28 : decode cX8_keeps 28 = .ok (.istore_n 2, 1) := by decide +kernel
theorem dX8_keeps_29 : decode cX8_keeps 29 = .ok (.aload_n 0, 1) := by decide +kernel
theorem dX8_keeps_30 : decode cX8_keeps 30 = .ok (.getfield 7, 3) := by decide +kernel
theorem dX8_keeps_33 : decode cX8_keeps 33 = .ok (.iconst 2, 1) := by decide +kernel
theorem dX8_keeps_34 : decode cX8_keeps 34 = .ok (.iconst 0, 1) := by decide +kernel
theorem dX8_keeps_35 : decode cX8_keeps 35 = .ok (.iastore, 1) := by decide +kernel
theorem dX8_keeps_36 : decode cX8_keeps 36 = .ok (.iconst 0, 1) := by decide +kernel
theorem dX8_keeps_37 : decode cX8_keeps 37 = .ok (.istore_n 3, 1) := by decide +kernel
theorem dX8_keeps_38 : decode cX8_keeps 38 = .ok (.iload_n 3, 1) := by decide +kernel
theorem dX8_keeps_39 : decode cX8_keeps 39 = .ok (.bipush 60, 2) := by decide +kernel
theorem dX8_keeps_41 : decode cX8_keeps 41 = .ok (.if_icmp .ge 26, 3) := by decide +kernel
theorem dX8_keeps_44 : decode cX8_keeps 44 = .ok (.aload_n 0, 1) := by decide +kernel
theorem dX8_keeps_45 : decode cX8_keeps 45 = .ok (.getfield 7, 3) := by decide +kernel
theorem dX8_keeps_48 : decode cX8_keeps 48 = .ok (.bipush 9, 2) := by decide +kernel
theorem dX8_keeps_50 : decode cX8_keeps 50 = .ok (.iload_n 1, 1) := by decide +kernel
theorem dX8_keeps_51 : decode cX8_keeps 51 = .ok (.iadd, 1) := by decide +kernel
theorem dX8_keeps_52 : decode cX8_keeps 52 = .ok (.iaload, 1) := by decide +kernel
theorem dX8_keeps_53 : decode cX8_keeps 53 = .ok (.iload_n 2, 1) := by decide +kernel
theorem dX8_keeps_54 : decode cX8_keeps 54 = .ok (.if_icmp .lt 13, 3) := by decide +kernel
theorem dX8_keeps_57 : decode cX8_keeps 57 = .ok (.aload_n 0, 1) := by decide +kernel
theorem dX8_keeps_58 : decode cX8_keeps 58 = .ok (.invokevirtual 179, 3) := by decide +kernel
theorem dX8_keeps_61 : decode cX8_keeps 61 = .ok (.iinc 3 1, 3) := by decide +kernel
theorem dX8_keeps_64 : decode cX8_keeps 64 = .ok (.goto (-26), 3) := by decide +kernel
theorem dX8_keeps_67 : decode cX8_keeps 67 = .ok (.aload_n 0, 1) := by decide +kernel
theorem dX8_keeps_68 : decode cX8_keeps 68 = .ok (.getfield 7, 3) := by decide +kernel
theorem dX8_keeps_71 : decode cX8_keeps 71 = .ok (.bipush 9, 2) := by decide +kernel
theorem dX8_keeps_73 : decode cX8_keeps 73 = .ok (.iload_n 1, 1) := by decide +kernel
theorem dX8_keeps_74 : decode cX8_keeps 74 = .ok (.iadd, 1) := by decide +kernel
theorem dX8_keeps_75 : decode cX8_keeps 75 = .ok (.iaload, 1) := by decide +kernel
theorem dX8_keeps_76 : decode cX8_keeps 76 = .ok (.iload_n 2, 1) := by decide +kernel
theorem dX8_keeps_77 : decode cX8_keeps 77 = .ok (.if_icmp .ge 7, 3) := by decide +kernel
theorem dX8_keeps_80 : decode cX8_keeps 80 = .ok (.iconst 1, 1) := by decide +kernel
theorem dX8_keeps_81 : decode cX8_keeps 81 = .ok (.goto 4, 3) := by decide +kernel
theorem dX8_keeps_84 : decode cX8_keeps 84 = .ok (.iconst 0, 1) := by decide +kernel
theorem dX8_keeps_85 : decode cX8_keeps 85 = .ok (.istore 4, 2) := by decide +kernel
theorem dX8_keeps_87 : decode cX8_keeps 87 = .ok (.aload_n 0, 1) := by decide +kernel
theorem dX8_keeps_88 : decode cX8_keeps 88 = .ok (.invokevirtual 227, 3) := by decide +kernel
theorem dX8_keeps_91 : decode cX8_keeps 91 = .ok (.iload 4, 2) := by decide +kernel
theorem dX8_keeps_93 : decode cX8_keeps 93 = .ok (.ifCond .eq 7, 3) := by decide +kernel
theorem dX8_keeps_96 : decode cX8_keeps 96 = .ok (.iload_n 3, 1) := by decide +kernel
theorem dX8_keeps_97 : decode cX8_keeps 97 = .ok (.goto 8, 3) := by decide +kernel
theorem dX8_keeps_100 : decode cX8_keeps 100 = .ok (.aload_n 0, 1) := by decide +kernel
theorem dX8_keeps_101 : decode cX8_keeps 101 = .ok (.iconst 2, 1) := by decide +kernel
theorem dX8_keeps_102 : decode cX8_keeps 102 = .ok (.invokevirtual 134, 3) := by decide +kernel
theorem dX8_keeps_105 : decode cX8_keeps 105 = .ok (.ireturn, 1) := by decide +kernel
theorem dX8_fuel_0 : decode cX8_fuel 0 = .ok (.iload_n 1, 1) := by decide +kernel
theorem dX8_fuel_1 : decode cX8_fuel 1 = .ok (.i2l, 1) := by decide +kernel
theorem dX8_fuel_2 : decode cX8_fuel 2 = .ok (.lconst 0, 1) := by decide +kernel
theorem dX8_fuel_3 : decode cX8_fuel 3 = .ok (.ldc2_w 213, 3) := by decide +kernel
theorem dX8_fuel_6 : decode cX8_fuel 6 = .ok (.invokestatic 53, 3) := by decide +kernel
theorem dX8_fuel_9 : decode cX8_fuel 9 = .ok (.ifCond .ne 9, 3) := by decide +kernel
theorem dX8_fuel_12 : decode cX8_fuel 12 = .ok (.aload_n 0, 1) := by decide +kernel
theorem dX8_fuel_13 : decode cX8_fuel 13 = .ok (.iconst 1, 1) := by decide +kernel
theorem dX8_fuel_14 : decode cX8_fuel 14 = .ok (.invokevirtual 134, 3) := by decide +kernel
theorem dX8_fuel_17 : decode cX8_fuel 17 = .ok (.ireturn, 1) := by decide +kernel
theorem dX8_fuel_18 : decode cX8_fuel 18 = .ok (.aload_n 0, 1) := by decide +kernel
theorem dX8_fuel_19 : decode cX8_fuel 19 = .ok (.invokevirtual 230, 3) := by decide +kernel
theorem dX8_fuel_22 : decode cX8_fuel 22 = .ok (.aload_n 0, 1) := by decide +kernel
theorem dX8_fuel_23 : decode cX8_fuel 23 = .ok (.iload_n 1, 1) := by decide +kernel
theorem dX8_fuel_24 : decode cX8_fuel 24 = .ok (.iconst 4, 1) := by decide +kernel
theorem dX8_fuel_25 : decode cX8_fuel 25 = .ok (.invokevirtual 233, 3) := by decide +kernel
theorem dX8_fuel_28 : decode cX8_fuel 28 = .ok (.aload_n 0, 1) := by decide +kernel
theorem dX8_fuel_29 : decode cX8_fuel 29 = .ok (.getfield 7, 3) := by decide +kernel
theorem dX8_fuel_32 : decode cX8_fuel 32 = .ok (.iconst 4, 1) := by decide +kernel
theorem dX8_fuel_33 : decode cX8_fuel 33 = .ok (.iaload, 1) := by decide +kernel
theorem dX8_fuel_34 : decode cX8_fuel 34 = .ok (.isub, 1) := by decide +kernel
theorem dX8_fuel_35 : decode cX8_fuel 35 = .ok (.ireturn, 1) := by decide +kernel
theorem dX8_glad_0 : decode cX8_glad 0 = .ok (.iload_n 1, 1) := by decide +kernel
theorem dX8_glad_1 : decode cX8_glad 1 = .ok (.i2l, 1) := by decide +kernel
theorem dX8_glad_2 : decode cX8_glad 2 = .ok (.lconst 0, 1) := by decide +kernel
theorem dX8_glad_3 : decode cX8_glad 3 = .ok (.ldc2_w 213, 3) := by decide +kernel
theorem dX8_glad_6 : decode cX8_glad 6 = .ok (.invokestatic 53, 3) := by decide +kernel
theorem dX8_glad_9 : decode cX8_glad 9 = .ok (.ifCond .ne 9, 3) := by decide +kernel
theorem dX8_glad_12 : decode cX8_glad 12 = .ok (.aload_n 0, 1) := by decide +kernel
theorem dX8_glad_13 : decode cX8_glad 13 = .ok (.iconst 1, 1) := by decide +kernel
theorem dX8_glad_14 : decode cX8_glad 14 = .ok (.invokevirtual 134, 3) := by decide +kernel
theorem dX8_glad_17 : decode cX8_glad 17 = .ok (.ireturn, 1) := by decide +kernel
theorem dX8_glad_18 : decode cX8_glad 18 = .ok (.aload_n 0, 1) := by decide +kernel
theorem dX8_glad_19 : decode cX8_glad 19 = .ok (.invokevirtual 230, 3) := by decide +kernel
theorem dX8_glad_22 : decode cX8_glad 22 = .ok (.aload_n 0, 1) := by decide +kernel
theorem dX8_glad_23 : decode cX8_glad 23 = .ok (.iload_n 1, 1) := by decide +kernel
theorem dX8_glad_24 : decode cX8_glad 24 = .ok (.invokevirtual 215, 3) := by decide +kernel
theorem dX8_glad_27 : decode cX8_glad 27 = .ok (.aload_n 0, 1) := by decide +kernel
theorem dX8_glad_28 : decode cX8_glad 28 = .ok (.invokevirtual 253, 3) := by decide +kernel
theorem dX8_glad_31 : decode cX8_glad 31 = .ok (.istore_n 2, 1) := by decide +kernel
theorem dX8_glad_32 : decode cX8_glad 32 = .ok (.aload_n 0, 1) := by decide +kernel
theorem dX8_glad_33 : decode cX8_glad 33 = .ok (.invokevirtual 227, 3) := by decide +kernel
theorem dX8_glad_36 : decode cX8_glad 36 = .ok (.iload_n 2, 1) := by decide +kernel
theorem dX8_glad_37 : decode cX8_glad 37 = .ok (.aload_n 0, 1) := by decide +kernel
theorem dX8_glad_38 : decode cX8_glad 38 = .ok (.invokevirtual 253, 3) := by decide +kernel
theorem dX8_glad_41 : decode cX8_glad 41 = .ok (.isub, 1) := by decide +kernel
theorem dX8_glad_42 : decode cX8_glad 42 = .ok (.ireturn, 1) := by decide +kernel
theorem dX8_common_0 : decode cX8_common 0 = .ok (.iload_n 0, 1) := by decide +kernel
theorem dX8_common_1 : decode cX8_common 1 = .ok (.istore_n 2, 1) := by decide +kernel
theorem dX8_common_2 : decode cX8_common 2 = .ok (.iload_n 1, 1) := by decide +kernel
theorem dX8_common_3 : decode cX8_common 3 = .ok (.istore_n 3, 1) := by decide +kernel
theorem dX8_common_4 : decode cX8_common 4 = .ok (.iload_n 3, 1) := by decide +kernel
theorem dX8_common_5 : decode cX8_common 5 = .ok (.ifCond .eq 16, 3) := by decide +kernel
theorem dX8_common_8 : decode cX8_common 8 = .ok (.iload_n 2, 1) := by decide +kernel
theorem dX8_common_9 : decode cX8_common 9 = .ok (.iload_n 3, 1) := by decide +kernel
theorem dX8_common_10 : decode cX8_common 10 = .ok (.irem, 1) := by decide +kernel
theorem dX8_common_11 : decode cX8_common 11 = .ok (.istore 4, 2) := by decide +kernel
theorem dX8_common_13 : decode cX8_common 13 = .ok (.iload_n 3, 1) := by decide +kernel
theorem dX8_common_14 : decode cX8_common 14 = .ok (.istore_n 2, 1) := by decide +kernel
theorem dX8_common_15 : decode cX8_common 15 = .ok (.iload 4, 2) := by decide +kernel
theorem dX8_common_17 : decode cX8_common 17 = .ok (.istore_n 3, 1) := by decide +kernel
theorem dX8_common_18 : decode cX8_common 18 = .ok (.goto (-14), 3) := by decide +kernel
theorem dX8_common_21 : decode cX8_common 21 = .ok (.iload_n 2, 1) := by decide +kernel
theorem dX8_common_22 : decode cX8_common 22 = .ok (.ireturn, 1) := by decide +kernel
theorem dX8_odds_0 : decode cX8_odds 0 = .ok (.aload_n 0, 1) := by decide +kernel
theorem dX8_odds_1 : decode cX8_odds 1 = .ok (.iload_n 1, 1) := by decide +kernel
theorem dX8_odds_2 : decode cX8_odds 2 = .ok (.invokevirtual 203, 3) := by decide +kernel
theorem dX8_odds_5 : decode cX8_odds 5 = .ok (.ifCond .eq 25, 3) := by decide +kernel
theorem dX8_odds_8 : decode cX8_odds 8 = .ok (.iload_n 2, 1) := by decide +kernel
theorem dX8_odds_9 : decode cX8_odds 9 = .ok (.i2l, 1) := by decide +kernel
theorem dX8_odds_10 : decode cX8_odds 10 = .ok (.lconst 1, 1) := by decide +kernel
theorem dX8_odds_11 : decode cX8_odds 11 = .ok (.ldc2_w 213, 3) := by decide +kernel
theorem dX8_odds_14 : decode cX8_odds 14 = .ok (.invokestatic 53, 3) := by decide +kernel
theorem dX8_odds_17 : decode cX8_odds 17 = .ok (.ifCond .eq 13, 3) := by decide +kernel
theorem dX8_odds_20 : decode cX8_odds 20 = .ok (.iload_n 3, 1) := by decide +kernel
theorem dX8_odds_21 : decode cX8_odds 21 = .ok (.i2l, 1) := by decide +kernel
theorem dX8_odds_22 : decode cX8_odds 22 = .ok (.lconst 0, 1) := by decide +kernel
theorem dX8_odds_23 : decode cX8_odds 23 = .ok (.lconst 1, 1) := by decide +kernel
theorem dX8_odds_24 : decode cX8_odds 24 = .ok (.invokestatic 53, 3) := by decide +kernel
theorem dX8_odds_27 : decode cX8_odds 27 = .ok (.ifCond .ne 9, 3) := by decide +kernel
theorem dX8_odds_30 : decode cX8_odds 30 = .ok (.aload_n 0, 1) := by decide +kernel
theorem dX8_odds_31 : decode cX8_odds 31 = .ok (.iconst 1, 1) := by decide +kernel
theorem dX8_odds_32 : decode cX8_odds 32 = .ok (.invokevirtual 134, 3) := by decide +kernel
theorem dX8_odds_35 : decode cX8_odds 35 = .ok (.ireturn, 1) := by decide +kernel
theorem dX8_odds_36 : decode cX8_odds 36 = .ok (.aload_n 0, 1) := by decide +kernel
theorem dX8_odds_37 : decode cX8_odds 37 = .ok (.invokevirtual 230, 3) := by decide +kernel
theorem dX8_odds_40 : decode cX8_odds 40 = .ok (.iconst 0, 1) := by decide +kernel
theorem dX8_odds_41 : decode cX8_odds 41 = .ok (.istore 4, 2) := by decide +kernel
theorem dX8_odds_43 : decode cX8_odds 43 = .ok (.iconst 0, 1) := by decide +kernel
theorem dX8_odds_44 : decode cX8_odds 44 = .ok (.istore 5, 2) := by decide +kernel
theorem dX8_odds_46 : decode cX8_odds 46 = .ok (.iload 5, 2) := by decide +kernel
theorem dX8_odds_48 : decode cX8_odds 48 = .ok (.bipush 100, 2) := by decide +kernel
theorem dX8_odds_50 : decode cX8_odds 50 = .ok (.if_icmp .ge 39, 3) := by decide +kernel
theorem dX8_odds_53 : decode cX8_odds 53 = .ok (.aload_n 0, 1) := by decide +kernel
theorem dX8_odds_54 : decode cX8_odds 54 = .ok (.getfield 7, 3) := by decide +kernel
theorem dX8_odds_57 : decode cX8_odds 57 = .ok (.iconst 2, 1) := by decide +kernel
theorem dX8_odds_58 : decode cX8_odds 58 = .ok (.iload 5, 2) := by decide +kernel
theorem dX8_odds_60 : decode cX8_odds 60 = .ok (.iastore, 1) := by decide +kernel
theorem dX8_odds_61 : decode cX8_odds 61 = .ok (.aload_n 0, 1) := by decide +kernel
theorem dX8_odds_62 : decode cX8_odds 62 = .ok (.iload_n 2, 1) := by decide +kernel
theorem dX8_odds_63 : decode cX8_odds 63 = .ok (.invokevirtual 215, 3) := by decide +kernel
theorem dX8_odds_66 : decode cX8_odds 66 = .ok (.aload_n 0, 1) := by decide +kernel
theorem dX8_odds_67 : decode cX8_odds 67 = .ok (.invokevirtual 227, 3) := by decide +kernel
theorem dX8_odds_70 : decode cX8_odds 70 = .ok (.iload 4, 2) := by decide +kernel
theorem dX8_odds_72 : decode cX8_odds 72 = .ok (.aload_n 0, 1) := by decide +kernel
theorem dX8_odds_73 : decode cX8_odds 73 = .ok (.getfield 167, 3) := by decide +kernel
theorem dX8_odds_76 : decode cX8_odds 76 = .ok (.iload_n 1, 1) := by decide +kernel
theorem dX8_odds_77 : decode cX8_odds 77 = .ok (.ishr, 1) := by decide +kernel
theorem dX8_odds_78 : decode cX8_odds 78 = .ok (.iconst 1, 1) := by decide +kernel
theorem dX8_odds_79 : decode cX8_odds 79 = .ok (.iand, 1) := by decide +kernel
theorem dX8_odds_80 : decode cX8_odds 80 = .ok (.iadd, 1) := by decide +kernel
theorem dX8_odds_81 : decode cX8_odds 81 = .ok (.istore 4, 2) := by decide +kernel
theorem dX8_odds_83 : decode cX8_odds 83 = .ok (.iinc 5 10, 3) := by decide +kernel
theorem dX8_odds_86 : decode cX8_odds 86 = .ok (.goto (-40), 3) := by decide +kernel
theorem dX8_odds_89 : decode cX8_odds 89 = .ok (.iload_n 3, 1) := by decide +kernel
theorem dX8_odds_90 : decode cX8_odds 90 = .ok (.ifCond .ne 8, 3) := by decide +kernel
theorem dX8_odds_93 : decode cX8_odds 93 = .ok (.iload 4, 2) := by decide +kernel
theorem dX8_odds_95 : decode cX8_odds 95 = .ok (.goto 5, 3) := by decide +kernel
theorem dX8_odds_98 : decode cX8_odds 98 = .ok (.bipush 10, 2) := by decide +kernel
theorem dX8_odds_100 : decode cX8_odds 100 = .ok (.iload 4, 2) := by decide +kernel
theorem dX8_odds_102 : decode cX8_odds 102 = .ok (.bipush 10, 2) := by decide +kernel
theorem dX8_odds_104 : decode cX8_odds 104 = .ok (.invokestatic 256, 3) := by decide +kernel
theorem dX8_odds_107 : decode cX8_odds 107 = .ok (.idiv, 1) := by decide +kernel
theorem dX8_odds_108 : decode cX8_odds 108 = .ok (.ireturn, 1) := by decide +kernel
theorem dX8_seed_0 : decode cX8_seed 0 = .ok (.aload_n 0, 1) := by decide +kernel
theorem dX8_seed_1 : decode cX8_seed 1 = .ok (.iconst 5, 1) := by decide +kernel
theorem dX8_seed_2 : decode cX8_seed 2 = .ok (.iload_n 1, 1) := by decide +kernel
theorem dX8_seed_3 : decode cX8_seed 3 = .ok (.invokevirtual 187, 3) := by decide +kernel
theorem dX8_seed_6 : decode cX8_seed 6 = .ok (.ireturn, 1) := by decide +kernel
theorem dX8_ran_0 : decode cX8_ran 0 = .ok (.aload_n 0, 1) := by decide +kernel
theorem dX8_ran_1 : decode cX8_ran 1 = .ok (.getfield 259, 3) := by decide +kernel
theorem dX8_ran_4 : decode cX8_ran 4 = .ok (.bipush 40, 2) := by decide +kernel
theorem dX8_ran_6 : decode cX8_ran 6 = .ok (.if_icmp .ge 23, 3) := by decide +kernel
theorem dX8_ran_9 : decode cX8_ran 9 = .ok (.aload_n 0, 1) := by decide +kernel
theorem dX8_ran_10 : decode cX8_ran 10 = .ok (.getfield 37, 3) := by decide +kernel
theorem dX8_ran_13 : decode cX8_ran 13 = .ok (.aload_n 0, 1) := by decide +kernel
theorem dX8_ran_14 : decode cX8_ran 14 = .ok (.getfield 259, 3) := by decide +kernel
theorem dX8_ran_17 : decode cX8_ran 17 = .ok (.iload_n 1, 1) := by decide +kernel
theorem dX8_ran_18 : decode cX8_ran 18 = .ok (.iastore, 1) := by decide +kernel
