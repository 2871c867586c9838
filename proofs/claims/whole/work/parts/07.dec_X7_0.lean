theorem dX7_init_0 : decode cX7_init 0 = .ok (.aload_n 0, 1) := by decide +kernel
theorem dX7_init_1 : decode cX7_init 1 = .ok (.invokespecial 1, 3) := by decide +kernel
theorem dX7_init_4 : decode cX7_init 4 = .ok (.aload_n 0, 1) := by decide +kernel
theorem dX7_init_5 : decode cX7_init 5 = .ok (.new 7, 3) := by decide +kernel
theorem dX7_init_8 : decode cX7_init 8 = .ok (.dup, 1) := by decide +kernel
theorem dX7_init_9 : decode cX7_init 9 = .ok (.invokespecial 9, 3) := by decide +kernel
theorem dX7_init_12 : decode cX7_init 12 = .ok (.putfield 10, 3) := by decide +kernel
theorem dX7_init_15 : decode cX7_init 15 = .ok (.aload_n 0, 1) := by decide +kernel
theorem dX7_init_16 : decode cX7_init 16 = .ok (.new 7, 3) := by decide +kernel
theorem dX7_init_19 : decode cX7_init 19 = .ok (.dup, 1) := by decide +kernel
theorem dX7_init_20 : decode cX7_init 20 = .ok (.invokespecial 9, 3) := by decide +kernel
theorem dX7_init_23 : decode cX7_init 23 = .ok (.putfield 16, 3) := by decide +kernel
theorem dX7_init_26 : decode cX7_init 26 = .ok (.aload_n 0, 1) := by decide +kernel
theorem dX7_init_27 : decode cX7_init 27 = .ok (.new 7, 3) := by decide +kernel
theorem dX7_init_30 : decode cX7_init 30 = .ok (.dup, 1) := by decide +kernel
theorem dX7_init_31 : decode cX7_init 31 = .ok (.invokespecial 9, 3) := by decide +kernel
theorem dX7_init_34 : decode cX7_init 34 = .ok (.putfield 19, 3) := by decide +kernel
theorem dX7_init_37 : decode cX7_init 37 = .ok (.aload_n 0, 1) := by decide +kernel
theorem dX7_init_38 : decode cX7_init 38 = .ok (.new 22, 3) := by decide +kernel
theorem dX7_init_41 : decode cX7_init 41 = .ok (.dup, 1) := by decide +kernel
theorem dX7_init_42 : decode cX7_init 42 = .ok (.invokespecial 24, 3) := by decide +kernel
theorem dX7_init_45 : decode cX7_init 45 = .ok (.putfield 25, 3) := by decide +kernel
theorem dX7_init_48 : decode cX7_init 48 = .ok (.aload_n 0, 1) := by decide +kernel
theorem dX7_init_49 : decode cX7_init 49 = .ok (.new 29, 3) := by decide +kernel
theorem dX7_init_52 : decode cX7_init 52 = .ok (.dup, 1) := by decide +kernel
theorem dX7_init_53 : decode cX7_init 53 = .ok (.invokespecial 31, 3) := by decide +kernel
theorem dX7_init_56 : decode cX7_init 56 = .ok (.putfield 32, 3) := by decide +kernel
theorem dX7_init_59 : decode cX7_init 59 = .ok (.aload_n 0, 1) := by decide +kernel
theorem dX7_init_60 : decode cX7_init 60 = .ok (.iconst 4, 1) := by decide +kernel
theorem dX7_init_61 : decode cX7_init 61 = .ok (.anewarray 36, 3) := by decide +kernel
theorem dX7_init_64 : decode cX7_init 64 = .ok (.putfield 38, 3) := by decide +kernel
theorem dX7_init_67 : decode cX7_init 67 = .ok (.aload_n 0, 1) := by decide +kernel
theorem dX7_init_68 : decode cX7_init 68 = .ok (.bipush 8, 2) := by decide +kernel
theorem dX7_init_70 : decode cX7_init 70 = .ok (.newarray .int, 2) := by decide +kernel
theorem dX7_init_72 : decode cX7_init 72 = .ok (.putfield 42, 3) := by decide +kernel
theorem dX7_init_75 : decode cX7_init 75 = .ok (.aload_n 0, 1) := by decide +kernel
theorem dX7_init_76 : decode cX7_init 76 = .ok (.bipush 6, 2) := by decide +kernel
theorem dX7_init_78 : decode cX7_init 78 = .ok (.newarray .int, 2) := by decide +kernel
theorem dX7_init_80 : decode cX7_init 80 = .ok (.putfield 46, 3) := by decide +kernel
theorem dX7_init_83 : decode cX7_init 83 = .ok (.iconst 0, 1) := by decide +kernel
theorem dX7_init_84 : decode cX7_init 84 = .ok (.istore_n 1, 1) := by decide +kernel
theorem dX7_init_85 : decode cX7_init 85 = .ok (.iload_n 1, 1) := by decide +kernel
theorem dX7_init_86 : decode cX7_init 86 = .ok (.aload_n 0, 1) := by decide +kernel
theorem dX7_init_87 : decode cX7_init 87 = .ok (.getfield 38, 3) := by decide +kernel
theorem dX7_init_90 : decode cX7_init 90 = .ok (.arraylength, 1) := by decide +kernel
theorem dX7_init_91 : decode cX7_init 91 = .ok (.if_icmp .ge 22, 3) := by decide +kernel
theorem dX7_init_94 : decode cX7_init 94 = .ok (.aload_n 0, 1) := by decide +kernel
theorem dX7_init_95 : decode cX7_init 95 = .ok (.getfield 38, 3) := by decide +kernel
theorem dX7_init_98 : decode cX7_init 98 = .ok (.iload_n 1, 1) := by decide +kernel
theorem dX7_init_99 : decode cX7_init 99 = .ok (.new 36, 3) := by decide +kernel
theorem dX7_init_102 : decode cX7_init 102 = .ok (.dup, 1) := by decide +kernel
theorem dX7_init_103 : decode cX7_init 103 = .ok (.invokespecial 49, 3) := by decide +kernel
theorem dX7_init_106 : decode cX7_init 106 = .ok (.aastore, 1) := by decide +kernel
theorem dX7_init_107 : decode cX7_init 107 = .ok (.iinc 1 1, 3) := by decide +kernel
theorem dX7_init_110 : decode cX7_init 110 = .ok (.goto (-25), 3) := by decide +kernel
theorem dX7_init_113 : decode cX7_init 113 = .ok (.return_, 1) := by decide +kernel
theorem dX7_heat_0 : decode cX7_heat 0 = .ok (.iload_n 1, 1) := by decide +kernel
theorem dX7_heat_1 : decode cX7_heat 1 = .ok (.invokestatic 50, 3) := by decide +kernel
theorem dX7_heat_4 : decode cX7_heat 4 = .ok (.ifCond .eq 14, 3) := by decide +kernel
theorem dX7_heat_7 : decode cX7_heat 7 = .ok (.iload_n 2, 1) := by decide +kernel
theorem dX7_heat_8 : decode cX7_heat 8 = .ok (.iconst 0, 1) := by decide +kernel
theorem dX7_heat_9 : decode cX7_heat 9 = .ok (.sipush 999, 3) := by decide +kernel
theorem dX7_heat_12 : decode cX7_heat 12 = .ok (.invokestatic 54, 3) := by decide +kernel
theorem dX7_heat_15 : decode cX7_heat 15 = .ok (.ifCond .ne 9, 3) := by decide +kernel
theorem dX7_heat_18 : decode cX7_heat 18 = .ok (.aload_n 0, 1) := by decide +kernel
theorem dX7_heat_19 : decode cX7_heat 19 = .ok (.iconst 1, 1) := by decide +kernel
theorem dX7_heat_20 : decode cX7_heat 20 = .ok (.invokevirtual 58, 3) := by decide +kernel
theorem dX7_heat_23 : decode cX7_heat 23 = .ok (.ireturn, 1) := by decide +kernel
theorem dX7_heat_24 : decode cX7_heat 24 = .ok (.aload_n 0, 1) := by decide +kernel
theorem dX7_heat_25 : decode cX7_heat 25 = .ok (.getfield 10, 3) := by decide +kernel
theorem dX7_heat_28 : decode cX7_heat 28 = .ok (.getfield 62, 3) := by decide +kernel
theorem dX7_heat_31 : decode cX7_heat 31 = .ok (.iload_n 1, 1) := by decide +kernel
theorem dX7_heat_32 : decode cX7_heat 32 = .ok (.iaload, 1) := by decide +kernel
theorem dX7_heat_33 : decode cX7_heat 33 = .ok (.istore_n 3, 1) := by decide +kernel
theorem dX7_heat_34 : decode cX7_heat 34 = .ok (.aload_n 0, 1) := by decide +kernel
theorem dX7_heat_35 : decode cX7_heat 35 = .ok (.getfield 10, 3) := by decide +kernel
theorem dX7_heat_38 : decode cX7_heat 38 = .ok (.getfield 62, 3) := by decide +kernel
theorem dX7_heat_41 : decode cX7_heat 41 = .ok (.iload_n 1, 1) := by decide +kernel
theorem dX7_heat_42 : decode cX7_heat 42 = .ok (.iload_n 2, 1) := by decide +kernel
theorem dX7_heat_43 : decode cX7_heat 43 = .ok (.iastore, 1) := by decide +kernel
theorem dX7_heat_44 : decode cX7_heat 44 = .ok (.iload_n 3, 1) := by decide +kernel
theorem dX7_heat_45 : decode cX7_heat 45 = .ok (.ireturn, 1) := by decide +kernel
theorem dX7_ofCell_0 : decode cX7_ofCell 0 = .ok (.iload_n 1, 1) := by decide +kernel
theorem dX7_ofCell_1 : decode cX7_ofCell 1 = .ok (.invokestatic 50, 3) := by decide +kernel
theorem dX7_ofCell_4 : decode cX7_ofCell 4 = .ok (.ifCond .ne 9, 3) := by decide +kernel
theorem dX7_ofCell_7 : decode cX7_ofCell 7 = .ok (.aload_n 0, 1) := by decide +kernel
theorem dX7_ofCell_8 : decode cX7_ofCell 8 = .ok (.iconst 1, 1) := by decide +kernel
theorem dX7_ofCell_9 : decode cX7_ofCell 9 = .ok (.invokevirtual 58, 3) := by decide +kernel
theorem dX7_ofCell_12 : decode cX7_ofCell 12 = .ok (.ireturn, 1) := by decide +kernel
theorem dX7_ofCell_13 : decode cX7_ofCell 13 = .ok (.iload_n 2, 1) := by decide +kernel
theorem dX7_ofCell_14 : decode cX7_ofCell 14 = .ok (.tableswitch 49 0 2 #[26, 36, 40], 26) := by decide +kernel
theorem dX7_ofCell_40 : decode cX7_ofCell 40 = .ok (.aload_n 0, 1) := by decide +kernel
theorem dX7_ofCell_41 : decode cX7_ofCell 41 = .ok (.getfield 10, 3) := by decide +kernel
theorem dX7_ofCell_44 : decode cX7_ofCell 44 = .ok (.getfield 62, 3) := by decide +kernel
theorem dX7_ofCell_47 : decode cX7_ofCell 47 = .ok (.iload_n 1, 1) := by decide +kernel
theorem dX7_ofCell_48 : decode cX7_ofCell 48 = .ok (.iaload, 1) := by decide +kernel
theorem dX7_ofCell_49 : decode cX7_ofCell 49 = .ok (.ireturn, 1) := by decide +kernel
theorem dX7_ofCell_50 : decode cX7_ofCell 50 = .ok (.iload_n 1, 1) := by decide +kernel
theorem dX7_ofCell_51 : decode cX7_ofCell 51 = .ok (.iconst 4, 1) := by decide +kernel
theorem dX7_ofCell_52 : decode cX7_ofCell 52 = .ok (.idiv, 1) := by decide +kernel
theorem dX7_ofCell_53 : decode cX7_ofCell 53 = .ok (.ireturn, 1) := by decide +kernel
theorem dX7_ofCell_54 : decode cX7_ofCell 54 = .ok (.aload_n 0, 1) := by decide +kernel
theorem dX7_ofCell_55 : decode cX7_ofCell 55 = .ok (.getfield 10, 3) := by decide +kernel
theorem dX7_ofCell_58 : decode cX7_ofCell 58 = .ok (.iload_n 1, 1) := by decide +kernel
theorem dX7_ofCell_59 : decode cX7_ofCell 59 = .ok (.invokevirtual 65, 3) := by decide +kernel
theorem dX7_ofCell_62 : decode cX7_ofCell 62 = .ok (.ireturn, 1) := by decide +kernel
theorem dX7_ofCell_63 : decode cX7_ofCell 63 = .ok (.aload_n 0, 1) := by decide +kernel
theorem dX7_ofCell_64 : decode cX7_ofCell 64 = .ok (.iconst 1, 1) := by decide +kernel
theorem dX7_ofCell_65 : decode cX7_ofCell 65 = .ok (.invokevirtual 58, 3) := by decide +kernel
theorem dX7_ofCell_68 : decode cX7_ofCell 68 = .ok (.ireturn, 1) := by decide +kernel
theorem dX7_door_0 : decode cX7_door 0 = .ok (.iload_n 1, 1) := by decide +kernel
theorem dX7_door_1 : decode cX7_door 1 = .ok (.invokestatic 68, 3) := by decide +kernel
theorem dX7_door_4 : decode cX7_door 4 = .ok (.ifCond .eq 12, 3) := by decide +kernel
theorem dX7_door_7 : decode cX7_door 7 = .ok (.iload_n 2, 1) := by decide +kernel
theorem dX7_door_8 : decode cX7_door 8 = .ok (.iconst 0, 1) := by decide +kernel
theorem dX7_door_9 : decode cX7_door 9 = .ok (.iconst 1, 1) := by decide +kernel
theorem dX7_door_10 : decode cX7_door 10 = .ok (.invokestatic 54, 3) := by decide +kernel
theorem dX7_door_13 : decode cX7_door 13 = .ok (.ifCond .ne 9, 3) := by decide +kernel
theorem dX7_door_16 : decode cX7_door 16 = .ok (.aload_n 0, 1) := by decide +kernel
theorem dX7_door_17 : decode cX7_door 17 = .ok (.iconst 1, 1) := by decide +kernel
theorem dX7_door_18 : decode cX7_door 18 = .ok (.invokevirtual 58, 3) := by decide +kernel
theorem dX7_door_21 : decode cX7_door 21 = .ok (.ireturn, 1) := by decide +kernel
theorem dX7_door_22 : decode cX7_door 22 = .ok (.aload_n 0, 1) := by decide +kernel
theorem dX7_door_23 : decode cX7_door 23 = .ok (.getfield 10, 3) := by decide +kernel
theorem dX7_door_26 : decode cX7_door 26 = .ok (.getfield 71, 3) := by decide +kernel
theorem dX7_door_29 : decode cX7_door 29 = .ok (.iload_n 1, 1) := by decide +kernel
theorem dX7_door_30 : decode cX7_door 30 = .ok (.ishr, 1) := by decide +kernel
theorem dX7_door_31 : decode cX7_door 31 = .ok (.iconst 1, 1) := by decide +kernel
theorem dX7_door_32 : decode cX7_door 32 = .ok (.iand, 1) := by decide +kernel
theorem dX7_door_33 : decode cX7_door 33 = .ok (.istore_n 3, 1) := by decide +kernel
theorem dX7_door_34 : decode cX7_door 34 = .ok (.iload_n 3, 1) := by decide +kernel
theorem dX7_door_35 : decode cX7_door 35 = .ok (.iload_n 2, 1) := by decide +kernel
theorem dX7_door_36 : decode cX7_door 36 = .ok (.if_icmp .eq 18, 3) := by decide +kernel
theorem dX7_door_39 : decode cX7_door 39 = .ok (.aload_n 0, 1) := by decide +kernel
theorem dX7_door_40 : decode cX7_door 40 = .ok (.getfield 10, 3) := by decide +kernel
theorem dX7_door_43 : decode cX7_door 43 = .ok (.dup, 1) := by decide +kernel
theorem dX7_door_44 : decode cX7_door 44 = .ok (.getfield 71, 3) := by decide +kernel
theorem dX7_door_47 : decode cX7_door 47 = .ok (.iconst 1, 1) := by decide +kernel
theorem dX7_door_48 : decode cX7_door 48 = .ok (.iload_n 1, 1) := by decide +kernel
theorem dX7_door_49 : decode cX7_door 49 = .ok (.ishl, 1) := by decide +kernel
theorem dX7_door_50 : decode cX7_door 50 = .ok (.ixor, 1) := by decide +kernel
theorem dX7_door_51 : decode cX7_door 51 = .ok (.putfield 71, 3) := by decide +kernel
theorem dX7_door_54 : decode cX7_door 54 = .ok (.iload_n 3, 1) := by decide +kernel
theorem dX7_door_55 : decode cX7_door 55 = .ok (.ireturn, 1) := by decide +kernel
theorem dX7_doorsNow_0 : decode cX7_doorsNow 0 = .ok (.aload_n 0, 1) := by decide +kernel
theorem dX7_doorsNow_1 : decode cX7_doorsNow 1 = .ok (.getfield 10, 3) := by decide +kernel
theorem dX7_doorsNow_4 : decode cX7_doorsNow 4 = .ok (.getfield 71, 3) := by decide +kernel
theorem dX7_doorsNow_7 : decode cX7_doorsNow 7 = .ok (.ireturn, 1) := by decide +kernel
theorem dX7_fire_0 : decode cX7_fire 0 = .ok (.iload_n 1, 1) := by decide +kernel
theorem dX7_fire_1 : decode cX7_fire 1 = .ok (.ifCond .ne 32, 3) := by decide +kernel
theorem dX7_fire_4 : decode cX7_fire 4 = .ok (.iload_n 2, 1) := by decide +kernel
theorem dX7_fire_5 : decode cX7_fire 5 = .ok (.iconst 0, 1) := by decide +kernel
theorem dX7_fire_6 : decode cX7_fire 6 = .ok (.bipush 99, 2) := by decide +kernel
theorem dX7_fire_8 : decode cX7_fire 8 = .ok (.invokestatic 54, 3) := by decide +kernel
theorem dX7_fire_11 : decode cX7_fire 11 = .ok (.ifCond .eq 22, 3) := by decide +kernel
theorem dX7_fire_14 : decode cX7_fire 14 = .ok (.aload_n 0, 1) := by decide +kernel
theorem dX7_fire_15 : decode cX7_fire 15 = .ok (.getfield 10, 3) := by decide +kernel
theorem dX7_fire_18 : decode cX7_fire 18 = .ok (.getfield 75, 3) := by decide +kernel
theorem dX7_fire_21 : decode cX7_fire 21 = .ok (.istore_n 3, 1) := by decide +kernel
theorem dX7_fire_22 : decode cX7_fire 22 = .ok (.aload_n 0, 1) := by decide +kernel
theorem dX7_fire_23 : decode cX7_fire 23 = .ok (.getfield 10, 3) := by decide +kernel
theorem dX7_fire_26 : decode cX7_fire 26 = .ok (.iload_n 2, 1) := by decide +kernel
theorem dX7_fire_27 : decode cX7_fire 27 = .ok (.putfield 75, 3) := by decide +kernel
theorem dX7_fire_30 : decode cX7_fire 30 = .ok (.goto 78, 3) := by decide +kernel
theorem dX7_fire_33 : decode cX7_fire 33 = .ok (.iload_n 1, 1) := by decide +kernel
theorem dX7_fire_34 : decode cX7_fire 34 = .ok (.iconst 1, 1) := by decide +kernel
theorem dX7_fire_35 : decode cX7_fire 35 = .ok (.if_icmp .ne 33, 3) := by decide +kernel
theorem dX7_fire_38 : decode cX7_fire 38 = .ok (.iload_n 2, 1) := by decide +kernel
theorem dX7_fire_39 : decode cX7_fire 39 = .ok (.iconst 0, 1) := by decide +kernel
theorem dX7_fire_40 : decode cX7_fire 40 = .ok (.sipush 9999, 3) := by decide +kernel
theorem dX7_fire_43 : decode cX7_fire 43 = .ok (.invokestatic 54, 3) := by decide +kernel
theorem dX7_fire_46 : decode cX7_fire 46 = .ok (.ifCond .eq 22, 3) := by decide +kernel
theorem dX7_fire_49 : decode cX7_fire 49 = .ok (.aload_n 0, 1) := by decide +kernel
theorem dX7_fire_50 : decode cX7_fire 50 = .ok (.getfield 10, 3) := by decide +kernel
theorem dX7_fire_53 : decode cX7_fire 53 = .ok (.getfield 78, 3) := by decide +kernel
theorem dX7_fire_56 : decode cX7_fire 56 = .ok (.istore_n 3, 1) := by decide +kernel
theorem dX7_fire_57 : decode cX7_fire 57 = .ok (.aload_n 0, 1) := by decide +kernel
theorem dX7_fire_58 : decode cX7_fire 58 = .ok (.getfield 10, 3) := by decide +kernel
theorem dX7_fire_61 : decode cX7_fire 61 = .ok (.iload_n 2, 1) := by decide +kernel
theorem dX7_fire_62 : decode cX7_fire 62 = .ok (.putfield 78, 3) := by decide +kernel
theorem dX7_fire_65 : decode cX7_fire 65 = .ok (.goto 43, 3) := by decide +kernel
theorem dX7_fire_68 : decode cX7_fire 68 = .ok (.iload_n 1, 1) := by decide +kernel
theorem dX7_fire_69 : decode cX7_fire 69 = .ok (.iconst 2, 1) := by decide +kernel
theorem dX7_fire_70 : decode cX7_fire 70 = .ok (.if_icmp .ne 32, 3) := by decide +kernel
theorem dX7_fire_73 : decode cX7_fire 73 = .ok (.iload_n 2, 1) := by decide +kernel
theorem dX7_fire_74 : decode cX7_fire 74 = .ok (.iconst 0, 1) := by decide +kernel
theorem dX7_fire_75 : decode cX7_fire 75 = .ok (.ldc 81, 2) := by decide +kernel
theorem dX7_fire_77 : decode cX7_fire 77 = .ok (.invokestatic 54, 3) := by decide +kernel
theorem dX7_fire_80 : decode cX7_fire 80 = .ok (.ifCond .eq 22, 3) := by decide +kernel
theorem dX7_fire_83 : decode cX7_fire 83 = .ok (.aload_n 0, 1) := by decide +kernel
theorem dX7_fire_84 : decode cX7_fire 84 = .ok (.getfield 10, 3) := by decide +kernel
theorem dX7_fire_87 : decode cX7_fire 87 = .ok (.getfield 82, 3) := by decide +kernel
theorem dX7_fire_90 : decode cX7_fire 90 = .ok (.istore_n 3, 1) := by decide +kernel
theorem dX7_fire_91 : decode cX7_fire 91 = .ok (.aload_n 0, 1) := by decide +kernel
theorem dX7_fire_92 : decode cX7_fire 92 = .ok (.getfield 10, 3) := by decide +kernel
theorem dX7_fire_95 : decode cX7_fire 95 = .ok (.iload_n 2, 1) := by decide +kernel
theorem dX7_fire_96 : decode cX7_fire 96 = .ok (.putfield 82, 3) := by decide +kernel
theorem dX7_fire_99 : decode cX7_fire 99 = .ok (.goto 9, 3) := by decide +kernel
theorem dX7_fire_102 : decode cX7_fire 102 = .ok (.aload_n 0, 1) := by decide +kernel
theorem dX7_fire_103 : decode cX7_fire 103 = .ok (.iconst 1, 1) := by decide +kernel
theorem dX7_fire_104 : decode cX7_fire 104 = .ok (.invokevirtual 58, 3) := by decide +kernel
theorem dX7_fire_107 : decode cX7_fire 107 = .ok (.istore_n 3, 1) := by decide +kernel
theorem dX7_fire_108 : decode cX7_fire 108 = .ok (.iload_n 3, 1) := by decide +kernel
theorem dX7_fire_109 : decode cX7_fire 109 = .ok (.ireturn, 1) := by decide +kernel
theorem dX7_house_0 : decode cX7_house 0 = .ok (.iload_n 1, 1) := by decide +kernel
theorem dX7_house_1 : decode cX7_house 1 = .ok (.iconst 0, 1) := by decide +kernel
theorem dX7_house_2 : decode cX7_house 2 = .ok (.bipush 69, 2) := by decide +kernel
theorem dX7_house_4 : decode cX7_house 4 = .ok (.invokestatic 54, 3) := by decide +kernel
theorem dX7_house_7 : decode cX7_house 7 = .ok (.ifCond .eq 10, 3) := by decide +kernel
theorem dX7_house_10 : decode cX7_house 10 = .ok (.iload_n 2, 1) := by decide +kernel
theorem dX7_house_11 : decode cX7_house 11 = .ok (.invokestatic 50, 3) := by decide +kernel
theorem dX7_house_14 : decode cX7_house 14 = .ok (.ifCond .ne 9, 3) := by decide +kernel
theorem dX7_house_17 : decode cX7_house 17 = .ok (.aload_n 0, 1) := by decide +kernel
theorem dX7_house_18 : decode cX7_house 18 = .ok (.iconst 1, 1) := by decide +kernel
theorem dX7_house_19 : decode cX7_house 19 = .ok (.invokevirtual 58, 3) := by decide +kernel
theorem dX7_house_22 : decode cX7_house 22 = .ok (.ireturn, 1) := by decide +kernel
theorem dX7_house_23 : decode cX7_house 23 = .ok (.aload_n 0, 1) := by decide +kernel
theorem dX7_house_24 : decode cX7_house 24 = .ok (.getfield 10, 3) := by decide +kernel
theorem dX7_house_27 : decode cX7_house 27 = .ok (.getfield 85, 3) := by decide +kernel
theorem dX7_house_30 : decode cX7_house 30 = .ok (.istore_n 3, 1) := by decide +kernel
theorem dX7_house_31 : decode cX7_house 31 = .ok (.iload_n 3, 1) := by decide +kernel
theorem dX7_house_32 : decode cX7_house 32 = .ok (.bipush 8, 2) := by decide +kernel
theorem dX7_house_34 : decode cX7_house 34 = .ok (.if_icmp .lt 9, 3) := by decide +kernel
theorem dX7_house_37 : decode cX7_house 37 = .ok (.aload_n 0, 1) := by decide +kernel
theorem dX7_house_38 : decode cX7_house 38 = .ok (.iconst 4, 1) := by decide +kernel
theorem dX7_house_39 : decode cX7_house 39 = .ok (.invokevirtual 58, 3) := by decide +kernel
theorem dX7_house_42 : decode cX7_house 42 = .ok (.ireturn, 1) := by decide +kernel
theorem dX7_house_43 : decode cX7_house 43 = .ok (.aload_n 0, 1) := by decide +kernel
theorem dX7_house_44 : decode cX7_house 44 = .ok (.getfield 10, 3) := by decide +kernel
theorem dX7_house_47 : decode cX7_house 47 = .ok (.getfield 88, 3) := by decide +kernel
theorem dX7_house_50 : decode cX7_house 50 = .ok (.iload_n 3, 1) := by decide +kernel
theorem dX7_house_51 : decode cX7_house 51 = .ok (.iload_n 1, 1) := by decide +kernel
theorem dX7_house_52 : decode cX7_house 52 = .ok (.iastore, 1) := by decide +kernel
theorem dX7_house_53 : decode cX7_house 53 = .ok (.aload_n 0, 1) := by decide +kernel
theorem dX7_house_54 : decode cX7_house 54 = .ok (.getfield 10, 3) := by decide +kernel
theorem dX7_house_57 : decode cX7_house 57 = .ok (.getfield 91, 3) := by decide +kernel
theorem dX7_house_60 : decode cX7_house 60 = .ok (.iload_n 3, 1) := by decide +kernel
theorem dX7_house_61 : decode cX7_house 61 = .ok (.iload_n 2, 1) := by decide +kernel
theorem dX7_house_62 : decode cX7_house 62 = .ok (.iastore, 1) := by decide +kernel
theorem dX7_house_63 : decode cX7_house 63 = .ok (.aload_n 0, 1) := by decide +kernel
theorem dX7_house_64 : decode cX7_house 64 = .ok (.getfield 10, 3) := by decide +kernel
theorem dX7_house_67 : decode cX7_house 67 = .ok (.getfield 94, 3) := by decide +kernel
theorem dX7_house_70 : decode cX7_house 70 = .ok (.iload_n 3, 1) := by decide +kernel
theorem dX7_house_71 : decode cX7_house 71 = .ok (.iconst 0, 1) := by decide +kernel
theorem dX7_house_72 : decode cX7_house 72 = .ok (.iastore, 1) := by decide +kernel
theorem dX7_house_73 : decode cX7_house 73 = .ok (.aload_n 0, 1) := by decide +kernel
theorem dX7_house_74 : decode cX7_house 74 = .ok (.getfield 10, 3) := by decide +kernel
theorem dX7_house_77 : decode cX7_house 77 = .ok (.iload_n 3, 1) := by decide +kernel
theorem dX7_house_78 : decode cX7_house 78 = .ok (.iconst 1, 1) := by decide +kernel
theorem dX7_house_79 : decode cX7_house 79 = .ok (.iadd, 1) := by decide +kernel
theorem dX7_house_80 : decode cX7_house 80 = .ok (.putfield 85, 3) := by decide +kernel
theorem dX7_house_83 : decode cX7_house 83 = .ok (.iload_n 3, 1) := by decide +kernel
theorem dX7_house_84 : decode cX7_house 84 = .ok (.ireturn, 1) := by decide +kernel
theorem dX7_ofHouse_0 : decode cX7_ofHouse 0 = .ok (.aload_n 0, 1) := by decide +kernel
theorem dX7_ofHouse_1 : decode cX7_ofHouse 1 = .ok (.iload_n 1, 1) := by decide +kernel
theorem dX7_ofHouse_2 : decode cX7_ofHouse 2 = .ok (.invokevirtual 97, 3) := by decide +kernel
theorem dX7_ofHouse_5 : decode cX7_ofHouse 5 = .ok (.ifCond .ne 9, 3) := by decide +kernel
theorem dX7_ofHouse_8 : decode cX7_ofHouse 8 = .ok (.aload_n 0, 1) := by decide +kernel
theorem dX7_ofHouse_9 : decode cX7_ofHouse 9 = .ok (.iconst 1, 1) := by decide +kernel
theorem dX7_ofHouse_10 : decode cX7_ofHouse 10 = .ok (.invokevirtual 58, 3) := by decide +kernel
theorem dX7_ofHouse_13 : decode cX7_ofHouse 13 = .ok (.ireturn, 1) := by decide +kernel
theorem dX7_ofHouse_14 : decode cX7_ofHouse 14 = .ok (.iload_n 2, 1) := by decide +kernel
theorem dX7_ofHouse_15 : decode cX7_ofHouse 15 = .ok (.tableswitch 127 0 7 #[45, 54, 63, 73, 83, 92, 101, 110], 45) := by decide +kernel
theorem dX7_ofHouse_60 : decode cX7_ofHouse 60 = .ok (.aload_n 0, 1) := by decide +kernel
theorem dX7_ofHouse_61 : decode cX7_ofHouse 61 = .ok (.getfield 10, 3) := by decide +kernel
theorem dX7_ofHouse_64 : decode cX7_ofHouse 64 = .ok (.iload_n 1, 1) := by decide +kernel
theorem dX7_ofHouse_65 : decode cX7_ofHouse 65 = .ok (.invokevirtual 100, 3) := by decide +kernel
theorem dX7_ofHouse_68 : decode cX7_ofHouse 68 = .ok (.ireturn, 1) := by decide +kernel
theorem dX7_ofHouse_69 : decode cX7_ofHouse 69 = .ok (.aload_n 0, 1) := by decide +kernel
theorem dX7_ofHouse_70 : decode cX7_ofHouse 70 = .ok (.getfield 10, 3) := by decide +kernel
theorem dX7_ofHouse_73 : decode cX7_ofHouse 73 = .ok (.iload_n 1, 1) := by decide +kernel
theorem dX7_ofHouse_74 : decode cX7_ofHouse 74 = .ok (.invokevirtual 103, 3) := by decide +kernel
theorem dX7_ofHouse_77 : decode cX7_ofHouse 77 = .ok (.ireturn, 1) := by decide +kernel
theorem dX7_ofHouse_78 : decode cX7_ofHouse 78 = .ok (.aload_n 0, 1) := by decide +kernel
theorem dX7_ofHouse_79 : decode cX7_ofHouse 79 = .ok (.getfield 10, 3) := by decide +kernel
theorem dX7_ofHouse_82 : decode cX7_ofHouse 82 = .ok (.getfield 91, 3) := by decide +kernel
theorem dX7_ofHouse_85 : decode cX7_ofHouse 85 = .ok (.iload_n 1, 1) := by decide +kernel
theorem dX7_ofHouse_86 : decode cX7_ofHouse 86 = .ok (.iaload, 1) := by decide +kernel
theorem dX7_ofHouse_87 : decode cX7_ofHouse 87 = .ok (.ireturn, 1) := by decide +kernel
theorem dX7_ofHouse_88 : decode cX7_ofHouse 88 = .ok (.aload_n 0, 1) := by decide +kernel
theorem dX7_ofHouse_89 : decode cX7_ofHouse 89 = .ok (.getfield 10, 3) := by decide +kernel
theorem dX7_ofHouse_92 : decode cX7_ofHouse 92 = .ok (.getfield 94, 3) := by decide +kernel
theorem dX7_ofHouse_95 : decode cX7_ofHouse 95 = .ok (.iload_n 1, 1) := by decide +kernel
theorem dX7_ofHouse_96 : decode cX7_ofHouse 96 = .ok (.iaload, 1) := by decide +kernel
theorem dX7_ofHouse_97 : decode cX7_ofHouse 97 = .ok (.ireturn, 1) := by decide +kernel
theorem dX7_ofHouse_98 : decode cX7_ofHouse 98 = .ok (.aload_n 0, 1) := by decide +kernel
theorem dX7_ofHouse_99 : decode cX7_ofHouse 99 = .ok (.getfield 10, 3) := by decide +kernel
theorem dX7_ofHouse_102 : decode cX7_ofHouse 102 = .ok (.iload_n 1, 1) := by decide +kernel
theorem dX7_ofHouse_103 : decode cX7_ofHouse 103 = .ok (.invokevirtual 106, 3) := by decide +kernel
theorem dX7_ofHouse_106 : decode cX7_ofHouse 106 = .ok (.ireturn, 1) := by decide +kernel
theorem dX7_ofHouse_107 : decode cX7_ofHouse 107 = .ok (.aload_n 0, 1) := by decide +kernel
theorem dX7_ofHouse_108 : decode cX7_ofHouse 108 = .ok (.getfield 10, 3) := by decide +kernel
theorem dX7_ofHouse_111 : decode cX7_ofHouse 111 = .ok (.iload_n 1, 1) := by decide +kernel
theorem dX7_ofHouse_112 : decode cX7_ofHouse 112 = .ok (.invokevirtual 109, 3) := by decide +kernel
theorem dX7_ofHouse_115 : decode cX7_ofHouse 115 = .ok (.ireturn, 1) := by decide +kernel
theorem dX7_ofHouse_116 : decode cX7_ofHouse 116 = .ok (.aload_n 0, 1) := by decide +kernel
theorem dX7_ofHouse_117 : decode cX7_ofHouse 117 = .ok (.getfield 10, 3) := by decide +kernel
theorem dX7_ofHouse_120 : decode cX7_ofHouse 120 = .ok (.iload_n 1, 1) := by decide +kernel
theorem dX7_ofHouse_121 : decode cX7_ofHouse 121 = .ok (.invokevirtual 112, 3) := by decide +kernel
theorem dX7_ofHouse_124 : decode cX7_ofHouse 124 = .ok (.ireturn, 1) := by decide +kernel
theorem dX7_ofHouse_125 : decode cX7_ofHouse 125 = .ok (.aload_n 0, 1) := by decide +kernel
theorem dX7_ofHouse_126 : decode cX7_ofHouse 126 = .ok (.getfield 10, 3) := by decide +kernel
theorem dX7_ofHouse_129 : decode cX7_ofHouse 129 = .ok (.iload_n 1, 1) := by decide +kernel
theorem dX7_ofHouse_130 : decode cX7_ofHouse 130 = .ok (.invokevirtual 115, 3) := by decide +kernel
theorem dX7_ofHouse_133 : decode cX7_ofHouse 133 = .ok (.ifCond .eq 7, 3) := by decide +kernel
theorem dX7_ofHouse_136 : decode cX7_ofHouse 136 = .ok (.iconst 1, 1) := by decide +kernel
theorem dX7_ofHouse_137 : decode cX7_ofHouse 137 = .ok (.goto 4, 3) := by decide +kernel
theorem dX7_ofHouse_140 : decode cX7_ofHouse 140 = .ok (.iconst 0, 1) := by decide +kernel
theorem dX7_ofHouse_141 : decode cX7_ofHouse 141 = .ok (.ireturn, 1) := by decide +kernel
theorem dX7_ofHouse_142 : decode cX7_ofHouse 142 = .ok (.aload_n 0, 1) := by decide +kernel
theorem dX7_ofHouse_143 : decode cX7_ofHouse 143 = .ok (.iconst 1, 1) := by decide +kernel
theorem dX7_ofHouse_144 : decode cX7_ofHouse 144 = .ok (.invokevirtual 58, 3) := by decide +kernel
theorem dX7_ofHouse_147 : decode cX7_ofHouse 147 = .ok (.ireturn, 1) := by decide +kernel
theorem dX7_change_0 : decode cX7_change 0 = .ok (.aload_n 0, 1) := by decide +kernel
theorem dX7_change_1 : decode cX7_change 1 = .ok (.iload_n 1, 1) := by decide +kernel
theorem dX7_change_2 : decode cX7_change 2 = .ok (.invokevirtual 97, 3) := by decide +kernel
theorem dX7_change_5 : decode cX7_change 5 = .ok (.ifCond .ne 9, 3) := by decide +kernel
theorem dX7_change_8 : decode cX7_change 8 = .ok (.aload_n 0, 1) := by decide +kernel
theorem dX7_change_9 : decode cX7_change 9 = .ok (.iconst 1, 1) := by decide +kernel
theorem dX7_change_10 : decode cX7_change 10 = .ok (.invokevirtual 58, 3) := by decide +kernel
theorem dX7_change_13 : decode cX7_change 13 = .ok (.ireturn, 1) := by decide +kernel
theorem dX7_change_14 : decode cX7_change 14 = .ok (.iload_n 2, 1) := by decide +kernel
theorem dX7_change_15 : decode cX7_change 15 = .ok (.ifCond .ne 34, 3) := by decide +kernel
theorem dX7_change_18 : decode cX7_change 18 = .ok (.iload_n 3, 1) := by decide +kernel
theorem dX7_change_19 : decode cX7_change 19 = .ok (.invokestatic 50, 3) := by decide +kernel
theorem dX7_change_22 : decode cX7_change 22 = .ok (.ifCond .eq 27, 3) := by decide +kernel
theorem dX7_change_25 : decode cX7_change 25 = .ok (.aload_n 0, 1) := by decide +kernel
theorem dX7_change_26 : decode cX7_change 26 = .ok (.getfield 10, 3) := by decide +kernel
theorem dX7_change_29 : decode cX7_change 29 = .ok (.getfield 91, 3) := by decide +kernel
theorem dX7_change_32 : decode cX7_change 32 = .ok (.iload_n 1, 1) := by decide +kernel
theorem dX7_change_33 : decode cX7_change 33 = .ok (.iaload, 1) := by decide +kernel
theorem dX7_change_34 : decode cX7_change 34 = .ok (.istore 4, 2) := by decide +kernel
theorem dX7_change_36 : decode cX7_change 36 = .ok (.aload_n 0, 1) := by decide +kernel
theorem dX7_change_37 : decode cX7_change 37 = .ok (.getfield 10, 3) := by decide +kernel
theorem dX7_change_40 : decode cX7_change 40 = .ok (.getfield 91, 3) := by decide +kernel
theorem dX7_change_43 : decode cX7_change 43 = .ok (.iload_n 1, 1) := by decide +kernel
theorem dX7_change_44 : decode cX7_change 44 = .ok (.iload_n 3, 1) := by decide +kernel
theorem dX7_change_45 : decode cX7_change 45 = .ok (.iastore, 1) := by decide +kernel
theorem dX7_change_46 : decode cX7_change 46 = .ok (.goto 50, 3) := by decide +kernel
theorem dX7_change_49 : decode cX7_change 49 = .ok (.iload_n 2, 1) := by decide +kernel
theorem dX7_change_50 : decode cX7_change 50 = .ok (.iconst 1, 1) := by decide +kernel
theorem dX7_change_51 : decode cX7_change 51 = .ok (.if_icmp .ne 38, 3) := by decide +kernel
theorem dX7_change_54 : decode cX7_change 54 = .ok (.iload_n 3, 1) := by decide +kernel
theorem dX7_change_55 : decode cX7_change 55 = .ok (.iconst 0, 1) := by decide +kernel
theorem dX7_change_56 : decode cX7_change 56 = .ok (.sipush 9999, 3) := by decide +kernel
theorem dX7_change_59 : decode cX7_change 59 = .ok (.invokestatic 54, 3) := by decide +kernel
theorem dX7_change_62 : decode cX7_change 62 = .ok (.ifCond .eq 27, 3) := by decide +kernel
theorem dX7_change_65 : decode cX7_change 65 = .ok (.aload_n 0, 1) := by decide +kernel
theorem dX7_change_66 : decode cX7_change 66 = .ok (.getfield 10, 3) := by decide +kernel
theorem dX7_change_69 : decode cX7_change 69 = .ok (.getfield 94, 3) := by decide +kernel
theorem dX7_change_72 : decode cX7_change 72 = .ok (.iload_n 1, 1) := by decide +kernel
theorem dX7_change_73 : decode cX7_change 73 = .ok (.iaload, 1) := by decide +kernel
theorem dX7_change_74 : decode cX7_change 74 = .ok (.istore 4, 2) := by decide +kernel
theorem dX7_change_76 : decode cX7_change 76 = .ok (.aload_n 0, 1) := by decide +kernel
theorem dX7_change_77 : decode cX7_change 77 = .ok (.getfield 10, 3) := by decide +kernel
theorem dX7_change_80 : decode cX7_change 80 = .ok (.getfield 94, 3) := by decide +kernel
theorem dX7_change_83 : decode cX7_change 83 = .ok (.iload_n 1, 1) := by decide +kernel
theorem dX7_change_84 : decode cX7_change 84 = .ok (.iload_n 3, 1) := by decide +kernel
theorem dX7_change_85 : decode cX7_change 85 = .ok (.iastore, 1) := by decide +kernel
theorem dX7_change_86 : decode cX7_change 86 = .ok (.goto 10, 3) := by decide +kernel
theorem dX7_change_89 : decode cX7_change 89 = .ok (.aload_n 0, 1) := by decide +kernel
theorem dX7_change_90 : decode cX7_change 90 = .ok (.iconst 1, 1) := by decide +kernel
theorem dX7_change_91 : decode cX7_change 91 = .ok (.invokevirtual 58, 3) := by decide +kernel
theorem dX7_change_94 : decode cX7_change 94 = .ok (.istore 4, 2) := by decide +kernel
theorem dX7_change_96 : decode cX7_change 96 = .ok (.iload 4, 2) := by decide +kernel
theorem dX7_change_98 : decode cX7_change 98 = .ok (.ireturn, 1) := by decide +kernel
theorem dX7_become_0 : decode cX7_become 0 = .ok (.aload_n 0, 1) := by decide +kernel
theorem dX7_become_1 : decode cX7_become 1 = .ok (.iload_n 1, 1) := by decide +kernel
theorem dX7_become_2 : decode cX7_become 2 = .ok (.invokevirtual 97, 3) := by decide +kernel
theorem dX7_become_5 : decode cX7_become 5 = .ok (.ifCond .eq 13, 3) := by decide +kernel
theorem dX7_become_8 : decode cX7_become 8 = .ok (.iload_n 2, 1) := by decide +kernel
theorem dX7_become_9 : decode cX7_become 9 = .ok (.iconst 0, 1) := by decide +kernel
theorem dX7_become_10 : decode cX7_become 10 = .ok (.bipush 69, 2) := by decide +kernel
theorem dX7_become_12 : decode cX7_become 12 = .ok (.invokestatic 54, 3) := by decide +kernel
theorem dX7_become_15 : decode cX7_become 15 = .ok (.ifCond .ne 9, 3) := by decide +kernel
theorem dX7_become_18 : decode cX7_become 18 = .ok (.aload_n 0, 1) := by decide +kernel
theorem dX7_become_19 : decode cX7_become 19 = .ok (.iconst 1, 1) := by decide +kernel
theorem dX7_become_20 : decode cX7_become 20 = .ok (.invokevirtual 58, 3) := by decide +kernel
theorem dX7_become_23 : decode cX7_become 23 = .ok (.ireturn, 1) := by decide +kernel
theorem dX7_become_24 : decode cX7_become 24 = .ok (.aload_n 0, 1) := by decide +kernel
theorem dX7_become_25 : decode cX7_become 25 = .ok (.getfield 10, 3) := by decide +kernel
theorem dX7_become_28 : decode cX7_become 28 = .ok (.iload_n 1, 1) := by decide +kernel
theorem dX7_become_29 : decode cX7_become 29 = .ok (.invokevirtual 100, 3) := by decide +kernel
theorem dX7_become_32 : decode cX7_become 32 = .ok (.istore_n 3, 1) := by decide +kernel
theorem dX7_become_33 : decode cX7_become 33 = .ok (.aload_n 0, 1) := by decide +kernel
theorem dX7_become_34 : decode cX7_become 34 = .ok (.getfield 10, 3) := by decide +kernel
theorem dX7_become_37 : decode cX7_become 37 = .ok (.getfield 88, 3) := by decide +kernel
theorem dX7_become_40 : decode cX7_become 40 = .ok (.iload_n 1, 1) := by decide +kernel
theorem dX7_become_41 : decode cX7_become 41 = .ok (.iload_n 2, 1) := by decide +kernel
theorem dX7_become_42 : decode cX7_become 42 = .ok (.iastore, 1) := by decide +kernel
theorem dX7_become_43 : decode cX7_become 43 = .ok (.iload_n 3, 1) := by decide +kernel
theorem dX7_become_44 : decode cX7_become 44 = .ok (.ireturn, 1) := by decide +kernel
theorem dX7_as_0 : decode cX7_as 0 = .ok (.aload_n 0, 1) := by decide +kernel
theorem dX7_as_1 : decode cX7_as 1 = .ok (.iload_n 1, 1) := by decide +kernel
theorem dX7_as_2 : decode cX7_as 2 = .ok (.invokevirtual 97, 3) := by decide +kernel
theorem dX7_as_5 : decode cX7_as 5 = .ok (.ifCond .eq 10, 3) := by decide +kernel
theorem dX7_as_8 : decode cX7_as 8 = .ok (.iload_n 2, 1) := by decide +kernel
theorem dX7_as_9 : decode cX7_as 9 = .ok (.invokestatic 118, 3) := by decide +kernel
theorem dX7_as_12 : decode cX7_as 12 = .ok (.ifCond .ne 9, 3) := by decide +kernel
theorem dX7_as_15 : decode cX7_as 15 = .ok (.aload_n 0, 1) := by decide +kernel
theorem dX7_as_16 : decode cX7_as 16 = .ok (.iconst 1, 1) := by decide +kernel
theorem dX7_as_17 : decode cX7_as 17 = .ok (.invokevirtual 58, 3) := by decide +kernel
theorem dX7_as_20 : decode cX7_as 20 = .ok (.ireturn, 1) := by decide +kernel
theorem dX7_as_21 : decode cX7_as 21 = .ok (.aload_n 0, 1) := by decide +kernel
theorem dX7_as_22 : decode cX7_as 22 = .ok (.getfield 10, 3) := by decide +kernel
theorem dX7_as_25 : decode cX7_as 25 = .ok (.iload_n 1, 1) := by decide +kernel
theorem dX7_as_26 : decode cX7_as 26 = .ok (.invokevirtual 100, 3) := by decide +kernel
theorem dX7_as_29 : decode cX7_as 29 = .ok (.iload_n 2, 1) := by decide +kernel
theorem dX7_as_30 : decode cX7_as 30 = .ok (.invokestatic 123, 3) := by decide +kernel
theorem dX7_as_33 : decode cX7_as 33 = .ok (.ifCond .ne 9, 3) := by decide +kernel
theorem dX7_as_36 : decode cX7_as 36 = .ok (.aload_n 0, 1) := by decide +kernel
theorem dX7_as_37 : decode cX7_as 37 = .ok (.iconst 5, 1) := by decide +kernel
theorem dX7_as_38 : decode cX7_as 38 = .ok (.invokevirtual 58, 3) := by decide +kernel
theorem dX7_as_41 : decode cX7_as 41 = .ok (.ireturn, 1) := by decide +kernel
theorem dX7_as_42 : decode cX7_as 42 = .ok (.aload_n 0, 1) := by decide +kernel
theorem dX7_as_43 : decode cX7_as 43 = .ok (.getfield 10, 3) := by decide +kernel
theorem dX7_as_46 : decode cX7_as 46 = .ok (.iload_n 1, 1) := by decide +kernel
theorem dX7_as_47 : decode cX7_as 47 = .ok (.invokevirtual 103, 3) := by decide +kernel
theorem dX7_as_50 : decode cX7_as 50 = .ok (.ireturn, 1) := by decide +kernel
theorem dX7_feed_0 : decode cX7_feed 0 = .ok (.iload_n 3, 1) := by decide +kernel
theorem dX7_feed_1 : decode cX7_feed 1 = .ok (.iconst 1, 1) := by decide +kernel
theorem dX7_feed_2 : decode cX7_feed 2 = .ok (.bipush 8, 2) := by decide +kernel
theorem dX7_feed_4 : decode cX7_feed 4 = .ok (.invokestatic 54, 3) := by decide +kernel
theorem dX7_feed_7 : decode cX7_feed 7 = .ok (.ifCond .ne 9, 3) := by decide +kernel
theorem dX7_feed_10 : decode cX7_feed 10 = .ok (.aload_n 0, 1) := by decide +kernel
theorem dX7_feed_11 : decode cX7_feed 11 = .ok (.iconst 1, 1) := by decide +kernel
theorem dX7_feed_12 : decode cX7_feed 12 = .ok (.invokevirtual 58, 3) := by decide +kernel
theorem dX7_feed_15 : decode cX7_feed 15 = .ok (.ireturn, 1) := by decide +kernel
theorem dX7_feed_16 : decode cX7_feed 16 = .ok (.aload_n 0, 1) := by decide +kernel
theorem dX7_feed_17 : decode cX7_feed 17 = .ok (.getfield 10, 3) := by decide +kernel
theorem dX7_feed_20 : decode cX7_feed 20 = .ok (.getfield 127, 3) := by decide +kernel
theorem dX7_feed_23 : decode cX7_feed 23 = .ok (.invokevirtual 131, 3) := by decide +kernel
theorem dX7_feed_26 : decode cX7_feed 26 = .ok (.iload_n 3, 1) := by decide +kernel
theorem dX7_feed_27 : decode cX7_feed 27 = .ok (.if_icmp .ge 9, 3) := by decide +kernel
theorem dX7_feed_30 : decode cX7_feed 30 = .ok (.aload_n 0, 1) := by decide +kernel
theorem dX7_feed_31 : decode cX7_feed 31 = .ok (.iconst 4, 1) := by decide +kernel
theorem dX7_feed_32 : decode cX7_feed 32 = .ok (.invokevirtual 58, 3) := by decide +kernel
theorem dX7_feed_35 : decode cX7_feed 35 = .ok (.ireturn, 1) := by decide +kernel
theorem dX7_feed_36 : decode cX7_feed 36 = .ok (.iconst 0, 1) := by decide +kernel
theorem dX7_feed_37 : decode cX7_feed 37 = .ok (.istore 4, 2) := by decide +kernel
theorem dX7_feed_39 : decode cX7_feed 39 = .ok (.iload 4, 2) := by decide +kernel
theorem dX7_feed_41 : decode cX7_feed 41 = .ok (.iload_n 3, 1) := by decide +kernel
theorem dX7_feed_42 : decode cX7_feed 42 = .ok (.if_icmp .ge 32, 3) := by decide +kernel
theorem dX7_feed_45 : decode cX7_feed 45 = .ok (.aload_n 0, 1) := by decide +kernel
theorem dX7_feed_46 : decode cX7_feed 46 = .ok (.getfield 10, 3) := by decide +kernel
theorem dX7_feed_49 : decode cX7_feed 49 = .ok (.getfield 127, 3) := by decide +kernel
theorem dX7_feed_52 : decode cX7_feed 52 = .ok (.lload_n 1, 1) := by decide +kernel
theorem dX7_feed_53 : decode cX7_feed 53 = .ok (.bipush 8, 2) := by decide +kernel
theorem dX7_feed_55 : decode cX7_feed 55 = .ok (.iload 4, 2) := by decide +kernel
theorem dX7_feed_57 : decode cX7_feed 57 = .ok (.imul, 1) := by decide +kernel
theorem dX7_feed_58 : decode cX7_feed 58 = .ok (.lushr, 1) := by decide +kernel
theorem dX7_feed_59 : decode cX7_feed 59 = .ok (.l2i, 1) := by decide +kernel
theorem dX7_feed_60 : decode cX7_feed 60 = .ok (.sipush 255, 3) := by decide +kernel
theorem dX7_feed_63 : decode cX7_feed 63 = .ok (.iand, 1) := by decide +kernel
theorem dX7_feed_64 : decode cX7_feed 64 = .ok (.invokevirtual 137, 3) := by decide +kernel
theorem dX7_feed_67 : decode cX7_feed 67 = .ok (.pop, 1) := by decide +kernel
theorem dX7_feed_68 : decode cX7_feed 68 = .ok (.iinc 4 1, 3) := by decide +kernel
theorem dX7_feed_71 : decode cX7_feed 71 = .ok (.goto (-32), 3) := by decide +kernel
theorem dX7_feed_74 : decode cX7_feed 74 = .ok (.aload_n 0, 1) := by decide +kernel
theorem dX7_feed_75 : decode cX7_feed 75 = .ok (.getfield 10, 3) := by decide +kernel
theorem dX7_feed_78 : decode cX7_feed 78 = .ok (.getfield 127, 3) := by decide +kernel
theorem dX7_feed_81 : decode cX7_feed 81 = .ok (.getfield 140, 3) := by decide +kernel
theorem dX7_feed_84 : decode cX7_feed 84 = .ok (.ireturn, 1) := by decide +kernel
theorem dX7_text_0 : decode cX7_text 0 = .ok (.iload_n 1, 1) := by decide +kernel
theorem dX7_text_1 : decode cX7_text 1 = .ok (.invokestatic 143, 3) := by decide +kernel
theorem dX7_text_4 : decode cX7_text 4 = .ok (.ifCond .ne 9, 3) := by decide +kernel
theorem dX7_text_7 : decode cX7_text 7 = .ok (.aload_n 0, 1) := by decide +kernel
theorem dX7_text_8 : decode cX7_text 8 = .ok (.iconst 1, 1) := by decide +kernel
theorem dX7_text_9 : decode cX7_text 9 = .ok (.invokevirtual 58, 3) := by decide +kernel
theorem dX7_text_12 : decode cX7_text 12 = .ok (.ireturn, 1) := by decide +kernel
theorem dX7_text_13 : decode cX7_text 13 = .ok (.iload_n 1, 1) := by decide +kernel
theorem dX7_text_14 : decode cX7_text 14 = .ok (.ifCond .ne 13, 3) := by decide +kernel
theorem dX7_text_17 : decode cX7_text 17 = .ok (.aload_n 0, 1) := by decide +kernel
theorem dX7_text_18 : decode cX7_text 18 = .ok (.getfield 10, 3) := by decide +kernel
theorem dX7_text_21 : decode cX7_text 21 = .ok (.getfield 146, 3) := by decide +kernel
theorem dX7_text_24 : decode cX7_text 24 = .ok (.goto 10, 3) := by decide +kernel
theorem dX7_text_27 : decode cX7_text 27 = .ok (.aload_n 0, 1) := by decide +kernel
theorem dX7_text_28 : decode cX7_text 28 = .ok (.getfield 10, 3) := by decide +kernel
theorem dX7_text_31 : decode cX7_text 31 = .ok (.getfield 150, 3) := by decide +kernel
theorem dX7_text_34 : decode cX7_text 34 = .ok (.astore_n 2, 1) := by decide +kernel
theorem dX7_text_35 : decode cX7_text 35 = .ok (.aload_n 0, 1) := by decide +kernel
theorem dX7_text_36 : decode cX7_text 36 = .ok (.getfield 25, 3) := by decide +kernel
theorem dX7_text_39 : decode cX7_text 39 = .ok (.aload_n 0, 1) := by decide +kernel
theorem dX7_text_40 : decode cX7_text 40 = .ok (.getfield 10, 3) := by decide +kernel
theorem dX7_text_43 : decode cX7_text 43 = .ok (.getfield 127, 3) := by decide +kernel
theorem dX7_text_46 : decode cX7_text 46 = .ok (.iload_n 1, 1) := by decide +kernel
theorem dX7_text_47 : decode cX7_text 47 = .ok (.ifCond .ne 8, 3) := by decide +kernel
theorem dX7_text_50 : decode cX7_text 50 = .ok (.ldc 153, 2) := by decide +kernel
theorem dX7_text_52 : decode cX7_text 52 = .ok (.goto 5, 3) := by decide +kernel
theorem dX7_text_55 : decode cX7_text 55 = .ok (.ldc 155, 2) := by decide +kernel
theorem dX7_text_57 : decode cX7_text 57 = .ok (.invokevirtual 157, 3) := by decide +kernel
theorem dX7_text_60 : decode cX7_text 60 = .ok (.istore_n 3, 1) := by decide +kernel
theorem dX7_text_61 : decode cX7_text 61 = .ok (.aload_n 0, 1) := by decide +kernel
theorem dX7_text_62 : decode cX7_text 62 = .ok (.getfield 10, 3) := by decide +kernel
theorem dX7_text_65 : decode cX7_text 65 = .ok (.getfield 127, 3) := by decide +kernel
theorem dX7_text_68 : decode cX7_text 68 = .ok (.iconst 0, 1) := by decide +kernel
theorem dX7_text_69 : decode cX7_text 69 = .ok (.putfield 140, 3) := by decide +kernel
theorem dX7_text_72 : decode cX7_text 72 = .ok (.iload_n 3, 1) := by decide +kernel
theorem dX7_text_73 : decode cX7_text 73 = .ok (.ifCond .ne 14, 3) := by decide +kernel
theorem dX7_text_76 : decode cX7_text 76 = .ok (.bipush (-10), 2) := by decide +kernel
theorem dX7_text_78 : decode cX7_text 78 = .ok (.aload_n 0, 1) := by decide +kernel
theorem dX7_text_79 : decode cX7_text 79 = .ok (.getfield 25, 3) := by decide +kernel
theorem dX7_text_82 : decode cX7_text 82 = .ok (.getfield 161, 3) := by decide +kernel
theorem dX7_text_85 : decode cX7_text 85 = .ok (.isub, 1) := by decide +kernel
theorem dX7_text_86 : decode cX7_text 86 = .ok (.ireturn, 1) := by decide +kernel
theorem dX7_text_87 : decode cX7_text 87 = .ok (.aload_n 2, 1) := by decide +kernel
theorem dX7_text_88 : decode cX7_text 88 = .ok (.getfield 164, 3) := by decide +kernel
theorem dX7_text_91 : decode cX7_text 91 = .ok (.aload_n 0, 1) := by decide +kernel
theorem dX7_text_92 : decode cX7_text 92 = .ok (.getfield 25, 3) := by decide +kernel
theorem dX7_text_95 : decode cX7_text 95 = .ok (.getfield 169, 3) := by decide +kernel
theorem dX7_text_98 : decode cX7_text 98 = .ok (.invokevirtual 170, 3) := by decide +kernel
theorem dX7_text_101 : decode cX7_text 101 = .ok (.iconst 1, 1) := by decide +kernel
theorem dX7_text_102 : decode cX7_text 102 = .ok (.ireturn, 1) := by decide +kernel
theorem dX7_law_0 : decode cX7_law 0 = .ok (.iload_n 1, 1) := by decide +kernel
theorem dX7_law_1 : decode cX7_law 1 = .ok (.invokestatic 143, 3) := by decide +kernel
theorem dX7_law_4 : decode cX7_law 4 = .ok (.ifCond .ne 9, 3) := by decide +kernel
theorem dX7_law_7 : decode cX7_law 7 = .ok (.aload_n 0, 1) := by decide +kernel
theorem dX7_law_8 : decode cX7_law 8 = .ok (.iconst 1, 1) := by decide +kernel
theorem dX7_law_9 : decode cX7_law 9 = .ok (.invokevirtual 58, 3) := by decide +kernel
theorem dX7_law_12 : decode cX7_law 12 = .ok (.ireturn, 1) := by decide +kernel
theorem dX7_law_13 : decode cX7_law 13 = .ok (.iload_n 1, 1) := by decide +kernel
theorem dX7_law_14 : decode cX7_law 14 = .ok (.ifCond .ne 13, 3) := by decide +kernel
theorem dX7_law_17 : decode cX7_law 17 = .ok (.aload_n 0, 1) := by decide +kernel
theorem dX7_law_18 : decode cX7_law 18 = .ok (.getfield 10, 3) := by decide +kernel
theorem dX7_law_21 : decode cX7_law 21 = .ok (.getfield 146, 3) := by decide +kernel
theorem dX7_law_24 : decode cX7_law 24 = .ok (.goto 10, 3) := by decide +kernel
theorem dX7_law_27 : decode cX7_law 27 = .ok (.aload_n 0, 1) := by decide +kernel
theorem dX7_law_28 : decode cX7_law 28 = .ok (.getfield 10, 3) := by decide +kernel
theorem dX7_law_31 : decode cX7_law 31 = .ok (.getfield 150, 3) := by decide +kernel
theorem dX7_law_34 : decode cX7_law 34 = .ok (.iload_n 2, 1) := by decide +kernel
theorem dX7_law_35 : decode cX7_law 35 = .ok (.iload_n 3, 1) := by decide +kernel
theorem dX7_law_36 : decode cX7_law 36 = .ok (.iload 4, 2) := by decide +kernel
theorem dX7_law_38 : decode cX7_law 38 = .ok (.invokevirtual 174, 3) := by decide +kernel
theorem dX7_law_41 : decode cX7_law 41 = .ok (.ireturn, 1) := by decide +kernel
theorem dX7_hours_0 : decode cX7_hours 0 = .ok (.iload_n 1, 1) := by decide +kernel
theorem dX7_hours_1 : decode cX7_hours 1 = .ok (.iconst 1, 1) := by decide +kernel
theorem dX7_hours_2 : decode cX7_hours 2 = .ok (.bipush 60, 2) := by decide +kernel
theorem dX7_hours_4 : decode cX7_hours 4 = .ok (.invokestatic 54, 3) := by decide +kernel
theorem dX7_hours_7 : decode cX7_hours 7 = .ok (.ifCond .ne 9, 3) := by decide +kernel
theorem dX7_hours_10 : decode cX7_hours 10 = .ok (.aload_n 0, 1) := by decide +kernel
theorem dX7_hours_11 : decode cX7_hours 11 = .ok (.iconst 1, 1) := by decide +kernel
theorem dX7_hours_12 : decode cX7_hours 12 = .ok (.invokevirtual 58, 3) := by decide +kernel
theorem dX7_hours_15 : decode cX7_hours 15 = .ok (.ireturn, 1) := by decide +kernel
theorem dX7_hours_16 : decode cX7_hours 16 = .ok (.aload_n 0, 1) := by decide +kernel
theorem dX7_hours_17 : decode cX7_hours 17 = .ok (.getfield 10, 3) := by decide +kernel
theorem dX7_hours_20 : decode cX7_hours 20 = .ok (.getfield 178, 3) := by decide +kernel
theorem dX7_hours_23 : decode cX7_hours 23 = .ok (.iload_n 1, 1) := by decide +kernel
theorem dX7_hours_24 : decode cX7_hours 24 = .ok (.iadd, 1) := by decide +kernel
theorem dX7_hours_25 : decode cX7_hours 25 = .ok (.sipush 9999, 3) := by decide +kernel
theorem dX7_hours_28 : decode cX7_hours 28 = .ok (.if_icmp .le 9, 3) := by decide +kernel
theorem dX7_hours_31 : decode cX7_hours 31 = .ok (.aload_n 0, 1) := by decide +kernel
theorem dX7_hours_32 : decode cX7_hours 32 = .ok (.iconst 3, 1) := by decide +kernel
theorem dX7_hours_33 : decode cX7_hours 33 = .ok (.invokevirtual 58, 3) := by decide +kernel
theorem dX7_hours_36 : decode cX7_hours 36 = .ok (.ireturn, 1) := by decide +kernel
theorem dX7_hours_37 : decode cX7_hours 37 = .ok (.aload_n 0, 1) := by decide +kernel
theorem dX7_hours_38 : decode cX7_hours 38 = .ok (.getfield 10, 3) := by decide +kernel
theorem dX7_hours_41 : decode cX7_hours 41 = .ok (.iload_n 1, 1) := by decide +kernel
theorem dX7_hours_42 : decode cX7_hours 42 = .ok (.invokevirtual 181, 3) := by decide +kernel
theorem dX7_hours_45 : decode cX7_hours 45 = .ok (.aload_n 0, 1) := by decide +kernel
theorem dX7_hours_46 : decode cX7_hours 46 = .ok (.getfield 10, 3) := by decide +kernel
theorem dX7_hours_49 : decode cX7_hours 49 = .ok (.invokevirtual 185, 3) := by decide +kernel
theorem dX7_hours_52 : decode cX7_hours 52 = .ok (.ireturn, 1) := by decide +kernel
theorem dX7_loose_0 : decode cX7_loose 0 = .ok (.iload_n 1, 1) := by decide +kernel
theorem dX7_loose_1 : decode cX7_loose 1 = .ok (.iconst 1, 1) := by decide +kernel
theorem dX7_loose_2 : decode cX7_loose 2 = .ok (.bipush 40, 2) := by decide +kernel
theorem dX7_loose_4 : decode cX7_loose 4 = .ok (.invokestatic 54, 3) := by decide +kernel
theorem dX7_loose_7 : decode cX7_loose 7 = .ok (.ifCond .ne 9, 3) := by decide +kernel
theorem dX7_loose_10 : decode cX7_loose 10 = .ok (.aload_n 0, 1) := by decide +kernel
theorem dX7_loose_11 : decode cX7_loose 11 = .ok (.iconst 1, 1) := by decide +kernel
theorem dX7_loose_12 : decode cX7_loose 12 = .ok (.invokevirtual 58, 3) := by decide +kernel
theorem dX7_loose_15 : decode cX7_loose 15 = .ok (.ireturn, 1) := by decide +kernel
theorem dX7_loose_16 : decode cX7_loose 16 = .ok (.aload_n 0, 1) := by decide +kernel
theorem dX7_loose_17 : decode cX7_loose 17 = .ok (.getfield 10, 3) := by decide +kernel
theorem dX7_loose_20 : decode cX7_loose 20 = .ok (.getfield 178, 3) := by decide +kernel
theorem dX7_loose_23 : decode cX7_loose 23 = .ok (.iload_n 1, 1) := by decide +kernel
theorem dX7_loose_24 : decode cX7_loose 24 = .ok (.iadd, 1) := by decide +kernel
theorem dX7_loose_25 : decode cX7_loose 25 = .ok (.sipush 9999, 3) := by decide +kernel
theorem dX7_loose_28 : decode cX7_loose 28 = .ok (.if_icmp .le 9, 3) := by decide +kernel
theorem dX7_loose_31 : decode cX7_loose 31 = .ok (.aload_n 0, 1) := by decide +kernel
theorem dX7_loose_32 : decode cX7_loose 32 = .ok (.iconst 3, 1) := by decide +kernel
theorem dX7_loose_33 : decode cX7_loose 33 = .ok (.invokevirtual 58, 3) := by decide +kernel
theorem dX7_loose_36 : decode cX7_loose 36 = .ok (.ireturn, 1) := by decide +kernel
theorem dX7_loose_37 : decode cX7_loose 37 = .ok (.iconst 0, 1) := by decide +kernel
theorem dX7_loose_38 : decode cX7_loose 38 = .ok (.istore_n 2, 1) := by decide +kernel
theorem dX7_loose_39 : decode cX7_loose 39 = .ok (.iload_n 2, 1) := by decide +kernel
theorem dX7_loose_40 : decode cX7_loose 40 = .ok (.iload_n 1, 1) := by decide +kernel
theorem dX7_loose_41 : decode cX7_loose 41 = .ok (.if_icmp .ge 24, 3) := by decide +kernel
theorem dX7_loose_44 : decode cX7_loose 44 = .ok (.aload_n 0, 1) := by decide +kernel
theorem dX7_loose_45 : decode cX7_loose 45 = .ok (.getfield 10, 3) := by decide +kernel
theorem dX7_loose_48 : decode cX7_loose 48 = .ok (.invokevirtual 188, 3) := by decide +kernel
theorem dX7_loose_51 : decode cX7_loose 51 = .ok (.aload_n 0, 1) := by decide +kernel
theorem dX7_loose_52 : decode cX7_loose 52 = .ok (.getfield 10, 3) := by decide +kernel
theorem dX7_loose_55 : decode cX7_loose 55 = .ok (.iconst 1, 1) := by decide +kernel
theorem dX7_loose_56 : decode cX7_loose 56 = .ok (.invokevirtual 181, 3) := by decide +kernel
theorem dX7_loose_59 : decode cX7_loose 59 = .ok (.iinc 2 1, 3) := by decide +kernel
theorem dX7_loose_62 : decode cX7_loose 62 = .ok (.goto (-23), 3) := by decide +kernel
theorem dX7_loose_65 : decode cX7_loose 65 = .ok (.aload_n 0, 1) := by decide +kernel
theorem dX7_loose_66 : decode cX7_loose 66 = .ok (.getfield 10, 3) := by decide +kernel
theorem dX7_loose_69 : decode cX7_loose 69 = .ok (.invokevirtual 185, 3) := by decide +kernel
theorem dX7_loose_72 : decode cX7_loose 72 = .ok (.ireturn, 1) := by decide +kernel
theorem dX7_then_0 : decode cX7_then 0 = .ok (.iload_n 1, 1) := by decide +kernel
theorem dX7_then_1 : decode cX7_then 1 = .ok (.iconst 0, 1) := by decide +kernel
theorem dX7_then_2 : decode cX7_then 2 = .ok (.bipush 60, 2) := by decide +kernel
theorem dX7_then_4 : decode cX7_then 4 = .ok (.invokestatic 54, 3) := by decide +kernel
theorem dX7_then_7 : decode cX7_then 7 = .ok (.ifCond .eq 10, 3) := by decide +kernel
theorem dX7_then_10 : decode cX7_then 10 = .ok (.iload_n 2, 1) := by decide +kernel
theorem dX7_then_11 : decode cX7_then 11 = .ok (.invokestatic 50, 3) := by decide +kernel
theorem dX7_then_14 : decode cX7_then 14 = .ok (.ifCond .ne 9, 3) := by decide +kernel
theorem dX7_then_17 : decode cX7_then 17 = .ok (.aload_n 0, 1) := by decide +kernel
theorem dX7_then_18 : decode cX7_then 18 = .ok (.iconst 1, 1) := by decide +kernel
theorem dX7_then_19 : decode cX7_then 19 = .ok (.invokevirtual 58, 3) := by decide +kernel
theorem dX7_then_22 : decode cX7_then 22 = .ok (.ireturn, 1) := by decide +kernel
theorem dX7_then_23 : decode cX7_then 23 = .ok (.aload_n 0, 1) := by decide +kernel
theorem dX7_then_24 : decode cX7_then 24 = .ok (.iconst 0, 1) := by decide +kernel
theorem dX7_then_25 : decode cX7_then 25 = .ok (.iload_n 1, 1) := by decide +kernel
theorem dX7_then_26 : decode cX7_then 26 = .ok (.invokevirtual 191, 3) := by decide +kernel
theorem dX7_then_29 : decode cX7_then 29 = .ok (.getfield 62, 3) := by decide +kernel
theorem dX7_then_32 : decode cX7_then 32 = .ok (.iload_n 2, 1) := by decide +kernel
theorem dX7_then_33 : decode cX7_then 33 = .ok (.iaload, 1) := by decide +kernel
theorem dX7_then_34 : decode cX7_then 34 = .ok (.ireturn, 1) := by decide +kernel
theorem dX7_hot_0 : decode cX7_hot 0 = .ok (.iload_n 1, 1) := by decide +kernel
theorem dX7_hot_1 : decode cX7_hot 1 = .ok (.iconst 1, 1) := by decide +kernel
theorem dX7_hot_2 : decode cX7_hot 2 = .ok (.sipush 999, 3) := by decide +kernel
theorem dX7_hot_5 : decode cX7_hot 5 = .ok (.invokestatic 54, 3) := by decide +kernel
theorem dX7_hot_8 : decode cX7_hot 8 = .ok (.ifCond .eq 12, 3) := by decide +kernel
theorem dX7_hot_11 : decode cX7_hot 11 = .ok (.iload_n 2, 1) := by decide +kernel
theorem dX7_hot_12 : decode cX7_hot 12 = .ok (.iconst 0, 1) := by decide +kernel
theorem dX7_hot_13 : decode cX7_hot 13 = .ok (.iconst 1, 1) := by decide +kernel
theorem dX7_hot_14 : decode cX7_hot 14 = .ok (.invokestatic 54, 3) := by decide +kernel
theorem dX7_hot_17 : decode cX7_hot 17 = .ok (.ifCond .ne 9, 3) := by decide +kernel
theorem dX7_hot_20 : decode cX7_hot 20 = .ok (.aload_n 0, 1) := by decide +kernel
theorem dX7_hot_21 : decode cX7_hot 21 = .ok (.iconst 1, 1) := by decide +kernel
theorem dX7_hot_22 : decode cX7_hot 22 = .ok (.invokevirtual 58, 3) := by decide +kernel
theorem dX7_hot_25 : decode cX7_hot 25 = .ok (.ireturn, 1) := by decide +kernel
theorem dX7_hot_26 : decode cX7_hot 26 = .ok (.aload_n 0, 1) := by decide +kernel
theorem dX7_hot_27 : decode cX7_hot 27 = .ok (.iconst 0, 1) := by decide +kernel
theorem dX7_hot_28 : decode cX7_hot 28 = .ok (.iconst 0, 1) := by decide +kernel
theorem dX7_hot_29 : decode cX7_hot 29 = .ok (.invokevirtual 191, 3) := by decide +kernel
theorem dX7_hot_32 : decode cX7_hot 32 = .ok (.astore_n 3, 1) := by decide +kernel
theorem dX7_hot_33 : decode cX7_hot 33 = .ok (.iconst 0, 1) := by decide +kernel
theorem dX7_hot_34 : decode cX7_hot 34 = .ok (.istore 4, 2) := by decide +kernel
theorem dX7_hot_36 : decode cX7_hot 36 = .ok (.iload 4, 2) := by decide +kernel
theorem dX7_hot_38 : decode cX7_hot 38 = .ok (.bipush 60, 2) := by decide +kernel
theorem dX7_hot_40 : decode cX7_hot 40 = .ok (.if_icmp .gt 38, 3) := by decide +kernel
theorem dX7_hot_43 : decode cX7_hot 43 = .ok (.aload_n 3, 1) := by decide +kernel
theorem dX7_hot_44 : decode cX7_hot 44 = .ok (.iload_n 1, 1) := by decide +kernel
theorem dX7_hot_45 : decode cX7_hot 45 = .ok (.invokevirtual 195, 3) := by decide +kernel
theorem dX7_hot_48 : decode cX7_hot 48 = .ok (.istore 5, 2) := by decide +kernel
theorem dX7_hot_50 : decode cX7_hot 50 = .ok (.iload 5, 2) := by decide +kernel
theorem dX7_hot_52 : decode cX7_hot 52 = .ok (.ifCond .lt 15, 3) := by decide +kernel
theorem dX7_hot_55 : decode cX7_hot 55 = .ok (.iload_n 2, 1) := by decide +kernel
theorem dX7_hot_56 : decode cX7_hot 56 = .ok (.ifCond .ne 8, 3) := by decide +kernel
theorem dX7_hot_59 : decode cX7_hot 59 = .ok (.iload 4, 2) := by decide +kernel
theorem dX7_hot_61 : decode cX7_hot 61 = .ok (.goto 5, 3) := by decide +kernel
theorem dX7_hot_64 : decode cX7_hot 64 = .ok (.iload 5, 2) := by decide +kernel
theorem dX7_hot_66 : decode cX7_hot 66 = .ok (.ireturn, 1) := by decide +kernel
theorem dX7_hot_67 : decode cX7_hot 67 = .ok (.aload_n 3, 1) := by decide +kernel
theorem dX7_hot_68 : decode cX7_hot 68 = .ok (.iconst 1, 1) := by decide +kernel
theorem dX7_hot_69 : decode cX7_hot 69 = .ok (.invokevirtual 181, 3) := by decide +kernel
theorem dX7_hot_72 : decode cX7_hot 72 = .ok (.iinc 4 1, 3) := by decide +kernel
theorem dX7_hot_75 : decode cX7_hot 75 = .ok (.goto (-39), 3) := by decide +kernel
theorem dX7_hot_78 : decode cX7_hot 78 = .ok (.aload_n 0, 1) := by decide +kernel
theorem dX7_hot_79 : decode cX7_hot 79 = .ok (.iconst 2, 1) := by decide +kernel
theorem dX7_hot_80 : decode cX7_hot 80 = .ok (.invokevirtual 58, 3) := by decide +kernel
theorem dX7_hot_83 : decode cX7_hot 83 = .ok (.ireturn, 1) := by decide +kernel
theorem dX7_feedFor_0 : decode cX7_feedFor 0 = .ok (.iload_n 1, 1) := by decide +kernel
theorem dX7_feedFor_1 : decode cX7_feedFor 1 = .ok (.ifCond .lt 25, 3) := by decide +kernel
theorem dX7_feedFor_4 : decode cX7_feedFor 4 = .ok (.iload_n 1, 1) := by decide +kernel
theorem dX7_feedFor_5 : decode cX7_feedFor 5 = .ok (.aload_n 0, 1) := by decide +kernel
theorem dX7_feedFor_6 : decode cX7_feedFor 6 = .ok (.getfield 10, 3) := by decide +kernel
theorem dX7_feedFor_9 : decode cX7_feedFor 9 = .ok (.getfield 85, 3) := by decide +kernel
theorem dX7_feedFor_12 : decode cX7_feedFor 12 = .ok (.ishr, 1) := by decide +kernel
theorem dX7_feedFor_13 : decode cX7_feedFor 13 = .ok (.ifCond .ne 13, 3) := by decide +kernel
theorem dX7_feedFor_16 : decode cX7_feedFor 16 = .ok (.iload_n 2, 1) := by decide +kernel
theorem dX7_feedFor_17 : decode cX7_feedFor 17 = .ok (.iconst 1, 1) := by decide +kernel
theorem dX7_feedFor_18 : decode cX7_feedFor 18 = .ok (.bipush 30, 2) := by decide +kernel
theorem dX7_feedFor_20 : decode cX7_feedFor 20 = .ok (.invokestatic 54, 3) := by decide +kernel
theorem dX7_feedFor_23 : decode cX7_feedFor 23 = .ok (.ifCond .ne 9, 3) := by decide +kernel
theorem dX7_feedFor_26 : decode cX7_feedFor 26 = .ok (.aload_n 0, 1) := by decide +kernel
theorem dX7_feedFor_27 : decode cX7_feedFor 27 = .ok (.iconst 1, 1) := by decide +kernel
theorem dX7_feedFor_28 : decode cX7_feedFor 28 = .ok (.invokevirtual 58, 3) := by decide +kernel
theorem dX7_feedFor_31 : decode cX7_feedFor 31 = .ok (.ireturn, 1) := by decide +kernel
theorem dX7_feedFor_32 : decode cX7_feedFor 32 = .ok (.iconst 0, 1) := by decide +kernel
theorem dX7_feedFor_33 : decode cX7_feedFor 33 = .ok (.istore_n 3, 1) := by decide +kernel
theorem dX7_feedFor_34 : decode cX7_feedFor 34 = .ok (.iload_n 3, 1) := by decide +kernel
theorem dX7_feedFor_35 : decode cX7_feedFor 35 = .ok (.bipush 99, 2) := by decide +kernel
theorem dX7_feedFor_37 : decode cX7_feedFor 37 = .ok (.if_icmp .gt 23, 3) := by decide +kernel
theorem dX7_feedFor_40 : decode cX7_feedFor 40 = .ok (.aload_n 0, 1) := by decide +kernel
theorem dX7_feedFor_41 : decode cX7_feedFor 41 = .ok (.iload_n 3, 1) := by decide +kernel
theorem dX7_feedFor_42 : decode cX7_feedFor 42 = .ok (.iload_n 2, 1) := by decide +kernel
theorem dX7_feedFor_43 : decode cX7_feedFor 43 = .ok (.invokevirtual 198, 3) := by decide +kernel
theorem dX7_feedFor_46 : decode cX7_feedFor 46 = .ok (.iload_n 1, 1) := by decide +kernel
theorem dX7_feedFor_47 : decode cX7_feedFor 47 = .ok (.iand, 1) := by decide +kernel
theorem dX7_feedFor_48 : decode cX7_feedFor 48 = .ok (.iload_n 1, 1) := by decide +kernel
theorem dX7_feedFor_49 : decode cX7_feedFor 49 = .ok (.if_icmp .ne 5, 3) := by decide +kernel
theorem dX7_feedFor_52 : decode cX7_feedFor 52 = .ok (.iload_n 3, 1) := by decide +kernel
theorem dX7_feedFor_53 : decode cX7_feedFor 53 = .ok (.ireturn, 1) := by decide +kernel
theorem dX7_feedFor_54 : decode cX7_feedFor 54 = .ok (.iinc 3 1, 3) := by decide +kernel
theorem dX7_feedFor_57 : decode cX7_feedFor 57 = .ok (.goto (-23), 3) := by decide +kernel
theorem dX7_feedFor_60 : decode cX7_feedFor 60 = .ok (.aload_n 0, 1) := by decide +kernel
theorem dX7_feedFor_61 : decode cX7_feedFor 61 = .ok (.iconst 2, 1) := by decide +kernel
theorem dX7_feedFor_62 : decode cX7_feedFor 62 = .ok (.invokevirtual 58, 3) := by decide +kernel
theorem dX7_feedFor_65 : decode cX7_feedFor 65 = .ok (.ireturn, 1) := by decide +kernel
theorem dX7_open_0 : decode cX7_open 0 = .ok (.aload_n 0, 1) := by decide +kernel
theorem dX7_open_1 : decode cX7_open 1 = .ok (.iload_n 1, 1) := by decide +kernel
theorem dX7_open_2 : decode cX7_open 2 = .ok (.invokevirtual 97, 3) := by decide +kernel
theorem dX7_open_5 : decode cX7_open 5 = .ok (.ifCond .eq 13, 3) := by decide +kernel
theorem dX7_open_8 : decode cX7_open 8 = .ok (.iload_n 2, 1) := by decide +kernel
theorem dX7_open_9 : decode cX7_open 9 = .ok (.iconst 0, 1) := by decide +kernel
theorem dX7_open_10 : decode cX7_open 10 = .ok (.bipush 20, 2) := by decide +kernel
theorem dX7_open_12 : decode cX7_open 12 = .ok (.invokestatic 54, 3) := by decide +kernel
theorem dX7_open_15 : decode cX7_open 15 = .ok (.ifCond .ne 9, 3) := by decide +kernel
theorem dX7_open_18 : decode cX7_open 18 = .ok (.aload_n 0, 1) := by decide +kernel
theorem dX7_open_19 : decode cX7_open 19 = .ok (.iconst 1, 1) := by decide +kernel
theorem dX7_open_20 : decode cX7_open 20 = .ok (.invokevirtual 58, 3) := by decide +kernel
theorem dX7_open_23 : decode cX7_open 23 = .ok (.ireturn, 1) := by decide +kernel
theorem dX7_open_24 : decode cX7_open 24 = .ok (.iconst (-1), 1) := by decide +kernel
theorem dX7_open_25 : decode cX7_open 25 = .ok (.istore_n 3, 1) := by decide +kernel
theorem dX7_open_26 : decode cX7_open 26 = .ok (.aload_n 0, 1) := by decide +kernel
theorem dX7_open_27 : decode cX7_open 27 = .ok (.iconst 0, 1) := by decide +kernel
theorem dX7_open_28 : decode cX7_open 28 = .ok (.iload_n 2, 1) := by decide +kernel
theorem dX7_open_29 : decode cX7_open 29 = .ok (.invokevirtual 191, 3) := by decide +kernel
theorem dX7_open_32 : decode cX7_open 32 = .ok (.getfield 94, 3) := by decide +kernel
theorem dX7_open_35 : decode cX7_open 35 = .ok (.iload_n 1, 1) := by decide +kernel
theorem dX7_open_36 : decode cX7_open 36 = .ok (.iaload, 1) := by decide +kernel
theorem dX7_open_37 : decode cX7_open 37 = .ok (.istore 4, 2) := by decide +kernel
theorem dX7_open_39 : decode cX7_open 39 = .ok (.iconst 0, 1) := by decide +kernel
theorem dX7_open_40 : decode cX7_open 40 = .ok (.istore 5, 2) := by decide +kernel
theorem dX7_open_42 : decode cX7_open 42 = .ok (.iload 5, 2) := by decide +kernel
theorem dX7_open_44 : decode cX7_open 44 = .ok (.bipush 12, 2) := by decide +kernel
theorem dX7_open_46 : decode cX7_open 46 = .ok (.if_icmp .ge 39, 3) := by decide +kernel
theorem dX7_open_49 : decode cX7_open 49 = .ok (.aload_n 0, 1) := by decide +kernel
theorem dX7_open_50 : decode cX7_open 50 = .ok (.iconst 1, 1) := by decide +kernel
theorem dX7_open_51 : decode cX7_open 51 = .ok (.iload 5, 2) := by decide +kernel
theorem dX7_open_53 : decode cX7_open 53 = .ok (.ishl, 1) := by decide +kernel
theorem dX7_open_54 : decode cX7_open 54 = .ok (.iload_n 2, 1) := by decide +kernel
theorem dX7_open_55 : decode cX7_open 55 = .ok (.invokevirtual 191, 3) := by decide +kernel
theorem dX7_open_58 : decode cX7_open 58 = .ok (.getfield 94, 3) := by decide +kernel
theorem dX7_open_61 : decode cX7_open 61 = .ok (.iload_n 1, 1) := by decide +kernel
theorem dX7_open_62 : decode cX7_open 62 = .ok (.iaload, 1) := by decide +kernel
theorem dX7_open_63 : decode cX7_open 63 = .ok (.istore 6, 2) := by decide +kernel
theorem dX7_open_65 : decode cX7_open 65 = .ok (.iload 6, 2) := by decide +kernel
theorem dX7_open_67 : decode cX7_open 67 = .ok (.iload 4, 2) := by decide +kernel
theorem dX7_open_69 : decode cX7_open 69 = .ok (.if_icmp .le 10, 3) := by decide +kernel
theorem dX7_open_72 : decode cX7_open 72 = .ok (.iload 6, 2) := by decide +kernel
theorem dX7_open_74 : decode cX7_open 74 = .ok (.istore 4, 2) := by decide +kernel
theorem dX7_open_76 : decode cX7_open 76 = .ok (.iload 5, 2) := by decide +kernel
theorem dX7_open_78 : decode cX7_open 78 = .ok (.istore_n 3, 1) := by decide +kernel
theorem dX7_open_79 : decode cX7_open 79 = .ok (.iinc 5 1, 3) := by decide +kernel
theorem dX7_open_82 : decode cX7_open 82 = .ok (.goto (-40), 3) := by decide +kernel
theorem dX7_open_85 : decode cX7_open 85 = .ok (.iload_n 3, 1) := by decide +kernel
theorem dX7_open_86 : decode cX7_open 86 = .ok (.ireturn, 1) := by decide +kernel
theorem dX7_doors_0 : decode cX7_doors 0 = .ok (.aload_n 0, 1) := by decide +kernel
theorem dX7_doors_1 : decode cX7_doors 1 = .ok (.iload_n 1, 1) := by decide +kernel
theorem dX7_doors_2 : decode cX7_doors 2 = .ok (.invokevirtual 97, 3) := by decide +kernel
theorem dX7_doors_5 : decode cX7_doors 5 = .ok (.ifCond .eq 24, 3) := by decide +kernel
theorem dX7_doors_8 : decode cX7_doors 8 = .ok (.iload_n 2, 1) := by decide +kernel
theorem dX7_doors_9 : decode cX7_doors 9 = .ok (.iconst 0, 1) := by decide +kernel
theorem dX7_doors_10 : decode cX7_doors 10 = .ok (.sipush 999, 3) := by decide +kernel
theorem dX7_doors_13 : decode cX7_doors 13 = .ok (.invokestatic 54, 3) := by decide +kernel
theorem dX7_doors_16 : decode cX7_doors 16 = .ok (.ifCond .eq 13, 3) := by decide +kernel
theorem dX7_doors_19 : decode cX7_doors 19 = .ok (.iload_n 3, 1) := by decide +kernel
theorem dX7_doors_20 : decode cX7_doors 20 = .ok (.iconst 0, 1) := by decide +kernel
theorem dX7_doors_21 : decode cX7_doors 21 = .ok (.bipush 20, 2) := by decide +kernel
theorem dX7_doors_23 : decode cX7_doors 23 = .ok (.invokestatic 54, 3) := by decide +kernel
theorem dX7_doors_26 : decode cX7_doors 26 = .ok (.ifCond .ne 9, 3) := by decide +kernel
theorem dX7_doors_29 : decode cX7_doors 29 = .ok (.aload_n 0, 1) := by decide +kernel
theorem dX7_doors_30 : decode cX7_doors 30 = .ok (.iconst 1, 1) := by decide +kernel
theorem dX7_doors_31 : decode cX7_doors 31 = .ok (.invokevirtual 58, 3) := by decide +kernel
theorem dX7_doors_34 : decode cX7_doors 34 = .ok (.ireturn, 1) := by decide +kernel
theorem dX7_doors_35 : decode cX7_doors 35 = .ok (.aload_n 0, 1) := by decide +kernel
theorem dX7_doors_36 : decode cX7_doors 36 = .ok (.getfield 10, 3) := by decide +kernel
theorem dX7_doors_39 : decode cX7_doors 39 = .ok (.getfield 91, 3) := by decide +kernel
theorem dX7_doors_42 : decode cX7_doors 42 = .ok (.iload_n 1, 1) := by decide +kernel
theorem dX7_doors_43 : decode cX7_doors 43 = .ok (.iaload, 1) := by decide +kernel
theorem dX7_doors_44 : decode cX7_doors 44 = .ok (.istore 4, 2) := by decide +kernel
theorem dX7_doors_46 : decode cX7_doors 46 = .ok (.aload_n 0, 1) := by decide +kernel
theorem dX7_doors_47 : decode cX7_doors 47 = .ok (.iconst 0, 1) := by decide +kernel
theorem dX7_doors_48 : decode cX7_doors 48 = .ok (.iload_n 3, 1) := by decide +kernel
theorem dX7_doors_49 : decode cX7_doors 49 = .ok (.invokevirtual 191, 3) := by decide +kernel
theorem dX7_doors_52 : decode cX7_doors 52 = .ok (.iload 4, 2) := by decide +kernel
theorem dX7_doors_54 : decode cX7_doors 54 = .ok (.invokevirtual 202, 3) := by decide +kernel
theorem dX7_doors_57 : decode cX7_doors 57 = .ok (.iload_n 2, 1) := by decide +kernel
theorem dX7_doors_58 : decode cX7_doors 58 = .ok (.if_icmp .lt 5, 3) := by decide +kernel
theorem dX7_doors_61 : decode cX7_doors 61 = .ok (.iconst 0, 1) := by decide +kernel
theorem dX7_doors_62 : decode cX7_doors 62 = .ok (.ireturn, 1) := by decide +kernel
theorem dX7_doors_63 : decode cX7_doors 63 = .ok (.iconst 0, 1) := by decide +kernel
theorem dX7_doors_64 : decode cX7_doors 64 = .ok (.istore 5, 2) := by decide +kernel
theorem dX7_doors_66 : decode cX7_doors 66 = .ok (.iload 5, 2) := by decide +kernel
theorem dX7_doors_68 : decode cX7_doors 68 = .ok (.bipush 12, 2) := by decide +kernel
theorem dX7_doors_70 : decode cX7_doors 70 = .ok (.if_icmp .ge 32, 3) := by decide +kernel
theorem dX7_doors_73 : decode cX7_doors 73 = .ok (.aload_n 0, 1) := by decide +kernel
theorem dX7_doors_74 : decode cX7_doors 74 = .ok (.iconst 1, 1) := by decide +kernel
theorem dX7_doors_75 : decode cX7_doors 75 = .ok (.iload 5, 2) := by decide +kernel
theorem dX7_doors_77 : decode cX7_doors 77 = .ok (.ishl, 1) := by decide +kernel
theorem dX7_doors_78 : decode cX7_doors 78 = .ok (.iload_n 3, 1) := by decide +kernel
theorem dX7_doors_79 : decode cX7_doors 79 = .ok (.invokevirtual 191, 3) := by decide +kernel
theorem dX7_doors_82 : decode cX7_doors 82 = .ok (.iload 4, 2) := by decide +kernel
theorem dX7_doors_84 : decode cX7_doors 84 = .ok (.invokevirtual 202, 3) := by decide +kernel
theorem dX7_doors_87 : decode cX7_doors 87 = .ok (.iload_n 2, 1) := by decide +kernel
theorem dX7_doors_88 : decode cX7_doors 88 = .ok (.if_icmp .lt 8, 3) := by decide +kernel
theorem dX7_doors_91 : decode cX7_doors 91 = .ok (.iconst 1, 1) := by decide +kernel
theorem dX7_doors_92 : decode cX7_doors 92 = .ok (.iload 5, 2) := by decide +kernel
theorem dX7_doors_94 : decode cX7_doors 94 = .ok (.ishl, 1) := by decide +kernel
theorem dX7_doors_95 : decode cX7_doors 95 = .ok (.ireturn, 1) := by decide +kernel
theorem dX7_doors_96 : decode cX7_doors 96 = .ok (.iinc 5 1, 3) := by decide +kernel
theorem dX7_doors_99 : decode cX7_doors 99 = .ok (.goto (-33), 3) := by decide +kernel
theorem dX7_doors_102 : decode cX7_doors 102 = .ok (.iconst 1, 1) := by decide +kernel
theorem dX7_doors_103 : decode cX7_doors 103 = .ok (.istore 5, 2) := by decide +kernel
theorem dX7_doors_105 : decode cX7_doors 105 = .ok (.iload 5, 2) := by decide +kernel
theorem dX7_doors_107 : decode cX7_doors 107 = .ok (.bipush 12, 2) := by decide +kernel
theorem dX7_doors_109 : decode cX7_doors 109 = .ok (.if_icmp .ge 55, 3) := by decide +kernel
theorem dX7_doors_112 : decode cX7_doors 112 = .ok (.iconst 0, 1) := by decide +kernel
theorem dX7_doors_113 : decode cX7_doors 113 = .ok (.istore 6, 2) := by decide +kernel
theorem dX7_doors_115 : decode cX7_doors 115 = .ok (.iload 6, 2) := by decide +kernel
theorem dX7_doors_117 : decode cX7_doors 117 = .ok (.iload 5, 2) := by decide +kernel
theorem dX7_doors_119 : decode cX7_doors 119 = .ok (.if_icmp .ge 39, 3) := by decide +kernel
theorem dX7_doors_122 : decode cX7_doors 122 = .ok (.iconst 1, 1) := by decide +kernel
theorem dX7_doors_123 : decode cX7_doors 123 = .ok (.iload 5, 2) := by decide +kernel
theorem dX7_doors_125 : decode cX7_doors 125 = .ok (.ishl, 1) := by decide +kernel
theorem dX7_doors_126 : decode cX7_doors 126 = .ok (.iconst 1, 1) := by decide +kernel
theorem dX7_doors_127 : decode cX7_doors 127 = .ok (.iload 6, 2) := by decide +kernel
theorem dX7_doors_129 : decode cX7_doors 129 = .ok (.ishl, 1) := by decide +kernel
theorem dX7_doors_130 : decode cX7_doors 130 = .ok (.ior, 1) := by decide +kernel
theorem dX7_doors_131 : decode cX7_doors 131 = .ok (.istore 7, 2) := by decide +kernel
theorem dX7_doors_133 : decode cX7_doors 133 = .ok (.aload_n 0, 1) := by decide +kernel
theorem dX7_doors_134 : decode cX7_doors 134 = .ok (.iload 7, 2) := by decide +kernel
theorem dX7_doors_136 : decode cX7_doors 136 = .ok (.iload_n 3, 1) := by decide +kernel
theorem dX7_doors_137 : decode cX7_doors 137 = .ok (.invokevirtual 191, 3) := by decide +kernel
theorem dX7_doors_140 : decode cX7_doors 140 = .ok (.iload 4, 2) := by decide +kernel
theorem dX7_doors_142 : decode cX7_doors 142 = .ok (.invokevirtual 202, 3) := by decide +kernel
theorem dX7_doors_145 : decode cX7_doors 145 = .ok (.iload_n 2, 1) := by decide +kernel
theorem dX7_doors_146 : decode cX7_doors 146 = .ok (.if_icmp .lt 6, 3) := by decide +kernel
theorem dX7_doors_149 : decode cX7_doors 149 = .ok (.iload 7, 2) := by decide +kernel
theorem dX7_doors_151 : decode cX7_doors 151 = .ok (.ireturn, 1) := by decide +kernel
theorem dX7_doors_152 : decode cX7_doors 152 = .ok (.iinc 6 1, 3) := by decide +kernel
theorem dX7_doors_155 : decode cX7_doors 155 = .ok (.goto (-40), 3) := by decide +kernel
theorem dX7_doors_158 : decode cX7_doors 158 = .ok (.iinc 5 1, 3) := by decide +kernel
theorem dX7_doors_161 : decode cX7_doors 161 = .ok (.goto (-56), 3) := by decide +kernel
theorem dX7_doors_164 : decode cX7_doors 164 = .ok (.aload_n 0, 1) := by decide +kernel
theorem dX7_doors_165 : decode cX7_doors 165 = .ok (.iconst 2, 1) := by decide +kernel
theorem dX7_doors_166 : decode cX7_doors 166 = .ok (.invokevirtual 58, 3) := by decide +kernel
theorem dX7_doors_169 : decode cX7_doors 169 = .ok (.ireturn, 1) := by decide +kernel
theorem dX7_which_0 : decode cX7_which 0 = .ok (.iload_n 1, 1) := by decide +kernel
theorem dX7_which_1 : decode cX7_which 1 = .ok (.invokestatic 205, 3) := by decide +kernel
theorem dX7_which_4 : decode cX7_which 4 = .ok (.ifCond .eq 12, 3) := by decide +kernel
theorem dX7_which_7 : decode cX7_which 7 = .ok (.iload_n 2, 1) := by decide +kernel
theorem dX7_which_8 : decode cX7_which 8 = .ok (.iconst 0, 1) := by decide +kernel
theorem dX7_which_9 : decode cX7_which 9 = .ok (.iconst 1, 1) := by decide +kernel
theorem dX7_which_10 : decode cX7_which 10 = .ok (.invokestatic 54, 3) := by decide +kernel
theorem dX7_which_13 : decode cX7_which 13 = .ok (.ifCond .ne 9, 3) := by decide +kernel
theorem dX7_which_16 : decode cX7_which 16 = .ok (.aload_n 0, 1) := by decide +kernel
theorem dX7_which_17 : decode cX7_which 17 = .ok (.iconst 1, 1) := by decide +kernel
theorem dX7_which_18 : decode cX7_which 18 = .ok (.invokevirtual 58, 3) := by decide +kernel
theorem dX7_which_21 : decode cX7_which 21 = .ok (.ireturn, 1) := by decide +kernel
theorem dX7_which_22 : decode cX7_which 22 = .ok (.aload_n 0, 1) := by decide +kernel
theorem dX7_which_23 : decode cX7_which 23 = .ok (.getfield 38, 3) := by decide +kernel
theorem dX7_which_26 : decode cX7_which 26 = .ok (.iload_n 1, 1) := by decide +kernel
theorem dX7_which_27 : decode cX7_which 27 = .ok (.aaload, 1) := by decide +kernel
theorem dX7_which_28 : decode cX7_which 28 = .ok (.astore_n 3, 1) := by decide +kernel
theorem dX7_which_29 : decode cX7_which 29 = .ok (.aload_n 3, 1) := by decide +kernel
theorem dX7_which_30 : decode cX7_which 30 = .ok (.invokevirtual 208, 3) := by decide +kernel
theorem dX7_which_33 : decode cX7_which 33 = .ok (.ifCond .ne 15, 3) := by decide +kernel
theorem dX7_which_36 : decode cX7_which 36 = .ok (.aload_n 3, 1) := by decide +kernel
theorem dX7_which_37 : decode cX7_which 37 = .ok (.getfield 212, 3) := by decide +kernel
theorem dX7_which_40 : decode cX7_which 40 = .ok (.getfield 140, 3) := by decide +kernel
theorem dX7_which_43 : decode cX7_which 43 = .ok (.bipush 16, 2) := by decide +kernel
theorem dX7_which_45 : decode cX7_which 45 = .ok (.if_icmp .eq 9, 3) := by decide +kernel
theorem dX7_which_48 : decode cX7_which 48 = .ok (.aload_n 0, 1) := by decide +kernel
theorem dX7_which_49 : decode cX7_which 49 = .ok (.iconst 2, 1) := by decide +kernel
theorem dX7_which_50 : decode cX7_which 50 = .ok (.invokevirtual 58, 3) := by decide +kernel
theorem dX7_which_53 : decode cX7_which 53 = .ok (.ireturn, 1) := by decide +kernel
theorem dX7_which_54 : decode cX7_which 54 = .ok (.iconst 0, 1) := by decide +kernel
theorem dX7_which_55 : decode cX7_which 55 = .ok (.istore 4, 2) := by decide +kernel
theorem dX7_which_57 : decode cX7_which 57 = .ok (.iconst 0, 1) := by decide +kernel
theorem dX7_which_58 : decode cX7_which 58 = .ok (.istore 5, 2) := by decide +kernel
theorem dX7_which_60 : decode cX7_which 60 = .ok (.iload 5, 2) := by decide +kernel
theorem dX7_which_62 : decode cX7_which 62 = .ok (.bipush 12, 2) := by decide +kernel
theorem dX7_which_64 : decode cX7_which 64 = .ok (.if_icmp .ge 37, 3) := by decide +kernel
theorem dX7_which_67 : decode cX7_which 67 = .ok (.aload_n 0, 1) := by decide +kernel
theorem dX7_which_68 : decode cX7_which 68 = .ok (.iconst 1, 1) := by decide +kernel
theorem dX7_which_69 : decode cX7_which 69 = .ok (.iload 5, 2) := by decide +kernel
theorem dX7_which_71 : decode cX7_which 71 = .ok (.ishl, 1) := by decide +kernel
theorem dX7_which_72 : decode cX7_which 72 = .ok (.iconst 1, 1) := by decide +kernel
theorem dX7_which_73 : decode cX7_which 73 = .ok (.invokevirtual 191, 3) := by decide +kernel
theorem dX7_which_76 : decode cX7_which 76 = .ok (.aload_n 3, 1) := by decide +kernel
theorem dX7_which_77 : decode cX7_which 77 = .ok (.getfield 212, 3) := by decide +kernel
theorem dX7_which_80 : decode cX7_which 80 = .ok (.invokevirtual 215, 3) := by decide +kernel
theorem dX7_which_83 : decode cX7_which 83 = .ok (.ifCond .eq 12, 3) := by decide +kernel
theorem dX7_which_86 : decode cX7_which 86 = .ok (.iload 4, 2) := by decide +kernel
theorem dX7_which_88 : decode cX7_which 88 = .ok (.iconst 1, 1) := by decide +kernel
theorem dX7_which_89 : decode cX7_which 89 = .ok (.iload 5, 2) := by decide +kernel
theorem dX7_which_91 : decode cX7_which 91 = .ok (.ishl, 1) := by decide +kernel
theorem dX7_which_92 : decode cX7_which 92 = .ok (.ior, 1) := by decide +kernel
theorem dX7_which_93 : decode cX7_which 93 = .ok (.istore 4, 2) := by decide +kernel
theorem dX7_which_95 : decode cX7_which 95 = .ok (.iinc 5 1, 3) := by decide +kernel
theorem dX7_which_98 : decode cX7_which 98 = .ok (.goto (-38), 3) := by decide +kernel
theorem dX7_which_101 : decode cX7_which 101 = .ok (.iload_n 2, 1) := by decide +kernel
theorem dX7_which_102 : decode cX7_which 102 = .ok (.ifCond .ne 8, 3) := by decide +kernel
theorem dX7_which_105 : decode cX7_which 105 = .ok (.iload 4, 2) := by decide +kernel
