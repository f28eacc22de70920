theorem dX8_init_0 : decode cX8_init 0 = .ok (.aload_n 0, 1) := by decide +kernel
theorem dX8_init_1 : decode cX8_init 1 = .ok (.invokespecial 5, 3) := by decide +kernel
theorem dX8_init_4 : decode cX8_init 4 = .ok (.aload_n 0, 1) := by decide +kernel
theorem dX8_init_5 : decode cX8_init 5 = .ok (.new 11, 3) := by decide +kernel
theorem dX8_init_8 : decode cX8_init 8 = .ok (.dup, 1) := by decide +kernel
theorem dX8_init_9 : decode cX8_init 9 = .ok (.invokespecial 13, 3) := by decide +kernel
theorem dX8_init_12 : decode cX8_init 12 = .ok (.putfield 14, 3) := by decide +kernel
theorem dX8_init_15 : decode cX8_init 15 = .ok (.aload_n 0, 1) := by decide +kernel
theorem dX8_init_16 : decode cX8_init 16 = .ok (.new 18, 3) := by decide +kernel
theorem dX8_init_19 : decode cX8_init 19 = .ok (.dup, 1) := by decide +kernel
theorem dX8_init_20 : decode cX8_init 20 = .ok (.invokespecial 20, 3) := by decide +kernel
theorem dX8_init_23 : decode cX8_init 23 = .ok (.putfield 21, 3) := by decide +kernel
theorem dX8_init_26 : decode cX8_init 26 = .ok (.aload_n 0, 1) := by decide +kernel
theorem dX8_init_27 : decode cX8_init 27 = .ok (.iconst 4, 1) := by decide +kernel
theorem dX8_init_28 : decode cX8_init 28 = .ok (.anewarray 25, 3) := by decide +kernel
theorem dX8_init_31 : decode cX8_init 31 = .ok (.putfield 27, 3) := by decide +kernel
theorem dX8_init_34 : decode cX8_init 34 = .ok (.aload_n 0, 1) := by decide +kernel
theorem dX8_init_35 : decode cX8_init 35 = .ok (.new 31, 3) := by decide +kernel
theorem dX8_init_38 : decode cX8_init 38 = .ok (.dup, 1) := by decide +kernel
theorem dX8_init_39 : decode cX8_init 39 = .ok (.invokespecial 33, 3) := by decide +kernel
theorem dX8_init_42 : decode cX8_init 42 = .ok (.putfield 34, 3) := by decide +kernel
theorem dX8_init_45 : decode cX8_init 45 = .ok (.aload_n 0, 1) := by decide +kernel
theorem dX8_init_46 : decode cX8_init 46 = .ok (.new 38, 3) := by decide +kernel
theorem dX8_init_49 : decode cX8_init 49 = .ok (.dup, 1) := by decide +kernel
theorem dX8_init_50 : decode cX8_init 50 = .ok (.aload_n 0, 1) := by decide +kernel
theorem dX8_init_51 : decode cX8_init 51 = .ok (.getfield 14, 3) := by decide +kernel
theorem dX8_init_54 : decode cX8_init 54 = .ok (.invokespecial 40, 3) := by decide +kernel
theorem dX8_init_57 : decode cX8_init 57 = .ok (.putfield 43, 3) := by decide +kernel
theorem dX8_init_60 : decode cX8_init 60 = .ok (.aload_n 0, 1) := by decide +kernel
theorem dX8_init_61 : decode cX8_init 61 = .ok (.new 47, 3) := by decide +kernel
theorem dX8_init_64 : decode cX8_init 64 = .ok (.dup, 1) := by decide +kernel
theorem dX8_init_65 : decode cX8_init 65 = .ok (.invokespecial 49, 3) := by decide +kernel
theorem dX8_init_68 : decode cX8_init 68 = .ok (.putfield 50, 3) := by decide +kernel
theorem dX8_init_71 : decode cX8_init 71 = .ok (.aload_n 0, 1) := by decide +kernel
theorem dX8_init_72 : decode cX8_init 72 = .ok (.new 54, 3) := by decide +kernel
theorem dX8_init_75 : decode cX8_init 75 = .ok (.dup, 1) := by decide +kernel
theorem dX8_init_76 : decode cX8_init 76 = .ok (.aload_n 0, 1) := by decide +kernel
theorem dX8_init_77 : decode cX8_init 77 = .ok (.getfield 43, 3) := by decide +kernel
theorem dX8_init_80 : decode cX8_init 80 = .ok (.invokespecial 56, 3) := by decide +kernel
theorem dX8_init_83 : decode cX8_init 83 = .ok (.putfield 59, 3) := by decide +kernel
theorem dX8_init_86 : decode cX8_init 86 = .ok (.aload_n 0, 1) := by decide +kernel
theorem dX8_init_87 : decode cX8_init 87 = .ok (.new 63, 3) := by decide +kernel
theorem dX8_init_90 : decode cX8_init 90 = .ok (.dup, 1) := by decide +kernel
theorem dX8_init_91 : decode cX8_init 91 = .ok (.aload_n 0, 1) := by decide +kernel
theorem dX8_init_92 : decode cX8_init 92 = .ok (.getfield 14, 3) := by decide +kernel
theorem dX8_init_95 : decode cX8_init 95 = .ok (.aload_n 0, 1) := by decide +kernel
theorem dX8_init_96 : decode cX8_init 96 = .ok (.getfield 43, 3) := by decide +kernel
theorem dX8_init_99 : decode cX8_init 99 = .ok (.invokespecial 65, 3) := by decide +kernel
theorem dX8_init_102 : decode cX8_init 102 = .ok (.putfield 68, 3) := by decide +kernel
theorem dX8_init_105 : decode cX8_init 105 = .ok (.aload_n 0, 1) := by decide +kernel
theorem dX8_init_106 : decode cX8_init 106 = .ok (.iconst 0, 1) := by decide +kernel
theorem dX8_init_107 : decode cX8_init 107 = .ok (.putfield 72, 3) := by decide +kernel
theorem dX8_init_110 : decode cX8_init 110 = .ok (.iconst 0, 1) := by decide +kernel
theorem dX8_init_111 : decode cX8_init 111 = .ok (.istore_n 1, 1) := by decide +kernel
theorem dX8_init_112 : decode cX8_init 112 = .ok (.iload_n 1, 1) := by decide +kernel
theorem dX8_init_113 : decode cX8_init 113 = .ok (.iconst 4, 1) := by decide +kernel
theorem dX8_init_114 : decode cX8_init 114 = .ok (.if_icmp .ge 22, 3) := by decide +kernel
theorem dX8_init_117 : decode cX8_init 117 = .ok (.aload_n 0, 1) := by decide +kernel
theorem dX8_init_118 : decode cX8_init 118 = .ok (.getfield 27, 3) := by decide +kernel
theorem dX8_init_121 : decode cX8_init 121 = .ok (.iload_n 1, 1) := by decide +kernel
theorem dX8_init_122 : decode cX8_init 122 = .ok (.new 25, 3) := by decide +kernel
theorem dX8_init_125 : decode cX8_init 125 = .ok (.dup, 1) := by decide +kernel
theorem dX8_init_126 : decode cX8_init 126 = .ok (.invokespecial 76, 3) := by decide +kernel
theorem dX8_init_129 : decode cX8_init 129 = .ok (.aastore, 1) := by decide +kernel
theorem dX8_init_130 : decode cX8_init 130 = .ok (.iinc 1 1, 3) := by decide +kernel
theorem dX8_init_133 : decode cX8_init 133 = .ok (.goto (-21), 3) := by decide +kernel
theorem dX8_init_136 : decode cX8_init 136 = .ok (.return_, 1) := by decide +kernel
theorem dX8_village_0 : decode cX8_village 0 = .ok (.iload_n 1, 1) := by decide +kernel
theorem dX8_village_1 : decode cX8_village 1 = .ok (.i2l, 1) := by decide +kernel
theorem dX8_village_2 : decode cX8_village 2 = .ok (.lconst 0, 1) := by decide +kernel
theorem dX8_village_3 : decode cX8_village 3 = .ok (.ldc2_w 77, 3) := by decide +kernel
theorem dX8_village_6 : decode cX8_village 6 = .ok (.invokestatic 79, 3) := by decide +kernel
theorem dX8_village_9 : decode cX8_village 9 = .ok (.ifCond .ne 5, 3) := by decide +kernel
theorem dX8_village_12 : decode cX8_village 12 = .ok (.iconst (-1), 1) := by decide +kernel
theorem dX8_village_13 : decode cX8_village 13 = .ok (.ireturn, 1) := by decide +kernel
theorem dX8_village_14 : decode cX8_village 14 = .ok (.aload_n 0, 1) := by decide +kernel
theorem dX8_village_15 : decode cX8_village 15 = .ok (.getfield 14, 3) := by decide +kernel
theorem dX8_village_18 : decode cX8_village 18 = .ok (.getfield 83, 3) := by decide +kernel
theorem dX8_village_21 : decode cX8_village 21 = .ok (.bipush 12, 2) := by decide +kernel
theorem dX8_village_23 : decode cX8_village 23 = .ok (.if_icmp .lt 6, 3) := by decide +kernel
theorem dX8_village_26 : decode cX8_village 26 = .ok (.bipush (-3), 2) := by decide +kernel
theorem dX8_village_28 : decode cX8_village 28 = .ok (.ireturn, 1) := by decide +kernel
theorem dX8_village_29 : decode cX8_village 29 = .ok (.aload_n 0, 1) := by decide +kernel
theorem dX8_village_30 : decode cX8_village 30 = .ok (.getfield 21, 3) := by decide +kernel
theorem dX8_village_33 : decode cX8_village 33 = .ok (.aload_n 0, 1) := by decide +kernel
theorem dX8_village_34 : decode cX8_village 34 = .ok (.getfield 14, 3) := by decide +kernel
theorem dX8_village_37 : decode cX8_village 37 = .ok (.invokevirtual 87, 3) := by decide +kernel
theorem dX8_village_40 : decode cX8_village 40 = .ok (.aload_n 0, 1) := by decide +kernel
theorem dX8_village_41 : decode cX8_village 41 = .ok (.getfield 14, 3) := by decide +kernel
theorem dX8_village_44 : decode cX8_village 44 = .ok (.iload_n 1, 1) := by decide +kernel
theorem dX8_village_45 : decode cX8_village 45 = .ok (.invokevirtual 90, 3) := by decide +kernel
theorem dX8_village_48 : decode cX8_village 48 = .ok (.istore_n 2, 1) := by decide +kernel
theorem dX8_village_49 : decode cX8_village 49 = .ok (.aload_n 0, 1) := by decide +kernel
theorem dX8_village_50 : decode cX8_village 50 = .ok (.invokevirtual 94, 3) := by decide +kernel
theorem dX8_village_53 : decode cX8_village 53 = .ok (.iload_n 2, 1) := by decide +kernel
theorem dX8_village_54 : decode cX8_village 54 = .ok (.ireturn, 1) := by decide +kernel
theorem dX8_loaves_0 : decode cX8_loaves 0 = .ok (.aload_n 0, 1) := by decide +kernel
theorem dX8_loaves_1 : decode cX8_loaves 1 = .ok (.getfield 14, 3) := by decide +kernel
theorem dX8_loaves_4 : decode cX8_loaves 4 = .ok (.iload_n 1, 1) := by decide +kernel
theorem dX8_loaves_5 : decode cX8_loaves 5 = .ok (.i2l, 1) := by decide +kernel
theorem dX8_loaves_6 : decode cX8_loaves 6 = .ok (.invokevirtual 97, 3) := by decide +kernel
theorem dX8_loaves_9 : decode cX8_loaves 9 = .ok (.ifCond .eq 15, 3) := by decide +kernel
theorem dX8_loaves_12 : decode cX8_loaves 12 = .ok (.iload_n 2, 1) := by decide +kernel
theorem dX8_loaves_13 : decode cX8_loaves 13 = .ok (.i2l, 1) := by decide +kernel
theorem dX8_loaves_14 : decode cX8_loaves 14 = .ok (.lconst 0, 1) := by decide +kernel
theorem dX8_loaves_15 : decode cX8_loaves 15 = .ok (.ldc2_w 77, 3) := by decide +kernel
theorem dX8_loaves_18 : decode cX8_loaves 18 = .ok (.invokestatic 79, 3) := by decide +kernel
theorem dX8_loaves_21 : decode cX8_loaves 21 = .ok (.ifCond .ne 5, 3) := by decide +kernel
theorem dX8_loaves_24 : decode cX8_loaves 24 = .ok (.iconst (-1), 1) := by decide +kernel
theorem dX8_loaves_25 : decode cX8_loaves 25 = .ok (.ireturn, 1) := by decide +kernel
theorem dX8_loaves_26 : decode cX8_loaves 26 = .ok (.aload_n 0, 1) := by decide +kernel
theorem dX8_loaves_27 : decode cX8_loaves 27 = .ok (.getfield 14, 3) := by decide +kernel
theorem dX8_loaves_30 : decode cX8_loaves 30 = .ok (.getfield 101, 3) := by decide +kernel
theorem dX8_loaves_33 : decode cX8_loaves 33 = .ok (.iload_n 1, 1) := by decide +kernel
theorem dX8_loaves_34 : decode cX8_loaves 34 = .ok (.iaload, 1) := by decide +kernel
theorem dX8_loaves_35 : decode cX8_loaves 35 = .ok (.istore_n 3, 1) := by decide +kernel
theorem dX8_loaves_36 : decode cX8_loaves 36 = .ok (.aload_n 0, 1) := by decide +kernel
theorem dX8_loaves_37 : decode cX8_loaves 37 = .ok (.getfield 21, 3) := by decide +kernel
theorem dX8_loaves_40 : decode cX8_loaves 40 = .ok (.aload_n 0, 1) := by decide +kernel
theorem dX8_loaves_41 : decode cX8_loaves 41 = .ok (.getfield 14, 3) := by decide +kernel
theorem dX8_loaves_44 : decode cX8_loaves 44 = .ok (.invokevirtual 87, 3) := by decide +kernel
theorem dX8_loaves_47 : decode cX8_loaves 47 = .ok (.aload_n 0, 1) := by decide +kernel
theorem dX8_loaves_48 : decode cX8_loaves 48 = .ok (.getfield 14, 3) := by decide +kernel
theorem dX8_loaves_51 : decode cX8_loaves 51 = .ok (.getfield 101, 3) := by decide +kernel
theorem dX8_loaves_54 : decode cX8_loaves 54 = .ok (.iload_n 1, 1) := by decide +kernel
theorem dX8_loaves_55 : decode cX8_loaves 55 = .ok (.iload_n 2, 1) := by decide +kernel
theorem dX8_loaves_56 : decode cX8_loaves 56 = .ok (.iastore, 1) := by decide +kernel
theorem dX8_loaves_57 : decode cX8_loaves 57 = .ok (.aload_n 0, 1) := by decide +kernel
theorem dX8_loaves_58 : decode cX8_loaves 58 = .ok (.invokevirtual 94, 3) := by decide +kernel
theorem dX8_loaves_61 : decode cX8_loaves 61 = .ok (.iload_n 3, 1) := by decide +kernel
theorem dX8_loaves_62 : decode cX8_loaves 62 = .ok (.ireturn, 1) := by decide +kernel
theorem dX8_road_0 : decode cX8_road 0 = .ok (.aload_n 0, 1) := by decide +kernel
theorem dX8_road_1 : decode cX8_road 1 = .ok (.getfield 14, 3) := by decide +kernel
theorem dX8_road_4 : decode cX8_road 4 = .ok (.iload_n 1, 1) := by decide +kernel
theorem dX8_road_5 : decode cX8_road 5 = .ok (.i2l, 1) := by decide +kernel
theorem dX8_road_6 : decode cX8_road 6 = .ok (.iload_n 2, 1) := by decide +kernel
theorem dX8_road_7 : decode cX8_road 7 = .ok (.i2l, 1) := by decide +kernel
theorem dX8_road_8 : decode cX8_road 8 = .ok (.iload_n 3, 1) := by decide +kernel
theorem dX8_road_9 : decode cX8_road 9 = .ok (.i2l, 1) := by decide +kernel
theorem dX8_road_10 : decode cX8_road 10 = .ok (.invokevirtual 105, 3) := by decide +kernel
theorem dX8_road_13 : decode cX8_road 13 = .ok (.ifCond .ne 5, 3) := by decide +kernel
theorem dX8_road_16 : decode cX8_road 16 = .ok (.iconst (-1), 1) := by decide +kernel
theorem dX8_road_17 : decode cX8_road 17 = .ok (.ireturn, 1) := by decide +kernel
theorem dX8_road_18 : decode cX8_road 18 = .ok (.aload_n 0, 1) := by decide +kernel
theorem dX8_road_19 : decode cX8_road 19 = .ok (.getfield 14, 3) := by decide +kernel
theorem dX8_road_22 : decode cX8_road 22 = .ok (.iload_n 1, 1) := by decide +kernel
theorem dX8_road_23 : decode cX8_road 23 = .ok (.iload_n 2, 1) := by decide +kernel
theorem dX8_road_24 : decode cX8_road 24 = .ok (.invokevirtual 108, 3) := by decide +kernel
theorem dX8_road_27 : decode cX8_road 27 = .ok (.istore 4, 2) := by decide +kernel
theorem dX8_road_29 : decode cX8_road 29 = .ok (.aload_n 0, 1) := by decide +kernel
theorem dX8_road_30 : decode cX8_road 30 = .ok (.getfield 21, 3) := by decide +kernel
theorem dX8_road_33 : decode cX8_road 33 = .ok (.aload_n 0, 1) := by decide +kernel
theorem dX8_road_34 : decode cX8_road 34 = .ok (.getfield 14, 3) := by decide +kernel
theorem dX8_road_37 : decode cX8_road 37 = .ok (.invokevirtual 87, 3) := by decide +kernel
theorem dX8_road_40 : decode cX8_road 40 = .ok (.aload_n 0, 1) := by decide +kernel
theorem dX8_road_41 : decode cX8_road 41 = .ok (.getfield 14, 3) := by decide +kernel
theorem dX8_road_44 : decode cX8_road 44 = .ok (.iload_n 1, 1) := by decide +kernel
theorem dX8_road_45 : decode cX8_road 45 = .ok (.iload_n 2, 1) := by decide +kernel
theorem dX8_road_46 : decode cX8_road 46 = .ok (.iload_n 3, 1) := by decide +kernel
theorem dX8_road_47 : decode cX8_road 47 = .ok (.invokevirtual 112, 3) := by decide +kernel
theorem dX8_road_50 : decode cX8_road 50 = .ok (.aload_n 0, 1) := by decide +kernel
theorem dX8_road_51 : decode cX8_road 51 = .ok (.invokevirtual 94, 3) := by decide +kernel
theorem dX8_road_54 : decode cX8_road 54 = .ok (.iload 4, 2) := by decide +kernel
theorem dX8_road_56 : decode cX8_road 56 = .ok (.ireturn, 1) := by decide +kernel
theorem dX8_place_0 : decode cX8_place 0 = .ok (.aload_n 0, 1) := by decide +kernel
theorem dX8_place_1 : decode cX8_place 1 = .ok (.getfield 14, 3) := by decide +kernel
theorem dX8_place_4 : decode cX8_place 4 = .ok (.iload_n 1, 1) := by decide +kernel
theorem dX8_place_5 : decode cX8_place 5 = .ok (.i2l, 1) := by decide +kernel
theorem dX8_place_6 : decode cX8_place 6 = .ok (.invokevirtual 97, 3) := by decide +kernel
theorem dX8_place_9 : decode cX8_place 9 = .ok (.ifCond .eq 27, 3) := by decide +kernel
theorem dX8_place_12 : decode cX8_place 12 = .ok (.iload_n 2, 1) := by decide +kernel
theorem dX8_place_13 : decode cX8_place 13 = .ok (.i2l, 1) := by decide +kernel
theorem dX8_place_14 : decode cX8_place 14 = .ok (.lconst 0, 1) := by decide +kernel
theorem dX8_place_15 : decode cX8_place 15 = .ok (.ldc2_w 116, 3) := by decide +kernel
theorem dX8_place_18 : decode cX8_place 18 = .ok (.invokestatic 79, 3) := by decide +kernel
theorem dX8_place_21 : decode cX8_place 21 = .ok (.ifCond .eq 15, 3) := by decide +kernel
theorem dX8_place_24 : decode cX8_place 24 = .ok (.iload_n 3, 1) := by decide +kernel
theorem dX8_place_25 : decode cX8_place 25 = .ok (.i2l, 1) := by decide +kernel
theorem dX8_place_26 : decode cX8_place 26 = .ok (.lconst 0, 1) := by decide +kernel
theorem dX8_place_27 : decode cX8_place 27 = .ok (.ldc2_w 118, 3) := by decide +kernel
theorem dX8_place_30 : decode cX8_place 30 = .ok (.invokestatic 79, 3) := by decide +kernel
theorem dX8_place_33 : decode cX8_place 33 = .ok (.ifCond .ne 5, 3) := by decide +kernel
theorem dX8_place_36 : decode cX8_place 36 = .ok (.iconst (-1), 1) := by decide +kernel
theorem dX8_place_37 : decode cX8_place 37 = .ok (.ireturn, 1) := by decide +kernel
theorem dX8_place_38 : decode cX8_place 38 = .ok (.aload_n 0, 1) := by decide +kernel
theorem dX8_place_39 : decode cX8_place 39 = .ok (.getfield 14, 3) := by decide +kernel
theorem dX8_place_42 : decode cX8_place 42 = .ok (.getfield 120, 3) := by decide +kernel
theorem dX8_place_45 : decode cX8_place 45 = .ok (.bipush 10, 2) := by decide +kernel
theorem dX8_place_47 : decode cX8_place 47 = .ok (.if_icmp .lt 6, 3) := by decide +kernel
theorem dX8_place_50 : decode cX8_place 50 = .ok (.bipush (-3), 2) := by decide +kernel
theorem dX8_place_52 : decode cX8_place 52 = .ok (.ireturn, 1) := by decide +kernel
theorem dX8_place_53 : decode cX8_place 53 = .ok (.aload_n 0, 1) := by decide +kernel
theorem dX8_place_54 : decode cX8_place 54 = .ok (.getfield 21, 3) := by decide +kernel
theorem dX8_place_57 : decode cX8_place 57 = .ok (.aload_n 0, 1) := by decide +kernel
theorem dX8_place_58 : decode cX8_place 58 = .ok (.getfield 14, 3) := by decide +kernel
theorem dX8_place_61 : decode cX8_place 61 = .ok (.invokevirtual 87, 3) := by decide +kernel
theorem dX8_place_64 : decode cX8_place 64 = .ok (.aload_n 0, 1) := by decide +kernel
theorem dX8_place_65 : decode cX8_place 65 = .ok (.getfield 14, 3) := by decide +kernel
theorem dX8_place_68 : decode cX8_place 68 = .ok (.iload_n 1, 1) := by decide +kernel
theorem dX8_place_69 : decode cX8_place 69 = .ok (.iload_n 2, 1) := by decide +kernel
theorem dX8_place_70 : decode cX8_place 70 = .ok (.iload_n 3, 1) := by decide +kernel
theorem dX8_place_71 : decode cX8_place 71 = .ok (.invokevirtual 123, 3) := by decide +kernel
theorem dX8_place_74 : decode cX8_place 74 = .ok (.istore 4, 2) := by decide +kernel
theorem dX8_place_76 : decode cX8_place 76 = .ok (.aload_n 0, 1) := by decide +kernel
theorem dX8_place_77 : decode cX8_place 77 = .ok (.invokevirtual 94, 3) := by decide +kernel
theorem dX8_place_80 : decode cX8_place 80 = .ok (.iload 4, 2) := by decide +kernel
theorem dX8_place_82 : decode cX8_place 82 = .ok (.ireturn, 1) := by decide +kernel
theorem dX8_reach_0 : decode cX8_reach 0 = .ok (.aload_n 0, 1) := by decide +kernel
theorem dX8_reach_1 : decode cX8_reach 1 = .ok (.getfield 14, 3) := by decide +kernel
theorem dX8_reach_4 : decode cX8_reach 4 = .ok (.iload_n 1, 1) := by decide +kernel
theorem dX8_reach_5 : decode cX8_reach 5 = .ok (.invokevirtual 127, 3) := by decide +kernel
theorem dX8_reach_8 : decode cX8_reach 8 = .ok (.ifCond .eq 15, 3) := by decide +kernel
theorem dX8_reach_11 : decode cX8_reach 11 = .ok (.iload_n 2, 1) := by decide +kernel
theorem dX8_reach_12 : decode cX8_reach 12 = .ok (.i2l, 1) := by decide +kernel
theorem dX8_reach_13 : decode cX8_reach 13 = .ok (.lconst 0, 1) := by decide +kernel
theorem dX8_reach_14 : decode cX8_reach 14 = .ok (.ldc2_w 131, 3) := by decide +kernel
theorem dX8_reach_17 : decode cX8_reach 17 = .ok (.invokestatic 79, 3) := by decide +kernel
theorem dX8_reach_20 : decode cX8_reach 20 = .ok (.ifCond .ne 5, 3) := by decide +kernel
theorem dX8_reach_23 : decode cX8_reach 23 = .ok (.iconst (-1), 1) := by decide +kernel
theorem dX8_reach_24 : decode cX8_reach 24 = .ok (.ireturn, 1) := by decide +kernel
theorem dX8_reach_25 : decode cX8_reach 25 = .ok (.aload_n 0, 1) := by decide +kernel
theorem dX8_reach_26 : decode cX8_reach 26 = .ok (.getfield 14, 3) := by decide +kernel
theorem dX8_reach_29 : decode cX8_reach 29 = .ok (.getfield 133, 3) := by decide +kernel
theorem dX8_reach_32 : decode cX8_reach 32 = .ok (.iload_n 1, 1) := by decide +kernel
theorem dX8_reach_33 : decode cX8_reach 33 = .ok (.iaload, 1) := by decide +kernel
theorem dX8_reach_34 : decode cX8_reach 34 = .ok (.iconst 4, 1) := by decide +kernel
theorem dX8_reach_35 : decode cX8_reach 35 = .ok (.if_icmp .eq 6, 3) := by decide +kernel
theorem dX8_reach_38 : decode cX8_reach 38 = .ok (.bipush (-2), 2) := by decide +kernel
theorem dX8_reach_40 : decode cX8_reach 40 = .ok (.ireturn, 1) := by decide +kernel
theorem dX8_reach_41 : decode cX8_reach 41 = .ok (.aload_n 0, 1) := by decide +kernel
theorem dX8_reach_42 : decode cX8_reach 42 = .ok (.getfield 14, 3) := by decide +kernel
theorem dX8_reach_45 : decode cX8_reach 45 = .ok (.getfield 136, 3) := by decide +kernel
theorem dX8_reach_48 : decode cX8_reach 48 = .ok (.iload_n 1, 1) := by decide +kernel
theorem dX8_reach_49 : decode cX8_reach 49 = .ok (.iaload, 1) := by decide +kernel
theorem dX8_reach_50 : decode cX8_reach 50 = .ok (.istore_n 3, 1) := by decide +kernel
theorem dX8_reach_51 : decode cX8_reach 51 = .ok (.aload_n 0, 1) := by decide +kernel
theorem dX8_reach_52 : decode cX8_reach 52 = .ok (.getfield 21, 3) := by decide +kernel
theorem dX8_reach_55 : decode cX8_reach 55 = .ok (.aload_n 0, 1) := by decide +kernel
theorem dX8_reach_56 : decode cX8_reach 56 = .ok (.getfield 14, 3) := by decide +kernel
theorem dX8_reach_59 : decode cX8_reach 59 = .ok (.invokevirtual 87, 3) := by decide +kernel
theorem dX8_reach_62 : decode cX8_reach 62 = .ok (.aload_n 0, 1) := by decide +kernel
theorem dX8_reach_63 : decode cX8_reach 63 = .ok (.getfield 14, 3) := by decide +kernel
theorem dX8_reach_66 : decode cX8_reach 66 = .ok (.getfield 136, 3) := by decide +kernel
theorem dX8_reach_69 : decode cX8_reach 69 = .ok (.iload_n 1, 1) := by decide +kernel
theorem dX8_reach_70 : decode cX8_reach 70 = .ok (.iload_n 2, 1) := by decide +kernel
theorem dX8_reach_71 : decode cX8_reach 71 = .ok (.iastore, 1) := by decide +kernel
theorem dX8_reach_72 : decode cX8_reach 72 = .ok (.aload_n 0, 1) := by decide +kernel
theorem dX8_reach_73 : decode cX8_reach 73 = .ok (.invokevirtual 94, 3) := by decide +kernel
theorem dX8_reach_76 : decode cX8_reach 76 = .ok (.iload_n 3, 1) := by decide +kernel
theorem dX8_reach_77 : decode cX8_reach 77 = .ok (.ireturn, 1) := by decide +kernel
theorem dX8_number_0 : decode cX8_number 0 = .ok (.iload_n 1, 1) := by decide +kernel
theorem dX8_number_1 : decode cX8_number 1 = .ok (.i2l, 1) := by decide +kernel
theorem dX8_number_2 : decode cX8_number 2 = .ok (.lconst 0, 1) := by decide +kernel
theorem dX8_number_3 : decode cX8_number 3 = .ok (.ldc2_w 139, 3) := by decide +kernel
theorem dX8_number_6 : decode cX8_number 6 = .ok (.invokestatic 79, 3) := by decide +kernel
theorem dX8_number_9 : decode cX8_number 9 = .ok (.ifCond .ne 5, 3) := by decide +kernel
theorem dX8_number_12 : decode cX8_number 12 = .ok (.iconst (-1), 1) := by decide +kernel
theorem dX8_number_13 : decode cX8_number 13 = .ok (.ireturn, 1) := by decide +kernel
theorem dX8_number_14 : decode cX8_number 14 = .ok (.aload_n 0, 1) := by decide +kernel
theorem dX8_number_15 : decode cX8_number 15 = .ok (.getfield 14, 3) := by decide +kernel
theorem dX8_number_18 : decode cX8_number 18 = .ok (.getfield 141, 3) := by decide +kernel
theorem dX8_number_21 : decode cX8_number 21 = .ok (.istore_n 2, 1) := by decide +kernel
theorem dX8_number_22 : decode cX8_number 22 = .ok (.aload_n 0, 1) := by decide +kernel
theorem dX8_number_23 : decode cX8_number 23 = .ok (.getfield 21, 3) := by decide +kernel
theorem dX8_number_26 : decode cX8_number 26 = .ok (.aload_n 0, 1) := by decide +kernel
theorem dX8_number_27 : decode cX8_number 27 = .ok (.getfield 14, 3) := by decide +kernel
theorem dX8_number_30 : decode cX8_number 30 = .ok (.invokevirtual 87, 3) := by decide +kernel
theorem dX8_number_33 : decode cX8_number 33 = .ok (.aload_n 0, 1) := by decide +kernel
theorem dX8_number_34 : decode cX8_number 34 = .ok (.getfield 14, 3) := by decide +kernel
theorem dX8_number_37 : decode cX8_number 37 = .ok (.iload_n 1, 1) := by decide +kernel
theorem dX8_number_38 : decode cX8_number 38 = .ok (.putfield 141, 3) := by decide +kernel
theorem dX8_number_41 : decode cX8_number 41 = .ok (.aload_n 0, 1) := by decide +kernel
theorem dX8_number_42 : decode cX8_number 42 = .ok (.invokevirtual 94, 3) := by decide +kernel
theorem dX8_number_45 : decode cX8_number 45 = .ok (.iload_n 2, 1) := by decide +kernel
theorem dX8_number_46 : decode cX8_number 46 = .ok (.ireturn, 1) := by decide +kernel
theorem dX8_map_0 : decode cX8_map 0 = .ok (.iload_n 1, 1) := by decide +kernel
theorem dX8_map_1 : decode cX8_map 1 = .ok (.invokestatic 144, 3) := by decide +kernel
theorem dX8_map_4 : decode cX8_map 4 = .ok (.ifCond .eq 16, 3) := by decide +kernel
theorem dX8_map_7 : decode cX8_map 7 = .ok (.iload_n 2, 1) := by decide +kernel
theorem dX8_map_8 : decode cX8_map 8 = .ok (.invokestatic 147, 3) := by decide +kernel
theorem dX8_map_11 : decode cX8_map 11 = .ok (.ifCond .eq 9, 3) := by decide +kernel
theorem dX8_map_14 : decode cX8_map 14 = .ok (.iload_n 3, 1) := by decide +kernel
theorem dX8_map_15 : decode cX8_map 15 = .ok (.bipush 60, 2) := by decide +kernel
theorem dX8_map_17 : decode cX8_map 17 = .ok (.if_icmp .le 5, 3) := by decide +kernel
theorem dX8_map_20 : decode cX8_map 20 = .ok (.iconst (-1), 1) := by decide +kernel
theorem dX8_map_21 : decode cX8_map 21 = .ok (.ireturn, 1) := by decide +kernel
theorem dX8_map_22 : decode cX8_map 22 = .ok (.iload_n 3, 1) := by decide +kernel
theorem dX8_map_23 : decode cX8_map 23 = .ok (.ifCond .ge 6, 3) := by decide +kernel
theorem dX8_map_26 : decode cX8_map 26 = .ok (.bipush (-14), 2) := by decide +kernel
theorem dX8_map_28 : decode cX8_map 28 = .ok (.ireturn, 1) := by decide +kernel
theorem dX8_map_29 : decode cX8_map 29 = .ok (.aload_n 0, 1) := by decide +kernel
theorem dX8_map_30 : decode cX8_map 30 = .ok (.getfield 27, 3) := by decide +kernel
theorem dX8_map_33 : decode cX8_map 33 = .ok (.iload_n 1, 1) := by decide +kernel
theorem dX8_map_34 : decode cX8_map 34 = .ok (.aaload, 1) := by decide +kernel
theorem dX8_map_35 : decode cX8_map 35 = .ok (.iload_n 2, 1) := by decide +kernel
theorem dX8_map_36 : decode cX8_map 36 = .ok (.iload_n 3, 1) := by decide +kernel
theorem dX8_map_37 : decode cX8_map 37 = .ok (.invokevirtual 150, 3) := by decide +kernel
theorem dX8_map_40 : decode cX8_map 40 = .ok (.iconst 1, 1) := by decide +kernel
theorem dX8_map_41 : decode cX8_map 41 = .ok (.ireturn, 1) := by decide +kernel
theorem dX8_lay_0 : decode cX8_lay 0 = .ok (.iload_n 1, 1) := by decide +kernel
theorem dX8_lay_1 : decode cX8_lay 1 = .ok (.invokestatic 144, 3) := by decide +kernel
theorem dX8_lay_4 : decode cX8_lay 4 = .ok (.ifCond .ne 5, 3) := by decide +kernel
theorem dX8_lay_7 : decode cX8_lay 7 = .ok (.iconst (-1), 1) := by decide +kernel
theorem dX8_lay_8 : decode cX8_lay 8 = .ok (.ireturn, 1) := by decide +kernel
theorem dX8_lay_9 : decode cX8_lay 9 = .ok (.aload_n 0, 1) := by decide +kernel
theorem dX8_lay_10 : decode cX8_lay 10 = .ok (.getfield 27, 3) := by decide +kernel
theorem dX8_lay_13 : decode cX8_lay 13 = .ok (.iload_n 1, 1) := by decide +kernel
theorem dX8_lay_14 : decode cX8_lay 14 = .ok (.aaload, 1) := by decide +kernel
theorem dX8_lay_15 : decode cX8_lay 15 = .ok (.getfield 154, 3) := by decide +kernel
theorem dX8_lay_18 : decode cX8_lay 18 = .ok (.iconst (-1), 1) := by decide +kernel
theorem dX8_lay_19 : decode cX8_lay 19 = .ok (.if_icmp .ne 6, 3) := by decide +kernel
theorem dX8_lay_22 : decode cX8_lay 22 = .ok (.bipush (-11), 2) := by decide +kernel
theorem dX8_lay_24 : decode cX8_lay 24 = .ok (.ireturn, 1) := by decide +kernel
theorem dX8_lay_25 : decode cX8_lay 25 = .ok (.iload_n 2, 1) := by decide +kernel
theorem dX8_lay_26 : decode cX8_lay 26 = .ok (.i2l, 1) := by decide +kernel
theorem dX8_lay_27 : decode cX8_lay 27 = .ok (.lconst 0, 1) := by decide +kernel
theorem dX8_lay_28 : decode cX8_lay 28 = .ok (.aload_n 0, 1) := by decide +kernel
theorem dX8_lay_29 : decode cX8_lay 29 = .ok (.getfield 27, 3) := by decide +kernel
theorem dX8_lay_32 : decode cX8_lay 32 = .ok (.iload_n 1, 1) := by decide +kernel
theorem dX8_lay_33 : decode cX8_lay 33 = .ok (.aaload, 1) := by decide +kernel
theorem dX8_lay_34 : decode cX8_lay 34 = .ok (.getfield 157, 3) := by decide +kernel
theorem dX8_lay_37 : decode cX8_lay 37 = .ok (.iconst 1, 1) := by decide +kernel
theorem dX8_lay_38 : decode cX8_lay 38 = .ok (.isub, 1) := by decide +kernel
theorem dX8_lay_39 : decode cX8_lay 39 = .ok (.i2l, 1) := by decide +kernel
theorem dX8_lay_40 : decode cX8_lay 40 = .ok (.invokestatic 79, 3) := by decide +kernel
theorem dX8_lay_43 : decode cX8_lay 43 = .ok (.ifCond .ne 6, 3) := by decide +kernel
theorem dX8_lay_46 : decode cX8_lay 46 = .ok (.bipush (-12), 2) := by decide +kernel
theorem dX8_lay_48 : decode cX8_lay 48 = .ok (.ireturn, 1) := by decide +kernel
theorem dX8_lay_49 : decode cX8_lay 49 = .ok (.aload_n 0, 1) := by decide +kernel
theorem dX8_lay_50 : decode cX8_lay 50 = .ok (.getfield 27, 3) := by decide +kernel
theorem dX8_lay_53 : decode cX8_lay 53 = .ok (.iload_n 1, 1) := by decide +kernel
theorem dX8_lay_54 : decode cX8_lay 54 = .ok (.aaload, 1) := by decide +kernel
theorem dX8_lay_55 : decode cX8_lay 55 = .ok (.iload_n 2, 1) := by decide +kernel
theorem dX8_lay_56 : decode cX8_lay 56 = .ok (.lload_n 3, 1) := by decide +kernel
theorem dX8_lay_57 : decode cX8_lay 57 = .ok (.invokevirtual 160, 3) := by decide +kernel
theorem dX8_lay_60 : decode cX8_lay 60 = .ok (.iconst 1, 1) := by decide +kernel
theorem dX8_lay_61 : decode cX8_lay 61 = .ok (.ireturn, 1) := by decide +kernel
theorem dX8_draw_0 : decode cX8_draw 0 = .ok (.iload_n 1, 1) := by decide +kernel
theorem dX8_draw_1 : decode cX8_draw 1 = .ok (.invokestatic 144, 3) := by decide +kernel
theorem dX8_draw_4 : decode cX8_draw 4 = .ok (.ifCond .eq 14, 3) := by decide +kernel
theorem dX8_draw_7 : decode cX8_draw 7 = .ok (.iload_n 2, 1) := by decide +kernel
theorem dX8_draw_8 : decode cX8_draw 8 = .ok (.invokestatic 147, 3) := by decide +kernel
theorem dX8_draw_11 : decode cX8_draw 11 = .ok (.ifCond .eq 7, 3) := by decide +kernel
theorem dX8_draw_14 : decode cX8_draw 14 = .ok (.iload_n 3, 1) := by decide +kernel
theorem dX8_draw_15 : decode cX8_draw 15 = .ok (.ifCond .ge 5, 3) := by decide +kernel
theorem dX8_draw_18 : decode cX8_draw 18 = .ok (.iconst (-1), 1) := by decide +kernel
theorem dX8_draw_19 : decode cX8_draw 19 = .ok (.ireturn, 1) := by decide +kernel
theorem dX8_draw_20 : decode cX8_draw 20 = .ok (.aload_n 0, 1) := by decide +kernel
theorem dX8_draw_21 : decode cX8_draw 21 = .ok (.aload_n 0, 1) := by decide +kernel
theorem dX8_draw_22 : decode cX8_draw 22 = .ok (.getfield 27, 3) := by decide +kernel
theorem dX8_draw_25 : decode cX8_draw 25 = .ok (.iload_n 1, 1) := by decide +kernel
theorem dX8_draw_26 : decode cX8_draw 26 = .ok (.aaload, 1) := by decide +kernel
theorem dX8_draw_27 : decode cX8_draw 27 = .ok (.iload_n 2, 1) := by decide +kernel
theorem dX8_draw_28 : decode cX8_draw 28 = .ok (.iload_n 3, 1) := by decide +kernel
theorem dX8_draw_29 : decode cX8_draw 29 = .ok (.invokevirtual 164, 3) := by decide +kernel
theorem dX8_draw_32 : decode cX8_draw 32 = .ok (.istore 4, 2) := by decide +kernel
theorem dX8_draw_34 : decode cX8_draw 34 = .ok (.iload 4, 2) := by decide +kernel
theorem dX8_draw_36 : decode cX8_draw 36 = .ok (.ifCond .ge 6, 3) := by decide +kernel
theorem dX8_draw_39 : decode cX8_draw 39 = .ok (.iload 4, 2) := by decide +kernel
theorem dX8_draw_41 : decode cX8_draw 41 = .ok (.ireturn, 1) := by decide +kernel
theorem dX8_draw_42 : decode cX8_draw 42 = .ok (.aload_n 0, 1) := by decide +kernel
theorem dX8_draw_43 : decode cX8_draw 43 = .ok (.getfield 21, 3) := by decide +kernel
theorem dX8_draw_46 : decode cX8_draw 46 = .ok (.aload_n 0, 1) := by decide +kernel
theorem dX8_draw_47 : decode cX8_draw 47 = .ok (.getfield 14, 3) := by decide +kernel
theorem dX8_draw_50 : decode cX8_draw 50 = .ok (.invokevirtual 87, 3) := by decide +kernel
theorem dX8_draw_53 : decode cX8_draw 53 = .ok (.aload_n 0, 1) := by decide +kernel
theorem dX8_draw_54 : decode cX8_draw 54 = .ok (.aload_n 0, 1) := by decide +kernel
theorem dX8_draw_55 : decode cX8_draw 55 = .ok (.getfield 27, 3) := by decide +kernel
theorem dX8_draw_58 : decode cX8_draw 58 = .ok (.iload_n 1, 1) := by decide +kernel
theorem dX8_draw_59 : decode cX8_draw 59 = .ok (.aaload, 1) := by decide +kernel
theorem dX8_draw_60 : decode cX8_draw 60 = .ok (.iload_n 3, 1) := by decide +kernel
theorem dX8_draw_61 : decode cX8_draw 61 = .ok (.invokevirtual 168, 3) := by decide +kernel
theorem dX8_draw_64 : decode cX8_draw 64 = .ok (.aload_n 0, 1) := by decide +kernel
theorem dX8_draw_65 : decode cX8_draw 65 = .ok (.invokevirtual 94, 3) := by decide +kernel
theorem dX8_draw_68 : decode cX8_draw 68 = .ok (.iload_n 3, 1) := by decide +kernel
theorem dX8_draw_69 : decode cX8_draw 69 = .ok (.ireturn, 1) := by decide +kernel
theorem dX8_apart_0 : decode cX8_apart 0 = .ok (.aload_n 0, 1) := by decide +kernel
theorem dX8_apart_1 : decode cX8_apart 1 = .ok (.getfield 14, 3) := by decide +kernel
theorem dX8_apart_4 : decode cX8_apart 4 = .ok (.iload_n 1, 1) := by decide +kernel
theorem dX8_apart_5 : decode cX8_apart 5 = .ok (.i2l, 1) := by decide +kernel
theorem dX8_apart_6 : decode cX8_apart 6 = .ok (.invokevirtual 97, 3) := by decide +kernel
theorem dX8_apart_9 : decode cX8_apart 9 = .ok (.ifCond .eq 15, 3) := by decide +kernel
theorem dX8_apart_12 : decode cX8_apart 12 = .ok (.aload_n 0, 1) := by decide +kernel
theorem dX8_apart_13 : decode cX8_apart 13 = .ok (.getfield 14, 3) := by decide +kernel
theorem dX8_apart_16 : decode cX8_apart 16 = .ok (.iload_n 2, 1) := by decide +kernel
theorem dX8_apart_17 : decode cX8_apart 17 = .ok (.i2l, 1) := by decide +kernel
theorem dX8_apart_18 : decode cX8_apart 18 = .ok (.invokevirtual 97, 3) := by decide +kernel
theorem dX8_apart_21 : decode cX8_apart 21 = .ok (.ifCond .ne 5, 3) := by decide +kernel
theorem dX8_apart_24 : decode cX8_apart 24 = .ok (.iconst (-1), 1) := by decide +kernel
theorem dX8_apart_25 : decode cX8_apart 25 = .ok (.ireturn, 1) := by decide +kernel
theorem dX8_apart_26 : decode cX8_apart 26 = .ok (.aload_n 0, 1) := by decide +kernel
theorem dX8_apart_27 : decode cX8_apart 27 = .ok (.getfield 34, 3) := by decide +kernel
theorem dX8_apart_30 : decode cX8_apart 30 = .ok (.iload_n 1, 1) := by decide +kernel
theorem dX8_apart_31 : decode cX8_apart 31 = .ok (.iload_n 2, 1) := by decide +kernel
theorem dX8_apart_32 : decode cX8_apart 32 = .ok (.invokevirtual 172, 3) := by decide +kernel
theorem dX8_apart_35 : decode cX8_apart 35 = .ok (.istore_n 3, 1) := by decide +kernel
theorem dX8_apart_36 : decode cX8_apart 36 = .ok (.iload_n 3, 1) := by decide +kernel
theorem dX8_apart_37 : decode cX8_apart 37 = .ok (.ldc 175, 2) := by decide +kernel
theorem dX8_apart_39 : decode cX8_apart 39 = .ok (.if_icmp .ne 8, 3) := by decide +kernel
theorem dX8_apart_42 : decode cX8_apart 42 = .ok (.bipush (-4), 2) := by decide +kernel
theorem dX8_apart_44 : decode cX8_apart 44 = .ok (.goto 4, 3) := by decide +kernel
theorem dX8_apart_47 : decode cX8_apart 47 = .ok (.iload_n 3, 1) := by decide +kernel
theorem dX8_apart_48 : decode cX8_apart 48 = .ok (.ireturn, 1) := by decide +kernel
theorem dX8_way_0 : decode cX8_way 0 = .ok (.aload_n 0, 1) := by decide +kernel
theorem dX8_way_1 : decode cX8_way 1 = .ok (.getfield 14, 3) := by decide +kernel
theorem dX8_way_4 : decode cX8_way 4 = .ok (.iload_n 1, 1) := by decide +kernel
theorem dX8_way_5 : decode cX8_way 5 = .ok (.i2l, 1) := by decide +kernel
theorem dX8_way_6 : decode cX8_way 6 = .ok (.invokevirtual 97, 3) := by decide +kernel
theorem dX8_way_9 : decode cX8_way 9 = .ok (.ifCond .eq 19, 3) := by decide +kernel
theorem dX8_way_12 : decode cX8_way 12 = .ok (.aload_n 0, 1) := by decide +kernel
theorem dX8_way_13 : decode cX8_way 13 = .ok (.getfield 14, 3) := by decide +kernel
theorem dX8_way_16 : decode cX8_way 16 = .ok (.iload_n 2, 1) := by decide +kernel
theorem dX8_way_17 : decode cX8_way 17 = .ok (.i2l, 1) := by decide +kernel
theorem dX8_way_18 : decode cX8_way 18 = .ok (.invokevirtual 97, 3) := by decide +kernel
theorem dX8_way_21 : decode cX8_way 21 = .ok (.ifCond .eq 7, 3) := by decide +kernel
theorem dX8_way_24 : decode cX8_way 24 = .ok (.iload_n 3, 1) := by decide +kernel
theorem dX8_way_25 : decode cX8_way 25 = .ok (.ifCond .ge 5, 3) := by decide +kernel
theorem dX8_way_28 : decode cX8_way 28 = .ok (.iconst (-1), 1) := by decide +kernel
theorem dX8_way_29 : decode cX8_way 29 = .ok (.ireturn, 1) := by decide +kernel
theorem dX8_way_30 : decode cX8_way 30 = .ok (.aload_n 0, 1) := by decide +kernel
theorem dX8_way_31 : decode cX8_way 31 = .ok (.getfield 34, 3) := by decide +kernel
theorem dX8_way_34 : decode cX8_way 34 = .ok (.iload_n 1, 1) := by decide +kernel
theorem dX8_way_35 : decode cX8_way 35 = .ok (.iload_n 2, 1) := by decide +kernel
theorem dX8_way_36 : decode cX8_way 36 = .ok (.invokevirtual 172, 3) := by decide +kernel
theorem dX8_way_39 : decode cX8_way 39 = .ok (.ldc 175, 2) := by decide +kernel
theorem dX8_way_41 : decode cX8_way 41 = .ok (.if_icmp .ne 8, 3) := by decide +kernel
theorem dX8_way_44 : decode cX8_way 44 = .ok (.bipush (-4), 2) := by decide +kernel
theorem dX8_way_46 : decode cX8_way 46 = .ok (.goto 17, 3) := by decide +kernel
theorem dX8_way_49 : decode cX8_way 49 = .ok (.aload_n 0, 1) := by decide +kernel
theorem dX8_way_50 : decode cX8_way 50 = .ok (.getfield 34, 3) := by decide +kernel
theorem dX8_way_53 : decode cX8_way 53 = .ok (.aload_n 0, 1) := by decide +kernel
theorem dX8_way_54 : decode cX8_way 54 = .ok (.getfield 14, 3) := by decide +kernel
theorem dX8_way_57 : decode cX8_way 57 = .ok (.iload_n 1, 1) := by decide +kernel
theorem dX8_way_58 : decode cX8_way 58 = .ok (.iload_n 2, 1) := by decide +kernel
theorem dX8_way_59 : decode cX8_way 59 = .ok (.iload_n 3, 1) := by decide +kernel
theorem dX8_way_60 : decode cX8_way 60 = .ok (.invokevirtual 176, 3) := by decide +kernel
theorem dX8_way_63 : decode cX8_way 63 = .ok (.ireturn, 1) := by decide +kernel
theorem dX8_allowed_0 : decode cX8_allowed 0 = .ok (.aload_n 0, 1) := by decide +kernel
theorem dX8_allowed_1 : decode cX8_allowed 1 = .ok (.getfield 43, 3) := by decide +kernel
theorem dX8_allowed_4 : decode cX8_allowed 4 = .ok (.iload_n 1, 1) := by decide +kernel
theorem dX8_allowed_5 : decode cX8_allowed 5 = .ok (.invokevirtual 180, 3) := by decide +kernel
theorem dX8_allowed_8 : decode cX8_allowed 8 = .ok (.ifCond .ne 5, 3) := by decide +kernel
theorem dX8_allowed_11 : decode cX8_allowed 11 = .ok (.iconst (-1), 1) := by decide +kernel
theorem dX8_allowed_12 : decode cX8_allowed 12 = .ok (.ireturn, 1) := by decide +kernel
theorem dX8_allowed_13 : decode cX8_allowed 13 = .ok (.aload_n 0, 1) := by decide +kernel
theorem dX8_allowed_14 : decode cX8_allowed 14 = .ok (.getfield 43, 3) := by decide +kernel
theorem dX8_allowed_17 : decode cX8_allowed 17 = .ok (.iload_n 1, 1) := by decide +kernel
theorem dX8_allowed_18 : decode cX8_allowed 18 = .ok (.invokevirtual 183, 3) := by decide +kernel
theorem dX8_allowed_21 : decode cX8_allowed 21 = .ok (.ifCond .eq 7, 3) := by decide +kernel
theorem dX8_allowed_24 : decode cX8_allowed 24 = .ok (.iconst 1, 1) := by decide +kernel
theorem dX8_allowed_25 : decode cX8_allowed 25 = .ok (.goto 4, 3) := by decide +kernel
theorem dX8_allowed_28 : decode cX8_allowed 28 = .ok (.iconst 0, 1) := by decide +kernel
theorem dX8_allowed_29 : decode cX8_allowed 29 = .ok (.ireturn, 1) := by decide +kernel
theorem dX8_cost_0 : decode cX8_cost 0 = .ok (.aload_n 0, 1) := by decide +kernel
theorem dX8_cost_1 : decode cX8_cost 1 = .ok (.getfield 43, 3) := by decide +kernel
theorem dX8_cost_4 : decode cX8_cost 4 = .ok (.iload_n 1, 1) := by decide +kernel
theorem dX8_cost_5 : decode cX8_cost 5 = .ok (.invokevirtual 180, 3) := by decide +kernel
theorem dX8_cost_8 : decode cX8_cost 8 = .ok (.ifCond .ne 7, 3) := by decide +kernel
theorem dX8_cost_11 : decode cX8_cost 11 = .ok (.ldc2_w 186, 3) := by decide +kernel
theorem dX8_cost_14 : decode cX8_cost 14 = .ok (.lreturn, 1) := by decide +kernel
theorem dX8_cost_15 : decode cX8_cost 15 = .ok (.aload_n 0, 1) := by decide +kernel
theorem dX8_cost_16 : decode cX8_cost 16 = .ok (.getfield 43, 3) := by decide +kernel
theorem dX8_cost_19 : decode cX8_cost 19 = .ok (.iload_n 1, 1) := by decide +kernel
theorem dX8_cost_20 : decode cX8_cost 20 = .ok (.invokevirtual 188, 3) := by decide +kernel
theorem dX8_cost_23 : decode cX8_cost 23 = .ok (.lstore_n 2, 1) := by decide +kernel
theorem dX8_cost_24 : decode cX8_cost 24 = .ok (.lload_n 2, 1) := by decide +kernel
theorem dX8_cost_25 : decode cX8_cost 25 = .ok (.ldc2_w 192, 3) := by decide +kernel
theorem dX8_cost_28 : decode cX8_cost 28 = .ok (.lcmp, 1) := by decide +kernel
theorem dX8_cost_29 : decode cX8_cost 29 = .ok (.ifCond .ge 7, 3) := by decide +kernel
theorem dX8_cost_32 : decode cX8_cost 32 = .ok (.lload_n 2, 1) := by decide +kernel
theorem dX8_cost_33 : decode cX8_cost 33 = .ok (.goto 6, 3) := by decide +kernel
theorem dX8_cost_36 : decode cX8_cost 36 = .ok (.ldc2_w 194, 3) := by decide +kernel
theorem dX8_cost_39 : decode cX8_cost 39 = .ok (.lreturn, 1) := by decide +kernel
theorem dX8_served_0 : decode cX8_served 0 = .ok (.aload_n 0, 1) := by decide +kernel
theorem dX8_served_1 : decode cX8_served 1 = .ok (.getfield 43, 3) := by decide +kernel
theorem dX8_served_4 : decode cX8_served 4 = .ok (.iload_n 1, 1) := by decide +kernel
theorem dX8_served_5 : decode cX8_served 5 = .ok (.invokevirtual 180, 3) := by decide +kernel
theorem dX8_served_8 : decode cX8_served 8 = .ok (.ifCond .eq 15, 3) := by decide +kernel
theorem dX8_served_11 : decode cX8_served 11 = .ok (.aload_n 0, 1) := by decide +kernel
theorem dX8_served_12 : decode cX8_served 12 = .ok (.getfield 14, 3) := by decide +kernel
theorem dX8_served_15 : decode cX8_served 15 = .ok (.iload_n 2, 1) := by decide +kernel
theorem dX8_served_16 : decode cX8_served 16 = .ok (.i2l, 1) := by decide +kernel
theorem dX8_served_17 : decode cX8_served 17 = .ok (.invokevirtual 97, 3) := by decide +kernel
theorem dX8_served_20 : decode cX8_served 20 = .ok (.ifCond .ne 5, 3) := by decide +kernel
theorem dX8_served_23 : decode cX8_served 23 = .ok (.iconst (-1), 1) := by decide +kernel
theorem dX8_served_24 : decode cX8_served 24 = .ok (.ireturn, 1) := by decide +kernel
theorem dX8_served_25 : decode cX8_served 25 = .ok (.aload_n 0, 1) := by decide +kernel
theorem dX8_served_26 : decode cX8_served 26 = .ok (.getfield 43, 3) := by decide +kernel
theorem dX8_served_29 : decode cX8_served 29 = .ok (.iload_n 1, 1) := by decide +kernel
theorem dX8_served_30 : decode cX8_served 30 = .ok (.iload_n 2, 1) := by decide +kernel
theorem dX8_served_31 : decode cX8_served 31 = .ok (.invokevirtual 196, 3) := by decide +kernel
theorem dX8_served_34 : decode cX8_served 34 = .ok (.ireturn, 1) := by decide +kernel
theorem dX8_share_0 : decode cX8_share 0 = .ok (.aload_n 0, 1) := by decide +kernel
theorem dX8_share_1 : decode cX8_share 1 = .ok (.getfield 43, 3) := by decide +kernel
theorem dX8_share_4 : decode cX8_share 4 = .ok (.iload_n 1, 1) := by decide +kernel
theorem dX8_share_5 : decode cX8_share 5 = .ok (.invokevirtual 180, 3) := by decide +kernel
theorem dX8_share_8 : decode cX8_share 8 = .ok (.ifCond .eq 26, 3) := by decide +kernel
theorem dX8_share_11 : decode cX8_share 11 = .ok (.aload_n 0, 1) := by decide +kernel
theorem dX8_share_12 : decode cX8_share 12 = .ok (.getfield 14, 3) := by decide +kernel
theorem dX8_share_15 : decode cX8_share 15 = .ok (.iload_n 2, 1) := by decide +kernel
theorem dX8_share_16 : decode cX8_share 16 = .ok (.invokevirtual 127, 3) := by decide +kernel
theorem dX8_share_19 : decode cX8_share 19 = .ok (.ifCond .eq 15, 3) := by decide +kernel
theorem dX8_share_22 : decode cX8_share 22 = .ok (.iload_n 3, 1) := by decide +kernel
theorem dX8_share_23 : decode cX8_share 23 = .ok (.i2l, 1) := by decide +kernel
theorem dX8_share_24 : decode cX8_share 24 = .ok (.lconst 0, 1) := by decide +kernel
theorem dX8_share_25 : decode cX8_share 25 = .ok (.ldc2_w 199, 3) := by decide +kernel
theorem dX8_share_28 : decode cX8_share 28 = .ok (.invokestatic 79, 3) := by decide +kernel
theorem dX8_share_31 : decode cX8_share 31 = .ok (.ifCond .ne 5, 3) := by decide +kernel
theorem dX8_share_34 : decode cX8_share 34 = .ok (.iconst (-1), 1) := by decide +kernel
theorem dX8_share_35 : decode cX8_share 35 = .ok (.ireturn, 1) := by decide +kernel
theorem dX8_share_36 : decode cX8_share 36 = .ok (.iload_n 1, 1) := by decide +kernel
theorem dX8_share_37 : decode cX8_share 37 = .ok (.iload_n 2, 1) := by decide +kernel
theorem dX8_share_38 : decode cX8_share 38 = .ok (.invokestatic 201, 3) := by decide +kernel
theorem dX8_share_41 : decode cX8_share 41 = .ok (.ifCond .ne 6, 3) := by decide +kernel
theorem dX8_share_44 : decode cX8_share 44 = .ok (.bipush (-2), 2) := by decide +kernel
theorem dX8_share_46 : decode cX8_share 46 = .ok (.ireturn, 1) := by decide +kernel
theorem dX8_share_47 : decode cX8_share 47 = .ok (.iload_n 3, 1) := by decide +kernel
theorem dX8_share_48 : decode cX8_share 48 = .ok (.lookupswitch 48 #[(0, 28), (1, 38)], 28) := by decide +kernel
theorem dX8_share_76 : decode cX8_share 76 = .ok (.aload_n 0, 1) := by decide +kernel
theorem dX8_share_77 : decode cX8_share 77 = .ok (.getfield 43, 3) := by decide +kernel
theorem dX8_share_80 : decode cX8_share 80 = .ok (.iload_n 1, 1) := by decide +kernel
theorem dX8_share_81 : decode cX8_share 81 = .ok (.iload_n 2, 1) := by decide +kernel
theorem dX8_share_82 : decode cX8_share 82 = .ok (.invokevirtual 205, 3) := by decide +kernel
theorem dX8_share_85 : decode cX8_share 85 = .ok (.ireturn, 1) := by decide +kernel
theorem dX8_share_86 : decode cX8_share 86 = .ok (.aload_n 0, 1) := by decide +kernel
theorem dX8_share_87 : decode cX8_share 87 = .ok (.getfield 43, 3) := by decide +kernel
theorem dX8_share_90 : decode cX8_share 90 = .ok (.iload_n 1, 1) := by decide +kernel
theorem dX8_share_91 : decode cX8_share 91 = .ok (.iload_n 2, 1) := by decide +kernel
theorem dX8_share_92 : decode cX8_share 92 = .ok (.invokevirtual 208, 3) := by decide +kernel
theorem dX8_share_95 : decode cX8_share 95 = .ok (.ireturn, 1) := by decide +kernel
theorem dX8_share_96 : decode cX8_share 96 = .ok (.aload_n 0, 1) := by decide +kernel
theorem dX8_share_97 : decode cX8_share 97 = .ok (.getfield 43, 3) := by decide +kernel
theorem dX8_share_100 : decode cX8_share 100 = .ok (.iload_n 1, 1) := by decide +kernel
theorem dX8_share_101 : decode cX8_share 101 = .ok (.iload_n 2, 1) := by decide +kernel
theorem dX8_share_102 : decode cX8_share 102 = .ok (.invokevirtual 211, 3) := by decide +kernel
theorem dX8_share_105 : decode cX8_share 105 = .ok (.ireturn, 1) := by decide +kernel
theorem dX8_least_0 : decode cX8_least 0 = .ok (.aload_n 0, 1) := by decide +kernel
theorem dX8_least_1 : decode cX8_least 1 = .ok (.invokevirtual 214, 3) := by decide +kernel
theorem dX8_least_4 : decode cX8_least 4 = .ok (.aload_n 0, 1) := by decide +kernel
theorem dX8_least_5 : decode cX8_least 5 = .ok (.getfield 50, 3) := by decide +kernel
theorem dX8_least_8 : decode cX8_least 8 = .ok (.getfield 217, 3) := by decide +kernel
theorem dX8_least_11 : decode cX8_least 11 = .ok (.ifCond .ne 9, 3) := by decide +kernel
theorem dX8_least_14 : decode cX8_least 14 = .ok (.ldc2_w 194, 3) := by decide +kernel
theorem dX8_least_17 : decode cX8_least 17 = .ok (.goto 10, 3) := by decide +kernel
theorem dX8_least_20 : decode cX8_least 20 = .ok (.aload_n 0, 1) := by decide +kernel
theorem dX8_least_21 : decode cX8_least 21 = .ok (.getfield 50, 3) := by decide +kernel
theorem dX8_least_24 : decode cX8_least 24 = .ok (.getfield 220, 3) := by decide +kernel
theorem dX8_least_27 : decode cX8_least 27 = .ok (.lreturn, 1) := by decide +kernel
theorem dX8_best_0 : decode cX8_best 0 = .ok (.aload_n 0, 1) := by decide +kernel
theorem dX8_best_1 : decode cX8_best 1 = .ok (.invokevirtual 214, 3) := by decide +kernel
theorem dX8_best_4 : decode cX8_best 4 = .ok (.aload_n 0, 1) := by decide +kernel
theorem dX8_best_5 : decode cX8_best 5 = .ok (.getfield 50, 3) := by decide +kernel
theorem dX8_best_8 : decode cX8_best 8 = .ok (.getfield 224, 3) := by decide +kernel
theorem dX8_best_11 : decode cX8_best 11 = .ok (.ireturn, 1) := by decide +kernel
theorem dX8_many_0 : decode cX8_many 0 = .ok (.aload_n 0, 1) := by decide +kernel
theorem dX8_many_1 : decode cX8_many 1 = .ok (.invokevirtual 214, 3) := by decide +kernel
theorem dX8_many_4 : decode cX8_many 4 = .ok (.aload_n 0, 1) := by decide +kernel
theorem dX8_many_5 : decode cX8_many 5 = .ok (.getfield 50, 3) := by decide +kernel
theorem dX8_many_8 : decode cX8_many 8 = .ok (.getfield 217, 3) := by decide +kernel
theorem dX8_many_11 : decode cX8_many 11 = .ok (.ireturn, 1) := by decide +kernel
theorem dX8_every_0 : decode cX8_every 0 = .ok (.aload_n 0, 1) := by decide +kernel
theorem dX8_every_1 : decode cX8_every 1 = .ok (.getfield 14, 3) := by decide +kernel
theorem dX8_every_4 : decode cX8_every 4 = .ok (.iload_n 1, 1) := by decide +kernel
theorem dX8_every_5 : decode cX8_every 5 = .ok (.invokevirtual 127, 3) := by decide +kernel
theorem dX8_every_8 : decode cX8_every 8 = .ok (.ifCond .ne 5, 3) := by decide +kernel
theorem dX8_every_11 : decode cX8_every 11 = .ok (.iconst (-1), 1) := by decide +kernel
theorem dX8_every_12 : decode cX8_every 12 = .ok (.ireturn, 1) := by decide +kernel
theorem dX8_every_13 : decode cX8_every 13 = .ok (.aload_n 0, 1) := by decide +kernel
theorem dX8_every_14 : decode cX8_every 14 = .ok (.invokevirtual 214, 3) := by decide +kernel
theorem dX8_every_17 : decode cX8_every 17 = .ok (.aload_n 0, 1) := by decide +kernel
theorem dX8_every_18 : decode cX8_every 18 = .ok (.getfield 50, 3) := by decide +kernel
theorem dX8_every_21 : decode cX8_every 21 = .ok (.getfield 217, 3) := by decide +kernel
theorem dX8_every_24 : decode cX8_every 24 = .ok (.ifCond .ne 6, 3) := by decide +kernel
theorem dX8_every_27 : decode cX8_every 27 = .ok (.bipush (-4), 2) := by decide +kernel
theorem dX8_every_29 : decode cX8_every 29 = .ok (.ireturn, 1) := by decide +kernel
theorem dX8_every_30 : decode cX8_every 30 = .ok (.aload_n 0, 1) := by decide +kernel
theorem dX8_every_31 : decode cX8_every 31 = .ok (.getfield 50, 3) := by decide +kernel
theorem dX8_every_34 : decode cX8_every 34 = .ok (.getfield 227, 3) := by decide +kernel
theorem dX8_every_37 : decode cX8_every 37 = .ok (.iload_n 1, 1) := by decide +kernel
theorem dX8_every_38 : decode cX8_every 38 = .ok (.invokestatic 201, 3) := by decide +kernel
theorem dX8_every_41 : decode cX8_every 41 = .ok (.ifCond .eq 5, 3) := by decide +kernel
theorem dX8_every_44 : decode cX8_every 44 = .ok (.iconst 1, 1) := by decide +kernel
theorem dX8_every_45 : decode cX8_every 45 = .ok (.ireturn, 1) := by decide +kernel
theorem dX8_every_46 : decode cX8_every 46 = .ok (.aload_n 0, 1) := by decide +kernel
theorem dX8_every_47 : decode cX8_every 47 = .ok (.getfield 50, 3) := by decide +kernel
theorem dX8_every_50 : decode cX8_every 50 = .ok (.getfield 230, 3) := by decide +kernel
theorem dX8_every_53 : decode cX8_every 53 = .ok (.iload_n 1, 1) := by decide +kernel
theorem dX8_every_54 : decode cX8_every 54 = .ok (.invokestatic 201, 3) := by decide +kernel
theorem dX8_every_57 : decode cX8_every 57 = .ok (.ifCond .eq 7, 3) := by decide +kernel
theorem dX8_every_60 : decode cX8_every 60 = .ok (.iconst 0, 1) := by decide +kernel
theorem dX8_every_61 : decode cX8_every 61 = .ok (.goto 5, 3) := by decide +kernel
theorem dX8_every_64 : decode cX8_every 64 = .ok (.bipush (-5), 2) := by decide +kernel
theorem dX8_every_66 : decode cX8_every 66 = .ok (.ireturn, 1) := by decide +kernel
theorem dX8_second_0 : decode cX8_second 0 = .ok (.aload_n 0, 1) := by decide +kernel
theorem dX8_second_1 : decode cX8_second 1 = .ok (.getfield 43, 3) := by decide +kernel
theorem dX8_second_4 : decode cX8_second 4 = .ok (.iload_n 1, 1) := by decide +kernel
theorem dX8_second_5 : decode cX8_second 5 = .ok (.invokevirtual 180, 3) := by decide +kernel
theorem dX8_second_8 : decode cX8_second 8 = .ok (.ifCond .ne 5, 3) := by decide +kernel
theorem dX8_second_11 : decode cX8_second 11 = .ok (.iconst (-1), 1) := by decide +kernel
theorem dX8_second_12 : decode cX8_second 12 = .ok (.ireturn, 1) := by decide +kernel
theorem dX8_second_13 : decode cX8_second 13 = .ok (.aload_n 0, 1) := by decide +kernel
theorem dX8_second_14 : decode cX8_second 14 = .ok (.invokevirtual 214, 3) := by decide +kernel
theorem dX8_second_17 : decode cX8_second 17 = .ok (.aload_n 0, 1) := by decide +kernel
theorem dX8_second_18 : decode cX8_second 18 = .ok (.getfield 50, 3) := by decide +kernel
theorem dX8_second_21 : decode cX8_second 21 = .ok (.getfield 224, 3) := by decide +kernel
theorem dX8_second_24 : decode cX8_second 24 = .ok (.iload_n 1, 1) := by decide +kernel
theorem dX8_second_25 : decode cX8_second 25 = .ok (.if_icmp .ne 13, 3) := by decide +kernel
theorem dX8_second_28 : decode cX8_second 28 = .ok (.aload_n 0, 1) := by decide +kernel
theorem dX8_second_29 : decode cX8_second 29 = .ok (.getfield 50, 3) := by decide +kernel
theorem dX8_second_32 : decode cX8_second 32 = .ok (.getfield 233, 3) := by decide +kernel
theorem dX8_second_35 : decode cX8_second 35 = .ok (.goto 10, 3) := by decide +kernel
theorem dX8_second_38 : decode cX8_second 38 = .ok (.aload_n 0, 1) := by decide +kernel
theorem dX8_second_39 : decode cX8_second 39 = .ok (.getfield 50, 3) := by decide +kernel
theorem dX8_second_42 : decode cX8_second 42 = .ok (.getfield 224, 3) := by decide +kernel
theorem dX8_second_45 : decode cX8_second 45 = .ok (.ireturn, 1) := by decide +kernel
theorem dX8_lose_0 : decode cX8_lose 0 = .ok (.aload_n 0, 1) := by decide +kernel
theorem dX8_lose_1 : decode cX8_lose 1 = .ok (.getfield 14, 3) := by decide +kernel
theorem dX8_lose_4 : decode cX8_lose 4 = .ok (.iload_n 1, 1) := by decide +kernel
theorem dX8_lose_5 : decode cX8_lose 5 = .ok (.invokevirtual 127, 3) := by decide +kernel
theorem dX8_lose_8 : decode cX8_lose 8 = .ok (.ifCond .ne 7, 3) := by decide +kernel
theorem dX8_lose_11 : decode cX8_lose 11 = .ok (.ldc2_w 186, 3) := by decide +kernel
theorem dX8_lose_14 : decode cX8_lose 14 = .ok (.lreturn, 1) := by decide +kernel
theorem dX8_lose_15 : decode cX8_lose 15 = .ok (.aload_n 0, 1) := by decide +kernel
theorem dX8_lose_16 : decode cX8_lose 16 = .ok (.getfield 14, 3) := by decide +kernel
theorem dX8_lose_19 : decode cX8_lose 19 = .ok (.getfield 133, 3) := by decide +kernel
theorem dX8_lose_22 : decode cX8_lose 22 = .ok (.iload_n 1, 1) := by decide +kernel
theorem dX8_lose_23 : decode cX8_lose 23 = .ok (.iaload, 1) := by decide +kernel
theorem dX8_lose_24 : decode cX8_lose 24 = .ok (.iconst 3, 1) := by decide +kernel
theorem dX8_lose_25 : decode cX8_lose 25 = .ok (.if_icmp .ne 7, 3) := by decide +kernel
theorem dX8_lose_28 : decode cX8_lose 28 = .ok (.ldc2_w 236, 3) := by decide +kernel
theorem dX8_lose_31 : decode cX8_lose 31 = .ok (.lreturn, 1) := by decide +kernel
theorem dX8_lose_32 : decode cX8_lose 32 = .ok (.aload_n 0, 1) := by decide +kernel
theorem dX8_lose_33 : decode cX8_lose 33 = .ok (.invokevirtual 214, 3) := by decide +kernel
theorem dX8_lose_36 : decode cX8_lose 36 = .ok (.aload_n 0, 1) := by decide +kernel
theorem dX8_lose_37 : decode cX8_lose 37 = .ok (.getfield 50, 3) := by decide +kernel
theorem dX8_lose_40 : decode cX8_lose 40 = .ok (.getfield 238, 3) := by decide +kernel
theorem dX8_lose_43 : decode cX8_lose 43 = .ok (.iload_n 1, 1) := by decide +kernel
theorem dX8_lose_44 : decode cX8_lose 44 = .ok (.laload, 1) := by decide +kernel
theorem dX8_lose_45 : decode cX8_lose 45 = .ok (.lstore_n 2, 1) := by decide +kernel
theorem dX8_lose_46 : decode cX8_lose 46 = .ok (.lload_n 2, 1) := by decide +kernel
theorem dX8_lose_47 : decode cX8_lose 47 = .ok (.ldc2_w 242, 3) := by decide +kernel
theorem dX8_lose_50 : decode cX8_lose 50 = .ok (.lcmp, 1) := by decide +kernel
theorem dX8_lose_51 : decode cX8_lose 51 = .ok (.ifCond .ne 9, 3) := by decide +kernel
theorem dX8_lose_54 : decode cX8_lose 54 = .ok (.ldc2_w 194, 3) := by decide +kernel
theorem dX8_lose_57 : decode cX8_lose 57 = .ok (.goto 4, 3) := by decide +kernel
theorem dX8_lose_60 : decode cX8_lose 60 = .ok (.lload_n 2, 1) := by decide +kernel
theorem dX8_lose_61 : decode cX8_lose 61 = .ok (.lreturn, 1) := by decide +kernel
theorem dX8_worst_0 : decode cX8_worst 0 = .ok (.aload_n 0, 1) := by decide +kernel
theorem dX8_worst_1 : decode cX8_worst 1 = .ok (.invokevirtual 214, 3) := by decide +kernel
theorem dX8_worst_4 : decode cX8_worst 4 = .ok (.aload_n 0, 1) := by decide +kernel
theorem dX8_worst_5 : decode cX8_worst 5 = .ok (.getfield 50, 3) := by decide +kernel
theorem dX8_worst_8 : decode cX8_worst 8 = .ok (.getfield 217, 3) := by decide +kernel
theorem dX8_worst_11 : decode cX8_worst 11 = .ok (.ifCond .ne 8, 3) := by decide +kernel
theorem dX8_worst_14 : decode cX8_worst 14 = .ok (.bipush (-4), 2) := by decide +kernel
theorem dX8_worst_16 : decode cX8_worst 16 = .ok (.goto 14, 3) := by decide +kernel
theorem dX8_worst_19 : decode cX8_worst 19 = .ok (.aload_n 0, 1) := by decide +kernel
theorem dX8_worst_20 : decode cX8_worst 20 = .ok (.getfield 50, 3) := by decide +kernel
theorem dX8_worst_23 : decode cX8_worst 23 = .ok (.aload_n 0, 1) := by decide +kernel
theorem dX8_worst_24 : decode cX8_worst 24 = .ok (.getfield 14, 3) := by decide +kernel
theorem dX8_worst_27 : decode cX8_worst 27 = .ok (.invokevirtual 244, 3) := by decide +kernel
theorem dX8_worst_30 : decode cX8_worst 30 = .ok (.ireturn, 1) := by decide +kernel
theorem dX8_farthest_0 : decode cX8_farthest 0 = .ok (.aload_n 0, 1) := by decide +kernel
theorem dX8_farthest_1 : decode cX8_farthest 1 = .ok (.invokevirtual 214, 3) := by decide +kernel
theorem dX8_farthest_4 : decode cX8_farthest 4 = .ok (.aload_n 0, 1) := by decide +kernel
theorem dX8_farthest_5 : decode cX8_farthest 5 = .ok (.getfield 50, 3) := by decide +kernel
theorem dX8_farthest_8 : decode cX8_farthest 8 = .ok (.getfield 248, 3) := by decide +kernel
theorem dX8_farthest_11 : decode cX8_farthest 11 = .ok (.bipush (-4), 2) := by decide +kernel
theorem dX8_farthest_13 : decode cX8_farthest 13 = .ok (.if_icmp .ne 8, 3) := by decide +kernel
theorem dX8_farthest_16 : decode cX8_farthest 16 = .ok (.bipush (-4), 2) := by decide +kernel
theorem dX8_farthest_18 : decode cX8_farthest 18 = .ok (.goto 10, 3) := by decide +kernel
theorem dX8_farthest_21 : decode cX8_farthest 21 = .ok (.aload_n 0, 1) := by decide +kernel
theorem dX8_farthest_22 : decode cX8_farthest 22 = .ok (.getfield 50, 3) := by decide +kernel
theorem dX8_farthest_25 : decode cX8_farthest 25 = .ok (.getfield 251, 3) := by decide +kernel
theorem dX8_farthest_28 : decode cX8_farthest 28 = .ok (.ireturn, 1) := by decide +kernel
theorem dX8_nearest_0 : decode cX8_nearest 0 = .ok (.aload_n 0, 1) := by decide +kernel
theorem dX8_nearest_1 : decode cX8_nearest 1 = .ok (.invokevirtual 214, 3) := by decide +kernel
theorem dX8_nearest_4 : decode cX8_nearest 4 = .ok (.aload_n 0, 1) := by decide +kernel
theorem dX8_nearest_5 : decode cX8_nearest 5 = .ok (.getfield 50, 3) := by decide +kernel
theorem dX8_nearest_8 : decode cX8_nearest 8 = .ok (.getfield 248, 3) := by decide +kernel
theorem dX8_nearest_11 : decode cX8_nearest 11 = .ok (.ireturn, 1) := by decide +kernel
theorem dX8_added_0 : decode cX8_added 0 = .ok (.aload_n 0, 1) := by decide +kernel
theorem dX8_added_1 : decode cX8_added 1 = .ok (.getfield 43, 3) := by decide +kernel
theorem dX8_added_4 : decode cX8_added 4 = .ok (.aload_n 0, 1) := by decide +kernel
theorem dX8_added_5 : decode cX8_added 5 = .ok (.getfield 43, 3) := by decide +kernel
theorem dX8_added_8 : decode cX8_added 8 = .ok (.getfield 254, 3) := by decide +kernel
theorem dX8_added_11 : decode cX8_added 11 = .ok (.invokevirtual 183, 3) := by decide +kernel
theorem dX8_added_14 : decode cX8_added 14 = .ok (.ifCond .ne 6, 3) := by decide +kernel
theorem dX8_added_17 : decode cX8_added 17 = .ok (.bipush (-2), 2) := by decide +kernel
theorem dX8_added_19 : decode cX8_added 19 = .ok (.ireturn, 1) := by decide +kernel
theorem dX8_added_20 : decode cX8_added 20 = .ok (.aload_n 0, 1) := by decide +kernel
theorem dX8_added_21 : decode cX8_added 21 = .ok (.getfield 59, 3) := by decide +kernel
theorem dX8_added_24 : decode cX8_added 24 = .ok (.invokevirtual 257, 3) := by decide +kernel
theorem dX8_added_27 : decode cX8_added 27 = .ok (.ireturn, 1) := by decide +kernel
theorem dX8_changed_0 : decode cX8_changed 0 = .ok (.aload_n 0, 1) := by decide +kernel
theorem dX8_changed_1 : decode cX8_changed 1 = .ok (.getfield 43, 3) := by decide +kernel
theorem dX8_changed_4 : decode cX8_changed 4 = .ok (.iload_n 1, 1) := by decide +kernel
theorem dX8_changed_5 : decode cX8_changed 5 = .ok (.invokevirtual 180, 3) := by decide +kernel
theorem dX8_changed_8 : decode cX8_changed 8 = .ok (.ifCond .ne 5, 3) := by decide +kernel
theorem dX8_changed_11 : decode cX8_changed 11 = .ok (.iconst (-1), 1) := by decide +kernel
theorem dX8_changed_12 : decode cX8_changed 12 = .ok (.ireturn, 1) := by decide +kernel
theorem dX8_changed_13 : decode cX8_changed 13 = .ok (.aload_n 0, 1) := by decide +kernel
theorem dX8_changed_14 : decode cX8_changed 14 = .ok (.getfield 43, 3) := by decide +kernel
theorem dX8_changed_17 : decode cX8_changed 17 = .ok (.iload_n 1, 1) := by decide +kernel
theorem dX8_changed_18 : decode cX8_changed 18 = .ok (.invokevirtual 183, 3) := by decide +kernel
theorem dX8_changed_21 : decode cX8_changed 21 = .ok (.ifCond .ne 6, 3) := by decide +kernel
theorem dX8_changed_24 : decode cX8_changed 24 = .ok (.bipush (-2), 2) := by decide +kernel
theorem dX8_changed_26 : decode cX8_changed 26 = .ok (.ireturn, 1) := by decide +kernel
theorem dX8_changed_27 : decode cX8_changed 27 = .ok (.aload_n 0, 1) := by decide +kernel
theorem dX8_changed_28 : decode cX8_changed 28 = .ok (.getfield 59, 3) := by decide +kernel
theorem dX8_changed_31 : decode cX8_changed 31 = .ok (.iload_n 1, 1) := by decide +kernel
theorem dX8_changed_32 : decode cX8_changed 32 = .ok (.invokevirtual 261, 3) := by decide +kernel
theorem dX8_changed_35 : decode cX8_changed 35 = .ok (.ireturn, 1) := by decide +kernel
theorem dX8_moves_0 : decode cX8_moves 0 = .ok (.aload_n 0, 1) := by decide +kernel
theorem dX8_moves_1 : decode cX8_moves 1 = .ok (.getfield 59, 3) := by decide +kernel
theorem dX8_moves_4 : decode cX8_moves 4 = .ok (.getfield 264, 3) := by decide +kernel
theorem dX8_moves_7 : decode cX8_moves 7 = .ok (.ireturn, 1) := by decide +kernel
theorem dX8_price_0 : decode cX8_price 0 = .ok (.aload_n 0, 1) := by decide +kernel
theorem dX8_price_1 : decode cX8_price 1 = .ok (.getfield 14, 3) := by decide +kernel
theorem dX8_price_4 : decode cX8_price 4 = .ok (.iload_n 1, 1) := by decide +kernel
theorem dX8_price_5 : decode cX8_price 5 = .ok (.i2l, 1) := by decide +kernel
theorem dX8_price_6 : decode cX8_price 6 = .ok (.invokevirtual 97, 3) := by decide +kernel
theorem dX8_price_9 : decode cX8_price 9 = .ok (.ifCond .eq 15, 3) := by decide +kernel
theorem dX8_price_12 : decode cX8_price 12 = .ok (.iload_n 2, 1) := by decide +kernel
theorem dX8_price_13 : decode cX8_price 13 = .ok (.i2l, 1) := by decide +kernel
theorem dX8_price_14 : decode cX8_price 14 = .ok (.lconst 0, 1) := by decide +kernel
theorem dX8_price_15 : decode cX8_price 15 = .ok (.ldc2_w 267, 3) := by decide +kernel
theorem dX8_price_18 : decode cX8_price 18 = .ok (.invokestatic 79, 3) := by decide +kernel
theorem dX8_price_21 : decode cX8_price 21 = .ok (.ifCond .ne 5, 3) := by decide +kernel
theorem dX8_price_24 : decode cX8_price 24 = .ok (.iconst (-1), 1) := by decide +kernel
theorem dX8_price_25 : decode cX8_price 25 = .ok (.ireturn, 1) := by decide +kernel
theorem dX8_price_26 : decode cX8_price 26 = .ok (.aload_n 0, 1) := by decide +kernel
theorem dX8_price_27 : decode cX8_price 27 = .ok (.getfield 68, 3) := by decide +kernel
theorem dX8_price_30 : decode cX8_price 30 = .ok (.getfield 269, 3) := by decide +kernel
theorem dX8_price_33 : decode cX8_price 33 = .ok (.iload_n 1, 1) := by decide +kernel
theorem dX8_price_34 : decode cX8_price 34 = .ok (.iload_n 2, 1) := by decide +kernel
theorem dX8_price_35 : decode cX8_price 35 = .ok (.i2l, 1) := by decide +kernel
theorem dX8_price_36 : decode cX8_price 36 = .ok (.lastore, 1) := by decide +kernel
theorem dX8_price_37 : decode cX8_price 37 = .ok (.iconst 1, 1) := by decide +kernel
theorem dX8_price_38 : decode cX8_price 38 = .ok (.ireturn, 1) := by decide +kernel
theorem dX8_priced_0 : decode cX8_priced 0 = .ok (.aload_n 0, 1) := by decide +kernel
theorem dX8_priced_1 : decode cX8_priced 1 = .ok (.getfield 14, 3) := by decide +kernel
theorem dX8_priced_4 : decode cX8_priced 4 = .ok (.iload_n 1, 1) := by decide +kernel
theorem dX8_priced_5 : decode cX8_priced 5 = .ok (.i2l, 1) := by decide +kernel
theorem dX8_priced_6 : decode cX8_priced 6 = .ok (.invokevirtual 97, 3) := by decide +kernel
theorem dX8_priced_9 : decode cX8_priced 9 = .ok (.ifCond .eq 15, 3) := by decide +kernel
theorem dX8_priced_12 : decode cX8_priced 12 = .ok (.aload_n 0, 1) := by decide +kernel
theorem dX8_priced_13 : decode cX8_priced 13 = .ok (.getfield 68, 3) := by decide +kernel
theorem dX8_priced_16 : decode cX8_priced 16 = .ok (.getfield 269, 3) := by decide +kernel
theorem dX8_priced_19 : decode cX8_priced 19 = .ok (.iload_n 1, 1) := by decide +kernel
theorem dX8_priced_20 : decode cX8_priced 20 = .ok (.laload, 1) := by decide +kernel
theorem dX8_priced_21 : decode cX8_priced 21 = .ok (.goto 4, 3) := by decide +kernel
theorem dX8_priced_24 : decode cX8_priced 24 = .ok (.lconst 0, 1) := by decide +kernel
theorem dX8_priced_25 : decode cX8_priced 25 = .ok (.lreturn, 1) := by decide +kernel
theorem dX8_gives_0 : decode cX8_gives 0 = .ok (.aload_n 0, 1) := by decide +kernel
theorem dX8_gives_1 : decode cX8_gives 1 = .ok (.getfield 14, 3) := by decide +kernel
theorem dX8_gives_4 : decode cX8_gives 4 = .ok (.iload_n 1, 1) := by decide +kernel
theorem dX8_gives_5 : decode cX8_gives 5 = .ok (.invokevirtual 127, 3) := by decide +kernel
theorem dX8_gives_8 : decode cX8_gives 8 = .ok (.ifCond .eq 15, 3) := by decide +kernel
theorem dX8_gives_11 : decode cX8_gives 11 = .ok (.aload_n 0, 1) := by decide +kernel
theorem dX8_gives_12 : decode cX8_gives 12 = .ok (.getfield 14, 3) := by decide +kernel
theorem dX8_gives_15 : decode cX8_gives 15 = .ok (.iload_n 2, 1) := by decide +kernel
theorem dX8_gives_16 : decode cX8_gives 16 = .ok (.i2l, 1) := by decide +kernel
theorem dX8_gives_17 : decode cX8_gives 17 = .ok (.invokevirtual 97, 3) := by decide +kernel
theorem dX8_gives_20 : decode cX8_gives 20 = .ok (.ifCond .ne 7, 3) := by decide +kernel
theorem dX8_gives_23 : decode cX8_gives 23 = .ok (.ldc2_w 186, 3) := by decide +kernel
theorem dX8_gives_26 : decode cX8_gives 26 = .ok (.lreturn, 1) := by decide +kernel
theorem dX8_gives_27 : decode cX8_gives 27 = .ok (.aload_n 0, 1) := by decide +kernel
theorem dX8_gives_28 : decode cX8_gives 28 = .ok (.getfield 68, 3) := by decide +kernel
theorem dX8_gives_31 : decode cX8_gives 31 = .ok (.iload_n 1, 1) := by decide +kernel
theorem dX8_gives_32 : decode cX8_gives 32 = .ok (.iload_n 2, 1) := by decide +kernel
theorem dX8_gives_33 : decode cX8_gives 33 = .ok (.invokevirtual 272, 3) := by decide +kernel
theorem dX8_gives_36 : decode cX8_gives 36 = .ok (.lreturn, 1) := by decide +kernel
theorem dX8_worth_0 : decode cX8_worth 0 = .ok (.aload_n 0, 1) := by decide +kernel
theorem dX8_worth_1 : decode cX8_worth 1 = .ok (.getfield 14, 3) := by decide +kernel
theorem dX8_worth_4 : decode cX8_worth 4 = .ok (.iload_n 1, 1) := by decide +kernel
theorem dX8_worth_5 : decode cX8_worth 5 = .ok (.invokevirtual 127, 3) := by decide +kernel
theorem dX8_worth_8 : decode cX8_worth 8 = .ok (.ifCond .eq 14, 3) := by decide +kernel
theorem dX8_worth_11 : decode cX8_worth 11 = .ok (.aload_n 0, 1) := by decide +kernel
theorem dX8_worth_12 : decode cX8_worth 12 = .ok (.getfield 68, 3) := by decide +kernel
theorem dX8_worth_15 : decode cX8_worth 15 = .ok (.iload_n 1, 1) := by decide +kernel
theorem dX8_worth_16 : decode cX8_worth 16 = .ok (.invokevirtual 276, 3) := by decide +kernel
theorem dX8_worth_19 : decode cX8_worth 19 = .ok (.goto 4, 3) := by decide +kernel
theorem dX8_worth_22 : decode cX8_worth 22 = .ok (.lconst 0, 1) := by decide +kernel
theorem dX8_worth_23 : decode cX8_worth 23 = .ok (.lreturn, 1) := by decide +kernel
theorem dX8_bound_0 : decode cX8_bound 0 = .ok (.aload_n 0, 1) := by decide +kernel
theorem dX8_bound_1 : decode cX8_bound 1 = .ok (.getfield 68, 3) := by decide +kernel
theorem dX8_bound_4 : decode cX8_bound 4 = .ok (.invokevirtual 279, 3) := by decide +kernel
theorem dX8_bound_7 : decode cX8_bound 7 = .ok (.aload_n 0, 1) := by decide +kernel
theorem dX8_bound_8 : decode cX8_bound 8 = .ok (.getfield 68, 3) := by decide +kernel
theorem dX8_bound_11 : decode cX8_bound 11 = .ok (.getfield 282, 3) := by decide +kernel
theorem dX8_bound_14 : decode cX8_bound 14 = .ok (.bipush (-4), 2) := by decide +kernel
theorem dX8_bound_16 : decode cX8_bound 16 = .ok (.if_icmp .ne 9, 3) := by decide +kernel
theorem dX8_bound_19 : decode cX8_bound 19 = .ok (.ldc2_w 194, 3) := by decide +kernel
theorem dX8_bound_22 : decode cX8_bound 22 = .ok (.goto 10, 3) := by decide +kernel
theorem dX8_bound_25 : decode cX8_bound 25 = .ok (.aload_n 0, 1) := by decide +kernel
theorem dX8_bound_26 : decode cX8_bound 26 = .ok (.getfield 68, 3) := by decide +kernel
theorem dX8_bound_29 : decode cX8_bound 29 = .ok (.invokevirtual 285, 3) := by decide +kernel
theorem dX8_bound_32 : decode cX8_bound 32 = .ok (.lreturn, 1) := by decide +kernel
theorem dX8_climb_0 : decode cX8_climb 0 = .ok (.iload_n 1, 1) := by decide +kernel
theorem dX8_climb_1 : decode cX8_climb 1 = .ok (.i2l, 1) := by decide +kernel
theorem dX8_climb_2 : decode cX8_climb 2 = .ok (.lconst 0, 1) := by decide +kernel
theorem dX8_climb_3 : decode cX8_climb 3 = .ok (.ldc2_w 289, 3) := by decide +kernel
theorem dX8_climb_6 : decode cX8_climb 6 = .ok (.invokestatic 79, 3) := by decide +kernel
theorem dX8_climb_9 : decode cX8_climb 9 = .ok (.ifCond .eq 15, 3) := by decide +kernel
theorem dX8_climb_12 : decode cX8_climb 12 = .ok (.iload_n 2, 1) := by decide +kernel
theorem dX8_climb_13 : decode cX8_climb 13 = .ok (.i2l, 1) := by decide +kernel
theorem dX8_climb_14 : decode cX8_climb 14 = .ok (.lconst 1, 1) := by decide +kernel
theorem dX8_climb_15 : decode cX8_climb 15 = .ok (.ldc2_w 118, 3) := by decide +kernel
theorem dX8_climb_18 : decode cX8_climb 18 = .ok (.invokestatic 79, 3) := by decide +kernel
theorem dX8_climb_21 : decode cX8_climb 21 = .ok (.ifCond .ne 5, 3) := by decide +kernel
theorem dX8_climb_24 : decode cX8_climb 24 = .ok (.iconst (-1), 1) := by decide +kernel
theorem dX8_climb_25 : decode cX8_climb 25 = .ok (.ireturn, 1) := by decide +kernel
theorem dX8_climb_26 : decode cX8_climb 26 = .ok (.aload_n 0, 1) := by decide +kernel
theorem dX8_climb_27 : decode cX8_climb 27 = .ok (.getfield 68, 3) := by decide +kernel
theorem dX8_climb_30 : decode cX8_climb 30 = .ok (.invokevirtual 279, 3) := by decide +kernel
theorem dX8_climb_33 : decode cX8_climb 33 = .ok (.aload_n 0, 1) := by decide +kernel
theorem dX8_climb_34 : decode cX8_climb 34 = .ok (.getfield 68, 3) := by decide +kernel
theorem dX8_climb_37 : decode cX8_climb 37 = .ok (.getfield 282, 3) := by decide +kernel
theorem dX8_climb_40 : decode cX8_climb 40 = .ok (.bipush (-4), 2) := by decide +kernel
theorem dX8_climb_42 : decode cX8_climb 42 = .ok (.if_icmp .ne 6, 3) := by decide +kernel
theorem dX8_climb_45 : decode cX8_climb 45 = .ok (.bipush (-2), 2) := by decide +kernel
theorem dX8_climb_47 : decode cX8_climb 47 = .ok (.ireturn, 1) := by decide +kernel
theorem dX8_climb_48 : decode cX8_climb 48 = .ok (.aload_n 0, 1) := by decide +kernel
theorem dX8_climb_49 : decode cX8_climb 49 = .ok (.getfield 68, 3) := by decide +kernel
theorem dX8_climb_52 : decode cX8_climb 52 = .ok (.iload_n 1, 1) := by decide +kernel
theorem dX8_climb_53 : decode cX8_climb 53 = .ok (.iload_n 2, 1) := by decide +kernel
theorem dX8_climb_54 : decode cX8_climb 54 = .ok (.invokevirtual 291, 3) := by decide +kernel
theorem dX8_climb_57 : decode cX8_climb 57 = .ok (.ireturn, 1) := by decide +kernel
theorem dX8_highest_0 : decode cX8_highest 0 = .ok (.aload_n 0, 1) := by decide +kernel
theorem dX8_highest_1 : decode cX8_highest 1 = .ok (.getfield 68, 3) := by decide +kernel
theorem dX8_highest_4 : decode cX8_highest 4 = .ok (.getfield 294, 3) := by decide +kernel
theorem dX8_highest_7 : decode cX8_highest 7 = .ok (.lreturn, 1) := by decide +kernel
theorem dX8_undo_0 : decode cX8_undo 0 = .ok (.aload_n 0, 1) := by decide +kernel
theorem dX8_undo_1 : decode cX8_undo 1 = .ok (.getfield 21, 3) := by decide +kernel
theorem dX8_undo_4 : decode cX8_undo 4 = .ok (.getfield 297, 3) := by decide +kernel
theorem dX8_undo_7 : decode cX8_undo 7 = .ok (.ifCond .ne 6, 3) := by decide +kernel
theorem dX8_undo_10 : decode cX8_undo 10 = .ok (.bipush (-4), 2) := by decide +kernel
theorem dX8_undo_12 : decode cX8_undo 12 = .ok (.ireturn, 1) := by decide +kernel
theorem dX8_undo_13 : decode cX8_undo 13 = .ok (.aload_n 0, 1) := by decide +kernel
theorem dX8_undo_14 : decode cX8_undo 14 = .ok (.getfield 21, 3) := by decide +kernel
theorem dX8_undo_17 : decode cX8_undo 17 = .ok (.aload_n 0, 1) := by decide +kernel
theorem dX8_undo_18 : decode cX8_undo 18 = .ok (.getfield 14, 3) := by decide +kernel
theorem dX8_undo_21 : decode cX8_undo 21 = .ok (.invokevirtual 300, 3) := by decide +kernel
theorem dX8_undo_24 : decode cX8_undo 24 = .ok (.aload_n 0, 1) := by decide +kernel
theorem dX8_undo_25 : decode cX8_undo 25 = .ok (.getfield 68, 3) := by decide +kernel
theorem dX8_undo_28 : decode cX8_undo 28 = .ok (.aload_n 0, 1) := by decide +kernel
theorem dX8_undo_29 : decode cX8_undo 29 = .ok (.getfield 14, 3) := by decide +kernel
theorem dX8_undo_32 : decode cX8_undo 32 = .ok (.getfield 83, 3) := by decide +kernel
theorem dX8_undo_35 : decode cX8_undo 35 = .ok (.invokevirtual 303, 3) := by decide +kernel
theorem dX8_undo_38 : decode cX8_undo 38 = .ok (.aload_n 0, 1) := by decide +kernel
theorem dX8_undo_39 : decode cX8_undo 39 = .ok (.invokevirtual 307, 3) := by decide +kernel
theorem dX8_undo_42 : decode cX8_undo 42 = .ok (.aload_n 0, 1) := by decide +kernel
theorem dX8_undo_43 : decode cX8_undo 43 = .ok (.getfield 21, 3) := by decide +kernel
theorem dX8_undo_46 : decode cX8_undo 46 = .ok (.getfield 297, 3) := by decide +kernel
theorem dX8_undo_49 : decode cX8_undo 49 = .ok (.ireturn, 1) := by decide +kernel
theorem dX8_count_0 : decode cX8_count 0 = .ok (.iload_n 1, 1) := by decide +kernel
theorem dX8_count_1 : decode cX8_count 1 = .ok (.tableswitch 90 0 5 #[39, 47, 55, 63, 71, 79], 39) := by decide +kernel
theorem dX8_count_40 : decode cX8_count 40 = .ok (.aload_n 0, 1) := by decide +kernel
theorem dX8_count_41 : decode cX8_count 41 = .ok (.getfield 14, 3) := by decide +kernel
theorem dX8_count_44 : decode cX8_count 44 = .ok (.getfield 83, 3) := by decide +kernel
theorem dX8_count_47 : decode cX8_count 47 = .ok (.ireturn, 1) := by decide +kernel
theorem dX8_count_48 : decode cX8_count 48 = .ok (.aload_n 0, 1) := by decide +kernel
theorem dX8_count_49 : decode cX8_count 49 = .ok (.getfield 14, 3) := by decide +kernel
theorem dX8_count_52 : decode cX8_count 52 = .ok (.getfield 120, 3) := by decide +kernel
theorem dX8_count_55 : decode cX8_count 55 = .ok (.ireturn, 1) := by decide +kernel
theorem dX8_count_56 : decode cX8_count 56 = .ok (.aload_n 0, 1) := by decide +kernel
theorem dX8_count_57 : decode cX8_count 57 = .ok (.getfield 14, 3) := by decide +kernel
theorem dX8_count_60 : decode cX8_count 60 = .ok (.invokevirtual 310, 3) := by decide +kernel
theorem dX8_count_63 : decode cX8_count 63 = .ok (.ireturn, 1) := by decide +kernel
theorem dX8_count_64 : decode cX8_count 64 = .ok (.aload_n 0, 1) := by decide +kernel
theorem dX8_count_65 : decode cX8_count 65 = .ok (.getfield 14, 3) := by decide +kernel
theorem dX8_count_68 : decode cX8_count 68 = .ok (.getfield 141, 3) := by decide +kernel
theorem dX8_count_71 : decode cX8_count 71 = .ok (.ireturn, 1) := by decide +kernel
theorem dX8_count_72 : decode cX8_count 72 = .ok (.aload_n 0, 1) := by decide +kernel
theorem dX8_count_73 : decode cX8_count 73 = .ok (.getfield 14, 3) := by decide +kernel
theorem dX8_count_76 : decode cX8_count 76 = .ok (.invokevirtual 313, 3) := by decide +kernel
theorem dX8_count_79 : decode cX8_count 79 = .ok (.ireturn, 1) := by decide +kernel
theorem dX8_count_80 : decode cX8_count 80 = .ok (.aload_n 0, 1) := by decide +kernel
theorem dX8_count_81 : decode cX8_count 81 = .ok (.getfield 43, 3) := by decide +kernel
theorem dX8_count_84 : decode cX8_count 84 = .ok (.getfield 254, 3) := by decide +kernel
theorem dX8_count_87 : decode cX8_count 87 = .ok (.invokestatic 316, 3) := by decide +kernel
theorem dX8_count_90 : decode cX8_count 90 = .ok (.ireturn, 1) := by decide +kernel
theorem dX8_count_91 : decode cX8_count 91 = .ok (.iconst (-1), 1) := by decide +kernel
theorem dX8_count_92 : decode cX8_count 92 = .ok (.ireturn, 1) := by decide +kernel
theorem dX8_isWithin_0 : decode cX8_isWithin 0 = .ok (.lload_n 0, 1) := by decide +kernel
theorem dX8_isWithin_1 : decode cX8_isWithin 1 = .ok (.lload_n 2, 1) := by decide +kernel
theorem dX8_isWithin_2 : decode cX8_isWithin 2 = .ok (.lcmp, 1) := by decide +kernel
theorem dX8_isWithin_3 : decode cX8_isWithin 3 = .ok (.ifCond .lt 14, 3) := by decide +kernel
theorem dX8_isWithin_6 : decode cX8_isWithin 6 = .ok (.lload_n 0, 1) := by decide +kernel
theorem dX8_isWithin_7 : decode cX8_isWithin 7 = .ok (.lload 4, 2) := by decide +kernel
theorem dX8_isWithin_9 : decode cX8_isWithin 9 = .ok (.lcmp, 1) := by decide +kernel
theorem dX8_isWithin_10 : decode cX8_isWithin 10 = .ok (.ifCond .gt 7, 3) := by decide +kernel
theorem dX8_isWithin_13 : decode cX8_isWithin 13 = .ok (.iconst 1, 1) := by decide +kernel
theorem dX8_isWithin_14 : decode cX8_isWithin 14 = .ok (.goto 4, 3) := by decide +kernel
theorem dX8_isWithin_17 : decode cX8_isWithin 17 = .ok (.iconst 0, 1) := by decide +kernel
theorem dX8_isWithin_18 : decode cX8_isWithin 18 = .ok (.ireturn, 1) := by decide +kernel
theorem dX8_isMap_0 : decode cX8_isMap 0 = .ok (.iload_n 0, 1) := by decide +kernel
theorem dX8_isMap_1 : decode cX8_isMap 1 = .ok (.i2l, 1) := by decide +kernel
theorem dX8_isMap_2 : decode cX8_isMap 2 = .ok (.lconst 0, 1) := by decide +kernel
theorem dX8_isMap_3 : decode cX8_isMap 3 = .ok (.ldc2_w 321, 3) := by decide +kernel
theorem dX8_isMap_6 : decode cX8_isMap 6 = .ok (.invokestatic 79, 3) := by decide +kernel
theorem dX8_isMap_9 : decode cX8_isMap 9 = .ok (.ireturn, 1) := by decide +kernel
theorem dX8_isLane_0 : decode cX8_isLane 0 = .ok (.iload_n 0, 1) := by decide +kernel
theorem dX8_isLane_1 : decode cX8_isLane 1 = .ok (.i2l, 1) := by decide +kernel
theorem dX8_isLane_2 : decode cX8_isLane 2 = .ok (.lconst 0, 1) := by decide +kernel
theorem dX8_isLane_3 : decode cX8_isLane 3 = .ok (.ldc2_w 199, 3) := by decide +kernel
theorem dX8_isLane_6 : decode cX8_isLane 6 = .ok (.invokestatic 79, 3) := by decide +kernel
theorem dX8_isLane_9 : decode cX8_isLane 9 = .ok (.ireturn, 1) := by decide +kernel
theorem dX8_isIn_0 : decode cX8_isIn 0 = .ok (.iload_n 0, 1) := by decide +kernel
theorem dX8_isIn_1 : decode cX8_isIn 1 = .ok (.iconst 1, 1) := by decide +kernel
theorem dX8_isIn_2 : decode cX8_isIn 2 = .ok (.iload_n 1, 1) := by decide +kernel
theorem dX8_isIn_3 : decode cX8_isIn 3 = .ok (.ishl, 1) := by decide +kernel
theorem dX8_isIn_4 : decode cX8_isIn 4 = .ok (.iand, 1) := by decide +kernel
theorem dX8_isIn_5 : decode cX8_isIn 5 = .ok (.ifCond .eq 7, 3) := by decide +kernel
theorem dX8_isIn_8 : decode cX8_isIn 8 = .ok (.iconst 1, 1) := by decide +kernel
theorem dX8_isIn_9 : decode cX8_isIn 9 = .ok (.goto 4, 3) := by decide +kernel
theorem dX8_isIn_12 : decode cX8_isIn 12 = .ok (.iconst 0, 1) := by decide +kernel
theorem dX8_isIn_13 : decode cX8_isIn 13 = .ok (.ireturn, 1) := by decide +kernel
theorem dX8_keepChange_0 : decode cX8_keepChange 0 = .ok (.aload_n 0, 1) := by decide +kernel
theorem dX8_keepChange_1 : decode cX8_keepChange 1 = .ok (.getfield 21, 3) := by decide +kernel
theorem dX8_keepChange_4 : decode cX8_keepChange 4 = .ok (.aload_n 0, 1) := by decide +kernel
theorem dX8_keepChange_5 : decode cX8_keepChange 5 = .ok (.getfield 14, 3) := by decide +kernel
theorem dX8_keepChange_8 : decode cX8_keepChange 8 = .ok (.invokevirtual 323, 3) := by decide +kernel
theorem dX8_keepChange_11 : decode cX8_keepChange 11 = .ok (.ifCond .eq 7, 3) := by decide +kernel
theorem dX8_keepChange_14 : decode cX8_keepChange 14 = .ok (.aload_n 0, 1) := by decide +kernel
theorem dX8_keepChange_15 : decode cX8_keepChange 15 = .ok (.invokevirtual 307, 3) := by decide +kernel
theorem dX8_keepChange_18 : decode cX8_keepChange 18 = .ok (.return_, 1) := by decide +kernel
theorem dX8_workOut_0 : decode cX8_workOut 0 = .ok (.aload_n 0, 1) := by decide +kernel
theorem dX8_workOut_1 : decode cX8_workOut 1 = .ok (.getfield 34, 3) := by decide +kernel
theorem dX8_workOut_4 : decode cX8_workOut 4 = .ok (.aload_n 0, 1) := by decide +kernel
theorem dX8_workOut_5 : decode cX8_workOut 5 = .ok (.getfield 14, 3) := by decide +kernel
theorem dX8_workOut_8 : decode cX8_workOut 8 = .ok (.invokevirtual 327, 3) := by decide +kernel
theorem dX8_workOut_11 : decode cX8_workOut 11 = .ok (.aload_n 0, 1) := by decide +kernel
theorem dX8_workOut_12 : decode cX8_workOut 12 = .ok (.getfield 43, 3) := by decide +kernel
theorem dX8_workOut_15 : decode cX8_workOut 15 = .ok (.aload_n 0, 1) := by decide +kernel
theorem dX8_workOut_16 : decode cX8_workOut 16 = .ok (.getfield 34, 3) := by decide +kernel
theorem dX8_workOut_19 : decode cX8_workOut 19 = .ok (.invokevirtual 330, 3) := by decide +kernel
theorem dX8_workOut_22 : decode cX8_workOut 22 = .ok (.aload_n 0, 1) := by decide +kernel
theorem dX8_workOut_23 : decode cX8_workOut 23 = .ok (.iconst 0, 1) := by decide +kernel
theorem dX8_workOut_24 : decode cX8_workOut 24 = .ok (.putfield 72, 3) := by decide +kernel
theorem dX8_workOut_27 : decode cX8_workOut 27 = .ok (.return_, 1) := by decide +kernel
theorem dX8_surveyChoices_0 : decode cX8_surveyChoices 0 = .ok (.aload_n 0, 1) := by decide +kernel
theorem dX8_surveyChoices_1 : decode cX8_surveyChoices 1 = .ok (.getfield 72, 3) := by decide +kernel
theorem dX8_surveyChoices_4 : decode cX8_surveyChoices 4 = .ok (.ifCond .ne 19, 3) := by decide +kernel
theorem dX8_surveyChoices_7 : decode cX8_surveyChoices 7 = .ok (.aload_n 0, 1) := by decide +kernel
theorem dX8_surveyChoices_8 : decode cX8_surveyChoices 8 = .ok (.getfield 50, 3) := by decide +kernel
theorem dX8_surveyChoices_11 : decode cX8_surveyChoices 11 = .ok (.aload_n 0, 1) := by decide +kernel
theorem dX8_surveyChoices_12 : decode cX8_surveyChoices 12 = .ok (.getfield 43, 3) := by decide +kernel
theorem dX8_surveyChoices_15 : decode cX8_surveyChoices 15 = .ok (.invokevirtual 334, 3) := by decide +kernel
theorem dX8_surveyChoices_18 : decode cX8_surveyChoices 18 = .ok (.aload_n 0, 1) := by decide +kernel
theorem dX8_surveyChoices_19 : decode cX8_surveyChoices 19 = .ok (.iconst 1, 1) := by decide +kernel
theorem dX8_surveyChoices_20 : decode cX8_surveyChoices 20 = .ok (.putfield 72, 3) := by decide +kernel
theorem dX8_surveyChoices_23 : decode cX8_surveyChoices 23 = .ok (.return_, 1) := by decide +kernel
theorem dX8_refusalToDraw_0 : decode cX8_refusalToDraw 0 = .ok (.aload_n 1, 1) := by decide +kernel
theorem dX8_refusalToDraw_1 : decode cX8_refusalToDraw 1 = .ok (.getfield 154, 3) := by decide +kernel
theorem dX8_refusalToDraw_4 : decode cX8_refusalToDraw 4 = .ok (.iconst (-1), 1) := by decide +kernel
theorem dX8_refusalToDraw_5 : decode cX8_refusalToDraw 5 = .ok (.if_icmp .ne 6, 3) := by decide +kernel
theorem dX8_refusalToDraw_8 : decode cX8_refusalToDraw 8 = .ok (.bipush (-11), 2) := by decide +kernel
theorem dX8_refusalToDraw_10 : decode cX8_refusalToDraw 10 = .ok (.ireturn, 1) := by decide +kernel
theorem dX8_refusalToDraw_11 : decode cX8_refusalToDraw 11 = .ok (.aload_n 1, 1) := by decide +kernel
theorem dX8_refusalToDraw_12 : decode cX8_refusalToDraw 12 = .ok (.getfield 154, 3) := by decide +kernel
theorem dX8_refusalToDraw_15 : decode cX8_refusalToDraw 15 = .ok (.iload_n 2, 1) := by decide +kernel
theorem dX8_refusalToDraw_16 : decode cX8_refusalToDraw 16 = .ok (.if_icmp .eq 6, 3) := by decide +kernel
theorem dX8_refusalToDraw_19 : decode cX8_refusalToDraw 19 = .ok (.bipush (-13), 2) := by decide +kernel
theorem dX8_refusalToDraw_21 : decode cX8_refusalToDraw 21 = .ok (.ireturn, 1) := by decide +kernel
theorem dX8_refusalToDraw_22 : decode cX8_refusalToDraw 22 = .ok (.iconst 0, 1) := by decide +kernel
theorem dX8_refusalToDraw_23 : decode cX8_refusalToDraw 23 = .ok (.istore 4, 2) := by decide +kernel
theorem dX8_refusalToDraw_25 : decode cX8_refusalToDraw 25 = .ok (.iload 4, 2) := by decide +kernel
theorem dX8_refusalToDraw_27 : decode cX8_refusalToDraw 27 = .ok (.iload_n 3, 1) := by decide +kernel
theorem dX8_refusalToDraw_28 : decode cX8_refusalToDraw 28 = .ok (.if_icmp .ge 65, 3) := by decide +kernel
theorem dX8_refusalToDraw_31 : decode cX8_refusalToDraw 31 = .ok (.aload_n 1, 1) := by decide +kernel
theorem dX8_refusalToDraw_32 : decode cX8_refusalToDraw 32 = .ok (.iload 4, 2) := by decide +kernel
theorem dX8_refusalToDraw_34 : decode cX8_refusalToDraw 34 = .ok (.invokevirtual 337, 3) := by decide +kernel
theorem dX8_refusalToDraw_37 : decode cX8_refusalToDraw 37 = .ok (.ifCond .ne 6, 3) := by decide +kernel
theorem dX8_refusalToDraw_40 : decode cX8_refusalToDraw 40 = .ok (.bipush (-12), 2) := by decide +kernel
theorem dX8_refusalToDraw_42 : decode cX8_refusalToDraw 42 = .ok (.ireturn, 1) := by decide +kernel
theorem dX8_refusalToDraw_43 : decode cX8_refusalToDraw 43 = .ok (.iload 4, 2) := by decide +kernel
theorem dX8_refusalToDraw_45 : decode cX8_refusalToDraw 45 = .ok (.iconst 3, 1) := by decide +kernel
theorem dX8_refusalToDraw_46 : decode cX8_refusalToDraw 46 = .ok (.imul, 1) := by decide +kernel
theorem dX8_refusalToDraw_47 : decode cX8_refusalToDraw 47 = .ok (.istore 5, 2) := by decide +kernel
theorem dX8_refusalToDraw_49 : decode cX8_refusalToDraw 49 = .ok (.aload_n 0, 1) := by decide +kernel
theorem dX8_refusalToDraw_50 : decode cX8_refusalToDraw 50 = .ok (.getfield 14, 3) := by decide +kernel
theorem dX8_refusalToDraw_53 : decode cX8_refusalToDraw 53 = .ok (.aload_n 1, 1) := by decide +kernel
theorem dX8_refusalToDraw_54 : decode cX8_refusalToDraw 54 = .ok (.getfield 340, 3) := by decide +kernel
theorem dX8_refusalToDraw_57 : decode cX8_refusalToDraw 57 = .ok (.iload 5, 2) := by decide +kernel
theorem dX8_refusalToDraw_59 : decode cX8_refusalToDraw 59 = .ok (.laload, 1) := by decide +kernel
theorem dX8_refusalToDraw_60 : decode cX8_refusalToDraw 60 = .ok (.aload_n 1, 1) := by decide +kernel
theorem dX8_refusalToDraw_61 : decode cX8_refusalToDraw 61 = .ok (.getfield 340, 3) := by decide +kernel
theorem dX8_refusalToDraw_64 : decode cX8_refusalToDraw 64 = .ok (.iload 5, 2) := by decide +kernel
theorem dX8_refusalToDraw_66 : decode cX8_refusalToDraw 66 = .ok (.iconst 1, 1) := by decide +kernel
theorem dX8_refusalToDraw_67 : decode cX8_refusalToDraw 67 = .ok (.iadd, 1) := by decide +kernel
theorem dX8_refusalToDraw_68 : decode cX8_refusalToDraw 68 = .ok (.laload, 1) := by decide +kernel
theorem dX8_refusalToDraw_69 : decode cX8_refusalToDraw 69 = .ok (.aload_n 1, 1) := by decide +kernel
theorem dX8_refusalToDraw_70 : decode cX8_refusalToDraw 70 = .ok (.getfield 340, 3) := by decide +kernel
theorem dX8_refusalToDraw_73 : decode cX8_refusalToDraw 73 = .ok (.iload 5, 2) := by decide +kernel
theorem dX8_refusalToDraw_75 : decode cX8_refusalToDraw 75 = .ok (.iconst 2, 1) := by decide +kernel
theorem dX8_refusalToDraw_76 : decode cX8_refusalToDraw 76 = .ok (.iadd, 1) := by decide +kernel
theorem dX8_refusalToDraw_77 : decode cX8_refusalToDraw 77 = .ok (.laload, 1) := by decide +kernel
theorem dX8_refusalToDraw_78 : decode cX8_refusalToDraw 78 = .ok (.invokevirtual 105, 3) := by decide +kernel
theorem dX8_refusalToDraw_81 : decode cX8_refusalToDraw 81 = .ok (.ifCond .ne 6, 3) := by decide +kernel
theorem dX8_refusalToDraw_84 : decode cX8_refusalToDraw 84 = .ok (.bipush (-21), 2) := by decide +kernel
theorem dX8_refusalToDraw_86 : decode cX8_refusalToDraw 86 = .ok (.ireturn, 1) := by decide +kernel
theorem dX8_refusalToDraw_87 : decode cX8_refusalToDraw 87 = .ok (.iinc 4 1, 3) := by decide +kernel
theorem dX8_refusalToDraw_90 : decode cX8_refusalToDraw 90 = .ok (.goto (-65), 3) := by decide +kernel
theorem dX8_refusalToDraw_93 : decode cX8_refusalToDraw 93 = .ok (.iconst 0, 1) := by decide +kernel
theorem dX8_refusalToDraw_94 : decode cX8_refusalToDraw 94 = .ok (.ireturn, 1) := by decide +kernel
theorem dX8_paveFrom_0 : decode cX8_paveFrom 0 = .ok (.iconst 0, 1) := by decide +kernel
theorem dX8_paveFrom_1 : decode cX8_paveFrom 1 = .ok (.istore_n 3, 1) := by decide +kernel
theorem dX8_paveFrom_2 : decode cX8_paveFrom 2 = .ok (.iload_n 3, 1) := by decide +kernel
theorem dX8_paveFrom_3 : decode cX8_paveFrom 3 = .ok (.iload_n 2, 1) := by decide +kernel
theorem dX8_paveFrom_4 : decode cX8_paveFrom 4 = .ok (.if_icmp .ge 57, 3) := by decide +kernel
theorem dX8_paveFrom_7 : decode cX8_paveFrom 7 = .ok (.aload_n 1, 1) := by decide +kernel
theorem dX8_paveFrom_8 : decode cX8_paveFrom 8 = .ok (.iload_n 3, 1) := by decide +kernel
theorem dX8_paveFrom_9 : decode cX8_paveFrom 9 = .ok (.invokevirtual 337, 3) := by decide +kernel
theorem dX8_paveFrom_12 : decode cX8_paveFrom 12 = .ok (.ifCond .eq 49, 3) := by decide +kernel
theorem dX8_paveFrom_15 : decode cX8_paveFrom 15 = .ok (.iload_n 3, 1) := by decide +kernel
theorem dX8_paveFrom_16 : decode cX8_paveFrom 16 = .ok (.iconst 3, 1) := by decide +kernel
theorem dX8_paveFrom_17 : decode cX8_paveFrom 17 = .ok (.imul, 1) := by decide +kernel
theorem dX8_paveFrom_18 : decode cX8_paveFrom 18 = .ok (.istore 4, 2) := by decide +kernel
theorem dX8_paveFrom_20 : decode cX8_paveFrom 20 = .ok (.aload_n 0, 1) := by decide +kernel
theorem dX8_paveFrom_21 : decode cX8_paveFrom 21 = .ok (.getfield 14, 3) := by decide +kernel
theorem dX8_paveFrom_24 : decode cX8_paveFrom 24 = .ok (.aload_n 1, 1) := by decide +kernel
theorem dX8_paveFrom_25 : decode cX8_paveFrom 25 = .ok (.getfield 340, 3) := by decide +kernel
theorem dX8_paveFrom_28 : decode cX8_paveFrom 28 = .ok (.iload 4, 2) := by decide +kernel
theorem dX8_paveFrom_30 : decode cX8_paveFrom 30 = .ok (.laload, 1) := by decide +kernel
theorem dX8_paveFrom_31 : decode cX8_paveFrom 31 = .ok (.l2i, 1) := by decide +kernel
theorem dX8_paveFrom_32 : decode cX8_paveFrom 32 = .ok (.aload_n 1, 1) := by decide +kernel
theorem dX8_paveFrom_33 : decode cX8_paveFrom 33 = .ok (.getfield 340, 3) := by decide +kernel
theorem dX8_paveFrom_36 : decode cX8_paveFrom 36 = .ok (.iload 4, 2) := by decide +kernel
theorem dX8_paveFrom_38 : decode cX8_paveFrom 38 = .ok (.iconst 1, 1) := by decide +kernel
theorem dX8_paveFrom_39 : decode cX8_paveFrom 39 = .ok (.iadd, 1) := by decide +kernel
theorem dX8_paveFrom_40 : decode cX8_paveFrom 40 = .ok (.laload, 1) := by decide +kernel
theorem dX8_paveFrom_41 : decode cX8_paveFrom 41 = .ok (.l2i, 1) := by decide +kernel
theorem dX8_paveFrom_42 : decode cX8_paveFrom 42 = .ok (.aload_n 1, 1) := by decide +kernel
theorem dX8_paveFrom_43 : decode cX8_paveFrom 43 = .ok (.getfield 340, 3) := by decide +kernel
theorem dX8_paveFrom_46 : decode cX8_paveFrom 46 = .ok (.iload 4, 2) := by decide +kernel
theorem dX8_paveFrom_48 : decode cX8_paveFrom 48 = .ok (.iconst 2, 1) := by decide +kernel
theorem dX8_paveFrom_49 : decode cX8_paveFrom 49 = .ok (.iadd, 1) := by decide +kernel
theorem dX8_paveFrom_50 : decode cX8_paveFrom 50 = .ok (.laload, 1) := by decide +kernel
theorem dX8_paveFrom_51 : decode cX8_paveFrom 51 = .ok (.l2i, 1) := by decide +kernel
theorem dX8_paveFrom_52 : decode cX8_paveFrom 52 = .ok (.invokevirtual 112, 3) := by decide +kernel
theorem dX8_paveFrom_55 : decode cX8_paveFrom 55 = .ok (.iinc 3 1, 3) := by decide +kernel
theorem dX8_paveFrom_58 : decode cX8_paveFrom 58 = .ok (.goto (-56), 3) := by decide +kernel
theorem dX8_paveFrom_61 : decode cX8_paveFrom 61 = .ok (.return_, 1) := by decide +kernel
