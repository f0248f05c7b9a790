theorem dX7_told_35 : decode cX7_told 35 = .ok (.aload_n 0, 1) := by decide +kernel
theorem dX7_told_36 : decode cX7_told 36 = .ok (.iload_n 1, 1) := by decide +kernel
theorem dX7_told_37 : decode cX7_told 37 = .ok (.iload_n 3, 1) := by decide +kernel
theorem dX7_told_38 : decode cX7_told 38 = .ok (.invokevirtual 95, 3) := by decide +kernel
theorem dX7_told_41 : decode cX7_told 41 = .ok (.goto 4, 3) := by decide +kernel
theorem dX7_told_44 : decode cX7_told 44 = .ok (.iconst (-1), 1) := by decide +kernel
theorem dX7_told_45 : decode cX7_told 45 = .ok (.ireturn, 1) := by decide +kernel
theorem dX7_told_46 : decode cX7_told 46 = .ok (.iload_n 2, 1) := by decide +kernel
theorem dX7_told_47 : decode cX7_told 47 = .ok (.iconst 1, 1) := by decide +kernel
theorem dX7_told_48 : decode cX7_told 48 = .ok (.if_icmp .eq 5, 3) := by decide +kernel
theorem dX7_told_51 : decode cX7_told 51 = .ok (.iconst (-1), 1) := by decide +kernel
theorem dX7_told_52 : decode cX7_told 52 = .ok (.ireturn, 1) := by decide +kernel
theorem dX7_told_53 : decode cX7_told 53 = .ok (.iconst 0, 1) := by decide +kernel
theorem dX7_told_54 : decode cX7_told 54 = .ok (.istore 4, 2) := by decide +kernel
theorem dX7_told_56 : decode cX7_told 56 = .ok (.iconst 0, 1) := by decide +kernel
theorem dX7_told_57 : decode cX7_told 57 = .ok (.istore 5, 2) := by decide +kernel
theorem dX7_told_59 : decode cX7_told 59 = .ok (.iload 5, 2) := by decide +kernel
theorem dX7_told_61 : decode cX7_told 61 = .ok (.bipush 21, 2) := by decide +kernel
theorem dX7_told_63 : decode cX7_told 63 = .ok (.if_icmp .ge 29, 3) := by decide +kernel
theorem dX7_told_66 : decode cX7_told 66 = .ok (.iload 4, 2) := by decide +kernel
theorem dX7_told_68 : decode cX7_told 68 = .ok (.iload 5, 2) := by decide +kernel
theorem dX7_told_70 : decode cX7_told 70 = .ok (.iload 5, 2) := by decide +kernel
theorem dX7_told_72 : decode cX7_told 72 = .ok (.imul, 1) := by decide +kernel
theorem dX7_told_73 : decode cX7_told 73 = .ok (.aload_n 0, 1) := by decide +kernel
theorem dX7_told_74 : decode cX7_told 74 = .ok (.getfield 11, 3) := by decide +kernel
theorem dX7_told_77 : decode cX7_told 77 = .ok (.iload_n 1, 1) := by decide +kernel
theorem dX7_told_78 : decode cX7_told 78 = .ok (.aaload, 1) := by decide +kernel
theorem dX7_told_79 : decode cX7_told 79 = .ok (.iload 5, 2) := by decide +kernel
theorem dX7_told_81 : decode cX7_told 81 = .ok (.iaload, 1) := by decide +kernel
theorem dX7_told_82 : decode cX7_told 82 = .ok (.imul, 1) := by decide +kernel
theorem dX7_told_83 : decode cX7_told 83 = .ok (.iadd, 1) := by decide +kernel
theorem dX7_told_84 : decode cX7_told 84 = .ok (.istore 4, 2) := by decide +kernel
theorem dX7_told_86 : decode cX7_told 86 = .ok (.iinc 5 1, 3) := by decide +kernel
theorem dX7_told_89 : decode cX7_told 89 = .ok (.goto (-30), 3) := by decide +kernel
theorem dX7_told_92 : decode cX7_told 92 = .ok (.sipush 1000, 3) := by decide +kernel
theorem dX7_told_95 : decode cX7_told 95 = .ok (.iload 4, 2) := by decide +kernel
theorem dX7_told_97 : decode cX7_told 97 = .ok (.imul, 1) := by decide +kernel
theorem dX7_told_98 : decode cX7_told 98 = .ok (.aload_n 0, 1) := by decide +kernel
theorem dX7_told_99 : decode cX7_told 99 = .ok (.iload_n 1, 1) := by decide +kernel
theorem dX7_told_100 : decode cX7_told 100 = .ok (.invokevirtual 91, 3) := by decide +kernel
theorem dX7_told_103 : decode cX7_told 103 = .ok (.aload_n 0, 1) := by decide +kernel
theorem dX7_told_104 : decode cX7_told 104 = .ok (.iload_n 1, 1) := by decide +kernel
theorem dX7_told_105 : decode cX7_told 105 = .ok (.invokevirtual 91, 3) := by decide +kernel
theorem dX7_told_108 : decode cX7_told 108 = .ok (.imul, 1) := by decide +kernel
theorem dX7_told_109 : decode cX7_told 109 = .ok (.isub, 1) := by decide +kernel
theorem dX7_told_110 : decode cX7_told 110 = .ok (.ireturn, 1) := by decide +kernel
theorem dX7_becomes_0 : decode cX7_becomes 0 = .ok (.iconst 0, 1) := by decide +kernel
theorem dX7_becomes_1 : decode cX7_becomes 1 = .ok (.istore_n 2, 1) := by decide +kernel
theorem dX7_becomes_2 : decode cX7_becomes 2 = .ok (.iload_n 2, 1) := by decide +kernel
theorem dX7_becomes_3 : decode cX7_becomes 3 = .ok (.bipush 21, 2) := by decide +kernel
theorem dX7_becomes_5 : decode cX7_becomes 5 = .ok (.if_icmp .ge 23, 3) := by decide +kernel
theorem dX7_becomes_8 : decode cX7_becomes 8 = .ok (.aload_n 0, 1) := by decide +kernel
theorem dX7_becomes_9 : decode cX7_becomes 9 = .ok (.getfield 11, 3) := by decide +kernel
theorem dX7_becomes_12 : decode cX7_becomes 12 = .ok (.iload_n 1, 1) := by decide +kernel
theorem dX7_becomes_13 : decode cX7_becomes 13 = .ok (.aaload, 1) := by decide +kernel
theorem dX7_becomes_14 : decode cX7_becomes 14 = .ok (.iload_n 2, 1) := by decide +kernel
theorem dX7_becomes_15 : decode cX7_becomes 15 = .ok (.aload_n 0, 1) := by decide +kernel
theorem dX7_becomes_16 : decode cX7_becomes 16 = .ok (.getfield 24, 3) := by decide +kernel
theorem dX7_becomes_19 : decode cX7_becomes 19 = .ok (.iload_n 2, 1) := by decide +kernel
theorem dX7_becomes_20 : decode cX7_becomes 20 = .ok (.iaload, 1) := by decide +kernel
theorem dX7_becomes_21 : decode cX7_becomes 21 = .ok (.iastore, 1) := by decide +kernel
theorem dX7_becomes_22 : decode cX7_becomes 22 = .ok (.iinc 2 1, 3) := by decide +kernel
theorem dX7_becomes_25 : decode cX7_becomes 25 = .ok (.goto (-23), 3) := by decide +kernel
theorem dX7_becomes_28 : decode cX7_becomes 28 = .ok (.iconst 1, 1) := by decide +kernel
theorem dX7_becomes_29 : decode cX7_becomes 29 = .ok (.ireturn, 1) := by decide +kernel
theorem dX7_layer_0 : decode cX7_layer 0 = .ok (.aload_n 0, 1) := by decide +kernel
theorem dX7_layer_1 : decode cX7_layer 1 = .ok (.iload_n 1, 1) := by decide +kernel
theorem dX7_layer_2 : decode cX7_layer 2 = .ok (.invokevirtual 88, 3) := by decide +kernel
theorem dX7_layer_5 : decode cX7_layer 5 = .ok (.ifCond .eq 31, 3) := by decide +kernel
theorem dX7_layer_8 : decode cX7_layer 8 = .ok (.iload 5, 2) := by decide +kernel
theorem dX7_layer_10 : decode cX7_layer 10 = .ok (.invokestatic 84, 3) := by decide +kernel
theorem dX7_layer_13 : decode cX7_layer 13 = .ok (.ifCond .eq 23, 3) := by decide +kernel
theorem dX7_layer_16 : decode cX7_layer 16 = .ok (.iload_n 2, 1) := by decide +kernel
theorem dX7_layer_17 : decode cX7_layer 17 = .ok (.iconst 0, 1) := by decide +kernel
theorem dX7_layer_18 : decode cX7_layer 18 = .ok (.bipush 20, 2) := by decide +kernel
theorem dX7_layer_20 : decode cX7_layer 20 = .ok (.invokestatic 80, 3) := by decide +kernel
theorem dX7_layer_23 : decode cX7_layer 23 = .ok (.ifCond .eq 13, 3) := by decide +kernel
theorem dX7_layer_26 : decode cX7_layer 26 = .ok (.iload_n 3, 1) := by decide +kernel
theorem dX7_layer_27 : decode cX7_layer 27 = .ok (.iload_n 2, 1) := by decide +kernel
theorem dX7_layer_28 : decode cX7_layer 28 = .ok (.bipush 20, 2) := by decide +kernel
theorem dX7_layer_30 : decode cX7_layer 30 = .ok (.invokestatic 80, 3) := by decide +kernel
theorem dX7_layer_33 : decode cX7_layer 33 = .ok (.ifCond .ne 5, 3) := by decide +kernel
theorem dX7_layer_36 : decode cX7_layer 36 = .ok (.iconst 0, 1) := by decide +kernel
theorem dX7_layer_37 : decode cX7_layer 37 = .ok (.ireturn, 1) := by decide +kernel
theorem dX7_layer_38 : decode cX7_layer 38 = .ok (.iconst 0, 1) := by decide +kernel
theorem dX7_layer_39 : decode cX7_layer 39 = .ok (.istore 6, 2) := by decide +kernel
theorem dX7_layer_41 : decode cX7_layer 41 = .ok (.iload 6, 2) := by decide +kernel
theorem dX7_layer_43 : decode cX7_layer 43 = .ok (.bipush 21, 2) := by decide +kernel
theorem dX7_layer_45 : decode cX7_layer 45 = .ok (.if_icmp .ge 17, 3) := by decide +kernel
theorem dX7_layer_48 : decode cX7_layer 48 = .ok (.aload_n 0, 1) := by decide +kernel
theorem dX7_layer_49 : decode cX7_layer 49 = .ok (.getfield 24, 3) := by decide +kernel
theorem dX7_layer_52 : decode cX7_layer 52 = .ok (.iload 6, 2) := by decide +kernel
theorem dX7_layer_54 : decode cX7_layer 54 = .ok (.iconst 0, 1) := by decide +kernel
theorem dX7_layer_55 : decode cX7_layer 55 = .ok (.iastore, 1) := by decide +kernel
theorem dX7_layer_56 : decode cX7_layer 56 = .ok (.iinc 6 1, 3) := by decide +kernel
theorem dX7_layer_59 : decode cX7_layer 59 = .ok (.goto (-18), 3) := by decide +kernel
theorem dX7_layer_62 : decode cX7_layer 62 = .ok (.iconst 0, 1) := by decide +kernel
theorem dX7_layer_63 : decode cX7_layer 63 = .ok (.istore 6, 2) := by decide +kernel
theorem dX7_layer_65 : decode cX7_layer 65 = .ok (.iload 6, 2) := by decide +kernel
theorem dX7_layer_67 : decode cX7_layer 67 = .ok (.bipush 21, 2) := by decide +kernel
theorem dX7_layer_69 : decode cX7_layer 69 = .ok (.if_icmp .ge 57, 3) := by decide +kernel
theorem dX7_layer_72 : decode cX7_layer 72 = .ok (.iload_n 3, 1) := by decide +kernel
theorem dX7_layer_73 : decode cX7_layer 73 = .ok (.iload_n 2, 1) := by decide +kernel
theorem dX7_layer_74 : decode cX7_layer 74 = .ok (.isub, 1) := by decide +kernel
theorem dX7_layer_75 : decode cX7_layer 75 = .ok (.iconst 0, 1) := by decide +kernel
theorem dX7_layer_76 : decode cX7_layer 76 = .ok (.iload 6, 2) := by decide +kernel
theorem dX7_layer_78 : decode cX7_layer 78 = .ok (.iload_n 2, 1) := by decide +kernel
theorem dX7_layer_79 : decode cX7_layer 79 = .ok (.isub, 1) := by decide +kernel
theorem dX7_layer_80 : decode cX7_layer 80 = .ok (.invokestatic 99, 3) := by decide +kernel
theorem dX7_layer_83 : decode cX7_layer 83 = .ok (.invokestatic 104, 3) := by decide +kernel
theorem dX7_layer_86 : decode cX7_layer 86 = .ok (.istore 7, 2) := by decide +kernel
theorem dX7_layer_88 : decode cX7_layer 88 = .ok (.aload_n 0, 1) := by decide +kernel
theorem dX7_layer_89 : decode cX7_layer 89 = .ok (.getfield 24, 3) := by decide +kernel
theorem dX7_layer_92 : decode cX7_layer 92 = .ok (.iload 4, 2) := by decide +kernel
theorem dX7_layer_94 : decode cX7_layer 94 = .ok (.ifCond .eq 8, 3) := by decide +kernel
theorem dX7_layer_97 : decode cX7_layer 97 = .ok (.iload 7, 2) := by decide +kernel
theorem dX7_layer_99 : decode cX7_layer 99 = .ok (.goto 8, 3) := by decide +kernel
theorem dX7_layer_102 : decode cX7_layer 102 = .ok (.iload 6, 2) := by decide +kernel
theorem dX7_layer_104 : decode cX7_layer 104 = .ok (.iload 7, 2) := by decide +kernel
theorem dX7_layer_106 : decode cX7_layer 106 = .ok (.isub, 1) := by decide +kernel
theorem dX7_layer_107 : decode cX7_layer 107 = .ok (.dup2, 1) := by decide +kernel
theorem dX7_layer_108 : decode cX7_layer 108 = .ok (.iaload, 1) := by decide +kernel
theorem dX7_layer_109 : decode cX7_layer 109 = .ok (.aload_n 0, 1) := by decide +kernel
theorem dX7_layer_110 : decode cX7_layer 110 = .ok (.getfield 11, 3) := by decide +kernel
theorem dX7_layer_113 : decode cX7_layer 113 = .ok (.iload_n 1, 1) := by decide +kernel
theorem dX7_layer_114 : decode cX7_layer 114 = .ok (.aaload, 1) := by decide +kernel
theorem dX7_layer_115 : decode cX7_layer 115 = .ok (.iload 6, 2) := by decide +kernel
theorem dX7_layer_117 : decode cX7_layer 117 = .ok (.iaload, 1) := by decide +kernel
theorem dX7_layer_118 : decode cX7_layer 118 = .ok (.iadd, 1) := by decide +kernel
theorem dX7_layer_119 : decode cX7_layer 119 = .ok (.iastore, 1) := by decide +kernel
theorem dX7_layer_120 : decode cX7_layer 120 = .ok (.iinc 6 1, 3) := by decide +kernel
theorem dX7_layer_123 : decode cX7_layer 123 = .ok (.goto (-58), 3) := by decide +kernel
theorem dX7_layer_126 : decode cX7_layer 126 = .ok (.aload_n 0, 1) := by decide +kernel
theorem dX7_layer_127 : decode cX7_layer 127 = .ok (.iload 5, 2) := by decide +kernel
theorem dX7_layer_129 : decode cX7_layer 129 = .ok (.invokevirtual 107, 3) := by decide +kernel
theorem dX7_layer_132 : decode cX7_layer 132 = .ok (.ireturn, 1) := by decide +kernel
theorem dX7_part_0 : decode cX7_part 0 = .ok (.aload_n 0, 1) := by decide +kernel
theorem dX7_part_1 : decode cX7_part 1 = .ok (.iload_n 1, 1) := by decide +kernel
theorem dX7_part_2 : decode cX7_part 2 = .ok (.invokevirtual 88, 3) := by decide +kernel
theorem dX7_part_5 : decode cX7_part 5 = .ok (.ifCond .eq 21, 3) := by decide +kernel
theorem dX7_part_8 : decode cX7_part 8 = .ok (.iload 4, 2) := by decide +kernel
theorem dX7_part_10 : decode cX7_part 10 = .ok (.invokestatic 84, 3) := by decide +kernel
theorem dX7_part_13 : decode cX7_part 13 = .ok (.ifCond .eq 13, 3) := by decide +kernel
theorem dX7_part_16 : decode cX7_part 16 = .ok (.iload_n 2, 1) := by decide +kernel
theorem dX7_part_17 : decode cX7_part 17 = .ok (.iconst 0, 1) := by decide +kernel
theorem dX7_part_18 : decode cX7_part 18 = .ok (.bipush 100, 2) := by decide +kernel
theorem dX7_part_20 : decode cX7_part 20 = .ok (.invokestatic 80, 3) := by decide +kernel
theorem dX7_part_23 : decode cX7_part 23 = .ok (.ifCond .ne 5, 3) := by decide +kernel
theorem dX7_part_26 : decode cX7_part 26 = .ok (.iconst 0, 1) := by decide +kernel
theorem dX7_part_27 : decode cX7_part 27 = .ok (.ireturn, 1) := by decide +kernel
theorem dX7_part_28 : decode cX7_part 28 = .ok (.iconst 0, 1) := by decide +kernel
theorem dX7_part_29 : decode cX7_part 29 = .ok (.istore 5, 2) := by decide +kernel
theorem dX7_part_31 : decode cX7_part 31 = .ok (.iload 5, 2) := by decide +kernel
theorem dX7_part_33 : decode cX7_part 33 = .ok (.bipush 21, 2) := by decide +kernel
theorem dX7_part_35 : decode cX7_part 35 = .ok (.if_icmp .ge 17, 3) := by decide +kernel
theorem dX7_part_38 : decode cX7_part 38 = .ok (.aload_n 0, 1) := by decide +kernel
theorem dX7_part_39 : decode cX7_part 39 = .ok (.getfield 24, 3) := by decide +kernel
theorem dX7_part_42 : decode cX7_part 42 = .ok (.iload 5, 2) := by decide +kernel
theorem dX7_part_44 : decode cX7_part 44 = .ok (.iconst 0, 1) := by decide +kernel
theorem dX7_part_45 : decode cX7_part 45 = .ok (.iastore, 1) := by decide +kernel
theorem dX7_part_46 : decode cX7_part 46 = .ok (.iinc 5 1, 3) := by decide +kernel
theorem dX7_part_49 : decode cX7_part 49 = .ok (.goto (-18), 3) := by decide +kernel
theorem dX7_part_52 : decode cX7_part 52 = .ok (.iconst 0, 1) := by decide +kernel
theorem dX7_part_53 : decode cX7_part 53 = .ok (.istore 5, 2) := by decide +kernel
theorem dX7_part_55 : decode cX7_part 55 = .ok (.iload 5, 2) := by decide +kernel
theorem dX7_part_57 : decode cX7_part 57 = .ok (.bipush 21, 2) := by decide +kernel
theorem dX7_part_59 : decode cX7_part 59 = .ok (.if_icmp .ge 49, 3) := by decide +kernel
theorem dX7_part_62 : decode cX7_part 62 = .ok (.iload 5, 2) := by decide +kernel
theorem dX7_part_64 : decode cX7_part 64 = .ok (.iload_n 2, 1) := by decide +kernel
theorem dX7_part_65 : decode cX7_part 65 = .ok (.imul, 1) := by decide +kernel
theorem dX7_part_66 : decode cX7_part 66 = .ok (.bipush 100, 2) := by decide +kernel
theorem dX7_part_68 : decode cX7_part 68 = .ok (.idiv, 1) := by decide +kernel
theorem dX7_part_69 : decode cX7_part 69 = .ok (.istore 6, 2) := by decide +kernel
theorem dX7_part_71 : decode cX7_part 71 = .ok (.aload_n 0, 1) := by decide +kernel
theorem dX7_part_72 : decode cX7_part 72 = .ok (.getfield 24, 3) := by decide +kernel
theorem dX7_part_75 : decode cX7_part 75 = .ok (.iload_n 3, 1) := by decide +kernel
theorem dX7_part_76 : decode cX7_part 76 = .ok (.ifCond .eq 11, 3) := by decide +kernel
theorem dX7_part_79 : decode cX7_part 79 = .ok (.iload 5, 2) := by decide +kernel
theorem dX7_part_81 : decode cX7_part 81 = .ok (.iload 6, 2) := by decide +kernel
theorem dX7_part_83 : decode cX7_part 83 = .ok (.isub, 1) := by decide +kernel
theorem dX7_part_84 : decode cX7_part 84 = .ok (.goto 5, 3) := by decide +kernel
theorem dX7_part_87 : decode cX7_part 87 = .ok (.iload 6, 2) := by decide +kernel
theorem dX7_part_89 : decode cX7_part 89 = .ok (.dup2, 1) := by decide +kernel
theorem dX7_part_90 : decode cX7_part 90 = .ok (.iaload, 1) := by decide +kernel
theorem dX7_part_91 : decode cX7_part 91 = .ok (.aload_n 0, 1) := by decide +kernel
theorem dX7_part_92 : decode cX7_part 92 = .ok (.getfield 11, 3) := by decide +kernel
theorem dX7_part_95 : decode cX7_part 95 = .ok (.iload_n 1, 1) := by decide +kernel
theorem dX7_part_96 : decode cX7_part 96 = .ok (.aaload, 1) := by decide +kernel
theorem dX7_part_97 : decode cX7_part 97 = .ok (.iload 5, 2) := by decide +kernel
theorem dX7_part_99 : decode cX7_part 99 = .ok (.iaload, 1) := by decide +kernel
theorem dX7_part_100 : decode cX7_part 100 = .ok (.iadd, 1) := by decide +kernel
theorem dX7_part_101 : decode cX7_part 101 = .ok (.iastore, 1) := by decide +kernel
theorem dX7_part_102 : decode cX7_part 102 = .ok (.iinc 5 1, 3) := by decide +kernel
theorem dX7_part_105 : decode cX7_part 105 = .ok (.goto (-50), 3) := by decide +kernel
theorem dX7_part_108 : decode cX7_part 108 = .ok (.aload_n 0, 1) := by decide +kernel
theorem dX7_part_109 : decode cX7_part 109 = .ok (.iload 4, 2) := by decide +kernel
theorem dX7_part_111 : decode cX7_part 111 = .ok (.invokevirtual 107, 3) := by decide +kernel
theorem dX7_part_114 : decode cX7_part 114 = .ok (.ireturn, 1) := by decide +kernel
theorem dX7_lighter_0 : decode cX7_lighter 0 = .ok (.aload_n 0, 1) := by decide +kernel
theorem dX7_lighter_1 : decode cX7_lighter 1 = .ok (.iload_n 1, 1) := by decide +kernel
theorem dX7_lighter_2 : decode cX7_lighter 2 = .ok (.invokevirtual 88, 3) := by decide +kernel
theorem dX7_lighter_5 : decode cX7_lighter 5 = .ok (.ifCond .eq 11, 3) := by decide +kernel
theorem dX7_lighter_8 : decode cX7_lighter 8 = .ok (.aload_n 0, 1) := by decide +kernel
theorem dX7_lighter_9 : decode cX7_lighter 9 = .ok (.iload_n 2, 1) := by decide +kernel
theorem dX7_lighter_10 : decode cX7_lighter 10 = .ok (.invokevirtual 88, 3) := by decide +kernel
theorem dX7_lighter_13 : decode cX7_lighter 13 = .ok (.ifCond .ne 5, 3) := by decide +kernel
theorem dX7_lighter_16 : decode cX7_lighter 16 = .ok (.iconst 0, 1) := by decide +kernel
theorem dX7_lighter_17 : decode cX7_lighter 17 = .ok (.ireturn, 1) := by decide +kernel
theorem dX7_lighter_18 : decode cX7_lighter 18 = .ok (.iconst 0, 1) := by decide +kernel
theorem dX7_lighter_19 : decode cX7_lighter 19 = .ok (.istore_n 3, 1) := by decide +kernel
theorem dX7_lighter_20 : decode cX7_lighter 20 = .ok (.iload_n 3, 1) := by decide +kernel
theorem dX7_lighter_21 : decode cX7_lighter 21 = .ok (.bipush 21, 2) := by decide +kernel
theorem dX7_lighter_23 : decode cX7_lighter 23 = .ok (.if_icmp .ge 26, 3) := by decide +kernel
theorem dX7_lighter_26 : decode cX7_lighter 26 = .ok (.aload_n 0, 1) := by decide +kernel
theorem dX7_lighter_27 : decode cX7_lighter 27 = .ok (.iload_n 1, 1) := by decide +kernel
theorem dX7_lighter_28 : decode cX7_lighter 28 = .ok (.iload_n 3, 1) := by decide +kernel
theorem dX7_lighter_29 : decode cX7_lighter 29 = .ok (.invokevirtual 95, 3) := by decide +kernel
theorem dX7_lighter_32 : decode cX7_lighter 32 = .ok (.aload_n 0, 1) := by decide +kernel
theorem dX7_lighter_33 : decode cX7_lighter 33 = .ok (.iload_n 2, 1) := by decide +kernel
theorem dX7_lighter_34 : decode cX7_lighter 34 = .ok (.iload_n 3, 1) := by decide +kernel
theorem dX7_lighter_35 : decode cX7_lighter 35 = .ok (.invokevirtual 95, 3) := by decide +kernel
theorem dX7_lighter_38 : decode cX7_lighter 38 = .ok (.if_icmp .le 5, 3) := by decide +kernel
theorem dX7_lighter_41 : decode cX7_lighter 41 = .ok (.iconst 0, 1) := by decide +kernel
theorem dX7_lighter_42 : decode cX7_lighter 42 = .ok (.ireturn, 1) := by decide +kernel
theorem dX7_lighter_43 : decode cX7_lighter 43 = .ok (.iinc 3 1, 3) := by decide +kernel
theorem dX7_lighter_46 : decode cX7_lighter 46 = .ok (.goto (-26), 3) := by decide +kernel
theorem dX7_lighter_49 : decode cX7_lighter 49 = .ok (.iconst 1, 1) := by decide +kernel
theorem dX7_lighter_50 : decode cX7_lighter 50 = .ok (.ireturn, 1) := by decide +kernel
theorem dX7_zero_0 : decode cX7_zero 0 = .ok (.iconst 0, 1) := by decide +kernel
theorem dX7_zero_1 : decode cX7_zero 1 = .ok (.istore_n 1, 1) := by decide +kernel
theorem dX7_zero_2 : decode cX7_zero 2 = .ok (.iload_n 1, 1) := by decide +kernel
theorem dX7_zero_3 : decode cX7_zero 3 = .ok (.bipush 72, 2) := by decide +kernel
theorem dX7_zero_5 : decode cX7_zero 5 = .ok (.if_icmp .ge 13, 3) := by decide +kernel
theorem dX7_zero_8 : decode cX7_zero 8 = .ok (.aload_n 0, 1) := by decide +kernel
theorem dX7_zero_9 : decode cX7_zero 9 = .ok (.iload_n 1, 1) := by decide +kernel
theorem dX7_zero_10 : decode cX7_zero 10 = .ok (.iconst 0, 1) := by decide +kernel
theorem dX7_zero_11 : decode cX7_zero 11 = .ok (.iastore, 1) := by decide +kernel
theorem dX7_zero_12 : decode cX7_zero 12 = .ok (.iinc 1 1, 3) := by decide +kernel
theorem dX7_zero_15 : decode cX7_zero 15 = .ok (.goto (-13), 3) := by decide +kernel
theorem dX7_zero_18 : decode cX7_zero 18 = .ok (.return_, 1) := by decide +kernel
theorem dX7_copy_0 : decode cX7_copy 0 = .ok (.iconst 0, 1) := by decide +kernel
theorem dX7_copy_1 : decode cX7_copy 1 = .ok (.istore_n 2, 1) := by decide +kernel
theorem dX7_copy_2 : decode cX7_copy 2 = .ok (.iload_n 2, 1) := by decide +kernel
theorem dX7_copy_3 : decode cX7_copy 3 = .ok (.bipush 72, 2) := by decide +kernel
theorem dX7_copy_5 : decode cX7_copy 5 = .ok (.if_icmp .ge 15, 3) := by decide +kernel
theorem dX7_copy_8 : decode cX7_copy 8 = .ok (.aload_n 1, 1) := by decide +kernel
theorem dX7_copy_9 : decode cX7_copy 9 = .ok (.iload_n 2, 1) := by decide +kernel
theorem dX7_copy_10 : decode cX7_copy 10 = .ok (.aload_n 0, 1) := by decide +kernel
theorem dX7_copy_11 : decode cX7_copy 11 = .ok (.iload_n 2, 1) := by decide +kernel
theorem dX7_copy_12 : decode cX7_copy 12 = .ok (.iaload, 1) := by decide +kernel
theorem dX7_copy_13 : decode cX7_copy 13 = .ok (.iastore, 1) := by decide +kernel
theorem dX7_copy_14 : decode cX7_copy 14 = .ok (.iinc 2 1, 3) := by decide +kernel
theorem dX7_copy_17 : decode cX7_copy 17 = .ok (.goto (-15), 3) := by decide +kernel
theorem dX7_copy_20 : decode cX7_copy 20 = .ok (.return_, 1) := by decide +kernel
theorem dX7_add_0 : decode cX7_add 0 = .ok (.iload_n 3, 1) := by decide +kernel
theorem dX7_add_1 : decode cX7_add 1 = .ok (.ifCond .ne 4, 3) := by decide +kernel
theorem dX7_add_4 : decode cX7_add 4 = .ok (.return_, 1) := by decide +kernel
theorem dX7_add_5 : decode cX7_add 5 = .ok (.lconst 0, 1) := by decide +kernel
theorem dX7_add_6 : decode cX7_add 6 = .ok (.lstore 5, 2) := by decide +kernel
theorem dX7_add_8 : decode cX7_add 8 = .ok (.iconst 0, 1) := by decide +kernel
theorem dX7_add_9 : decode cX7_add 9 = .ok (.istore 7, 2) := by decide +kernel
theorem dX7_add_11 : decode cX7_add 11 = .ok (.iload 7, 2) := by decide +kernel
theorem dX7_add_13 : decode cX7_add 13 = .ok (.iload 4, 2) := by decide +kernel
theorem dX7_add_15 : decode cX7_add 15 = .ok (.iadd, 1) := by decide +kernel
theorem dX7_add_16 : decode cX7_add 16 = .ok (.aload_n 0, 1) := by decide +kernel
theorem dX7_add_17 : decode cX7_add 17 = .ok (.getfield 27, 3) := by decide +kernel
theorem dX7_add_20 : decode cX7_add 20 = .ok (.if_icmp .ge 53, 3) := by decide +kernel
theorem dX7_add_23 : decode cX7_add 23 = .ok (.aload_n 1, 1) := by decide +kernel
theorem dX7_add_24 : decode cX7_add 24 = .ok (.iload 7, 2) := by decide +kernel
theorem dX7_add_26 : decode cX7_add 26 = .ok (.iload 4, 2) := by decide +kernel
theorem dX7_add_28 : decode cX7_add 28 = .ok (.iadd, 1) := by decide +kernel
theorem dX7_add_29 : decode cX7_add 29 = .ok (.iaload, 1) := by decide +kernel
theorem dX7_add_30 : decode cX7_add 30 = .ok (.i2l, 1) := by decide +kernel
theorem dX7_add_31 : decode cX7_add 31 = .ok (.aload_n 2, 1) := by decide +kernel
theorem dX7_add_32 : decode cX7_add 32 = .ok (.iload 7, 2) := by decide +kernel
theorem dX7_add_34 : decode cX7_add 34 = .ok (.iaload, 1) := by decide +kernel
theorem dX7_add_35 : decode cX7_add 35 = .ok (.i2l, 1) := by decide +kernel
theorem dX7_add_36 : decode cX7_add 36 = .ok (.iload_n 3, 1) := by decide +kernel
theorem dX7_add_37 : decode cX7_add 37 = .ok (.i2l, 1) := by decide +kernel
theorem dX7_add_38 : decode cX7_add 38 = .ok (.lmul, 1) := by decide +kernel
theorem dX7_add_39 : decode cX7_add 39 = .ok (.ladd, 1) := by decide +kernel
theorem dX7_add_40 : decode cX7_add 40 = .ok (.lload 5, 2) := by decide +kernel
theorem dX7_add_42 : decode cX7_add 42 = .ok (.ladd, 1) := by decide +kernel
theorem dX7_add_43 : decode cX7_add 43 = .ok (.lstore 8, 2) := by decide +kernel
theorem dX7_add_45 : decode cX7_add 45 = .ok (.aload_n 1, 1) := by decide +kernel
theorem dX7_add_46 : decode cX7_add 46 = .ok (.iload 7, 2) := by decide +kernel
theorem dX7_add_48 : decode cX7_add 48 = .ok (.iload 4, 2) := by decide +kernel
theorem dX7_add_50 : decode cX7_add 50 = .ok (.iadd, 1) := by decide +kernel
theorem dX7_add_51 : decode cX7_add 51 = .ok (.lload 8, 2) := by decide +kernel
theorem dX7_add_53 : decode cX7_add 53 = .ok (.ldc2_w 110, 3) := by decide +kernel
theorem dX7_add_56 : decode cX7_add 56 = .ok (.lrem, 1) := by decide +kernel
theorem dX7_add_57 : decode cX7_add 57 = .ok (.l2i, 1) := by decide +kernel
theorem dX7_add_58 : decode cX7_add 58 = .ok (.iastore, 1) := by decide +kernel
theorem dX7_add_59 : decode cX7_add 59 = .ok (.lload 8, 2) := by decide +kernel
theorem dX7_add_61 : decode cX7_add 61 = .ok (.ldc2_w 110, 3) := by decide +kernel
theorem dX7_add_64 : decode cX7_add 64 = .ok (.ldiv, 1) := by decide +kernel
theorem dX7_add_65 : decode cX7_add 65 = .ok (.lstore 5, 2) := by decide +kernel
theorem dX7_add_67 : decode cX7_add 67 = .ok (.iinc 7 1, 3) := by decide +kernel
theorem dX7_add_70 : decode cX7_add 70 = .ok (.goto (-59), 3) := by decide +kernel
theorem dX7_add_73 : decode cX7_add 73 = .ok (.return_, 1) := by decide +kernel
theorem dX7_take_0 : decode cX7_take 0 = .ok (.iconst 0, 1) := by decide +kernel
theorem dX7_take_1 : decode cX7_take 1 = .ok (.istore_n 2, 1) := by decide +kernel
theorem dX7_take_2 : decode cX7_take 2 = .ok (.iconst 0, 1) := by decide +kernel
theorem dX7_take_3 : decode cX7_take 3 = .ok (.istore_n 3, 1) := by decide +kernel
theorem dX7_take_4 : decode cX7_take 4 = .ok (.iload_n 3, 1) := by decide +kernel
theorem dX7_take_5 : decode cX7_take 5 = .ok (.bipush 72, 2) := by decide +kernel
theorem dX7_take_7 : decode cX7_take 7 = .ok (.if_icmp .ge 50, 3) := by decide +kernel
theorem dX7_take_10 : decode cX7_take 10 = .ok (.aload_n 0, 1) := by decide +kernel
theorem dX7_take_11 : decode cX7_take 11 = .ok (.iload_n 3, 1) := by decide +kernel
theorem dX7_take_12 : decode cX7_take 12 = .ok (.iaload, 1) := by decide +kernel
theorem dX7_take_13 : decode cX7_take 13 = .ok (.aload_n 1, 1) := by decide +kernel
theorem dX7_take_14 : decode cX7_take 14 = .ok (.iload_n 3, 1) := by decide +kernel
theorem dX7_take_15 : decode cX7_take 15 = .ok (.iaload, 1) := by decide +kernel
theorem dX7_take_16 : decode cX7_take 16 = .ok (.isub, 1) := by decide +kernel
theorem dX7_take_17 : decode cX7_take 17 = .ok (.iload_n 2, 1) := by decide +kernel
theorem dX7_take_18 : decode cX7_take 18 = .ok (.isub, 1) := by decide +kernel
theorem dX7_take_19 : decode cX7_take 19 = .ok (.istore 4, 2) := by decide +kernel
theorem dX7_take_21 : decode cX7_take 21 = .ok (.iload 4, 2) := by decide +kernel
theorem dX7_take_23 : decode cX7_take 23 = .ok (.ifCond .ge 7, 3) := by decide +kernel
theorem dX7_take_26 : decode cX7_take 26 = .ok (.iconst 1, 1) := by decide +kernel
theorem dX7_take_27 : decode cX7_take 27 = .ok (.goto 4, 3) := by decide +kernel
theorem dX7_take_30 : decode cX7_take 30 = .ok (.iconst 0, 1) := by decide +kernel
theorem dX7_take_31 : decode cX7_take 31 = .ok (.istore_n 2, 1) := by decide +kernel
theorem dX7_take_32 : decode cX7_take 32 = .ok (.aload_n 0, 1) := by decide +kernel
theorem dX7_take_33 : decode cX7_take 33 = .ok (.iload_n 3, 1) := by decide +kernel
theorem dX7_take_34 : decode cX7_take 34 = .ok (.iload 4, 2) := by decide +kernel
theorem dX7_take_36 : decode cX7_take 36 = .ok (.ifCond .ge 12, 3) := by decide +kernel
theorem dX7_take_39 : decode cX7_take 39 = .ok (.iload 4, 2) := by decide +kernel
theorem dX7_take_41 : decode cX7_take 41 = .ok (.sipush 1000, 3) := by decide +kernel
theorem dX7_take_44 : decode cX7_take 44 = .ok (.iadd, 1) := by decide +kernel
theorem dX7_take_45 : decode cX7_take 45 = .ok (.goto 5, 3) := by decide +kernel
theorem dX7_take_48 : decode cX7_take 48 = .ok (.iload 4, 2) := by decide +kernel
theorem dX7_take_50 : decode cX7_take 50 = .ok (.iastore, 1) := by decide +kernel
theorem dX7_take_51 : decode cX7_take 51 = .ok (.iinc 3 1, 3) := by decide +kernel
theorem dX7_take_54 : decode cX7_take 54 = .ok (.goto (-50), 3) := by decide +kernel
theorem dX7_take_57 : decode cX7_take 57 = .ok (.return_, 1) := by decide +kernel
theorem dX7_compare_0 : decode cX7_compare 0 = .ok (.bipush 71, 2) := by decide +kernel
theorem dX7_compare_2 : decode cX7_compare 2 = .ok (.istore_n 2, 1) := by decide +kernel
theorem dX7_compare_3 : decode cX7_compare 3 = .ok (.iload_n 2, 1) := by decide +kernel
theorem dX7_compare_4 : decode cX7_compare 4 = .ok (.ifCond .lt 33, 3) := by decide +kernel
theorem dX7_compare_7 : decode cX7_compare 7 = .ok (.aload_n 0, 1) := by decide +kernel
theorem dX7_compare_8 : decode cX7_compare 8 = .ok (.iload_n 2, 1) := by decide +kernel
theorem dX7_compare_9 : decode cX7_compare 9 = .ok (.iaload, 1) := by decide +kernel
theorem dX7_compare_10 : decode cX7_compare 10 = .ok (.aload_n 1, 1) := by decide +kernel
theorem dX7_compare_11 : decode cX7_compare 11 = .ok (.iload_n 2, 1) := by decide +kernel
theorem dX7_compare_12 : decode cX7_compare 12 = .ok (.iaload, 1) := by decide +kernel
theorem dX7_compare_13 : decode cX7_compare 13 = .ok (.if_icmp .eq 18, 3) := by decide +kernel
theorem dX7_compare_16 : decode cX7_compare 16 = .ok (.aload_n 0, 1) := by decide +kernel
theorem dX7_compare_17 : decode cX7_compare 17 = .ok (.iload_n 2, 1) := by decide +kernel
theorem dX7_compare_18 : decode cX7_compare 18 = .ok (.iaload, 1) := by decide +kernel
theorem dX7_compare_19 : decode cX7_compare 19 = .ok (.aload_n 1, 1) := by decide +kernel
theorem dX7_compare_20 : decode cX7_compare 20 = .ok (.iload_n 2, 1) := by decide +kernel
theorem dX7_compare_21 : decode cX7_compare 21 = .ok (.iaload, 1) := by decide +kernel
theorem dX7_compare_22 : decode cX7_compare 22 = .ok (.if_icmp .ge 7, 3) := by decide +kernel
theorem dX7_compare_25 : decode cX7_compare 25 = .ok (.iconst (-1), 1) := by decide +kernel
theorem dX7_compare_26 : decode cX7_compare 26 = .ok (.goto 4, 3) := by decide +kernel
theorem dX7_compare_29 : decode cX7_compare 29 = .ok (.iconst 1, 1) := by decide +kernel
theorem dX7_compare_30 : decode cX7_compare 30 = .ok (.ireturn, 1) := by decide +kernel
theorem dX7_compare_31 : decode cX7_compare 31 = .ok (.iinc 2 (-1), 3) := by decide +kernel
theorem dX7_compare_34 : decode cX7_compare 34 = .ok (.goto (-31), 3) := by decide +kernel
theorem dX7_compare_37 : decode cX7_compare 37 = .ok (.iconst 0, 1) := by decide +kernel
theorem dX7_compare_38 : decode cX7_compare 38 = .ok (.ireturn, 1) := by decide +kernel
theorem dX7_set__0 : decode cX7_set_ 0 = .ok (.aload_n 0, 1) := by decide +kernel
theorem dX7_set__1 : decode cX7_set_ 1 = .ok (.invokestatic 112, 3) := by decide +kernel
theorem dX7_set__4 : decode cX7_set_ 4 = .ok (.iload_n 1, 1) := by decide +kernel
theorem dX7_set__5 : decode cX7_set_ 5 = .ok (.istore_n 3, 1) := by decide +kernel
theorem dX7_set__6 : decode cX7_set_ 6 = .ok (.iload_n 2, 1) := by decide +kernel
theorem dX7_set__7 : decode cX7_set_ 7 = .ok (.istore 4, 2) := by decide +kernel
theorem dX7_set__9 : decode cX7_set_ 9 = .ok (.iload_n 3, 1) := by decide +kernel
theorem dX7_set__10 : decode cX7_set_ 10 = .ok (.ifCond .le 24, 3) := by decide +kernel
theorem dX7_set__13 : decode cX7_set_ 13 = .ok (.aload_n 0, 1) := by decide +kernel
theorem dX7_set__14 : decode cX7_set_ 14 = .ok (.iload 4, 2) := by decide +kernel
theorem dX7_set__16 : decode cX7_set_ 16 = .ok (.iload_n 3, 1) := by decide +kernel
theorem dX7_set__17 : decode cX7_set_ 17 = .ok (.sipush 1000, 3) := by decide +kernel
theorem dX7_set__20 : decode cX7_set_ 20 = .ok (.irem, 1) := by decide +kernel
theorem dX7_set__21 : decode cX7_set_ 21 = .ok (.iastore, 1) := by decide +kernel
theorem dX7_set__22 : decode cX7_set_ 22 = .ok (.iload_n 3, 1) := by decide +kernel
theorem dX7_set__23 : decode cX7_set_ 23 = .ok (.sipush 1000, 3) := by decide +kernel
theorem dX7_set__26 : decode cX7_set_ 26 = .ok (.idiv, 1) := by decide +kernel
theorem dX7_set__27 : decode cX7_set_ 27 = .ok (.istore_n 3, 1) := by decide +kernel
theorem dX7_set__28 : decode cX7_set_ 28 = .ok (.iinc 4 1, 3) := by decide +kernel
theorem dX7_set__31 : decode cX7_set_ 31 = .ok (.goto (-22), 3) := by decide +kernel
theorem dX7_set__34 : decode cX7_set_ 34 = .ok (.return_, 1) := by decide +kernel
theorem dX7_decimal_0 : decode cX7_decimal 0 = .ok (.iload_n 1, 1) := by decide +kernel
theorem dX7_decimal_1 : decode cX7_decimal 1 = .ok (.iconst 1, 1) := by decide +kernel
theorem dX7_decimal_2 : decode cX7_decimal 2 = .ok (.isub, 1) := by decide +kernel
theorem dX7_decimal_3 : decode cX7_decimal 3 = .ok (.iload_n 2, 1) := by decide +kernel
theorem dX7_decimal_4 : decode cX7_decimal 4 = .ok (.iconst 1, 1) := by decide +kernel
theorem dX7_decimal_5 : decode cX7_decimal 5 = .ok (.isub, 1) := by decide +kernel
theorem dX7_decimal_6 : decode cX7_decimal 6 = .ok (.iconst 3, 1) := by decide +kernel
theorem dX7_decimal_7 : decode cX7_decimal 7 = .ok (.idiv, 1) := by decide +kernel
theorem dX7_decimal_8 : decode cX7_decimal 8 = .ok (.isub, 1) := by decide +kernel
theorem dX7_decimal_9 : decode cX7_decimal 9 = .ok (.istore_n 3, 1) := by decide +kernel
theorem dX7_decimal_10 : decode cX7_decimal 10 = .ok (.aload_n 0, 1) := by decide +kernel
theorem dX7_decimal_11 : decode cX7_decimal 11 = .ok (.iload_n 3, 1) := by decide +kernel
theorem dX7_decimal_12 : decode cX7_decimal 12 = .ok (.iaload, 1) := by decide +kernel
theorem dX7_decimal_13 : decode cX7_decimal 13 = .ok (.istore 4, 2) := by decide +kernel
theorem dX7_decimal_15 : decode cX7_decimal 15 = .ok (.iload_n 2, 1) := by decide +kernel
theorem dX7_decimal_16 : decode cX7_decimal 16 = .ok (.iconst 1, 1) := by decide +kernel
theorem dX7_decimal_17 : decode cX7_decimal 17 = .ok (.isub, 1) := by decide +kernel
theorem dX7_decimal_18 : decode cX7_decimal 18 = .ok (.iconst 3, 1) := by decide +kernel
theorem dX7_decimal_19 : decode cX7_decimal 19 = .ok (.irem, 1) := by decide +kernel
theorem dX7_decimal_20 : decode cX7_decimal 20 = .ok (.istore 5, 2) := by decide +kernel
theorem dX7_decimal_22 : decode cX7_decimal 22 = .ok (.iload 5, 2) := by decide +kernel
theorem dX7_decimal_24 : decode cX7_decimal 24 = .ok (.ifCond .ne 11, 3) := by decide +kernel
theorem dX7_decimal_27 : decode cX7_decimal 27 = .ok (.iload 4, 2) := by decide +kernel
theorem dX7_decimal_29 : decode cX7_decimal 29 = .ok (.bipush 100, 2) := by decide +kernel
theorem dX7_decimal_31 : decode cX7_decimal 31 = .ok (.idiv, 1) := by decide +kernel
theorem dX7_decimal_32 : decode cX7_decimal 32 = .ok (.goto 25, 3) := by decide +kernel
theorem dX7_decimal_35 : decode cX7_decimal 35 = .ok (.iload 5, 2) := by decide +kernel
theorem dX7_decimal_37 : decode cX7_decimal 37 = .ok (.iconst 1, 1) := by decide +kernel
theorem dX7_decimal_38 : decode cX7_decimal 38 = .ok (.if_icmp .ne 14, 3) := by decide +kernel
theorem dX7_decimal_41 : decode cX7_decimal 41 = .ok (.iload 4, 2) := by decide +kernel
theorem dX7_decimal_43 : decode cX7_decimal 43 = .ok (.bipush 10, 2) := by decide +kernel
theorem dX7_decimal_45 : decode cX7_decimal 45 = .ok (.idiv, 1) := by decide +kernel
theorem dX7_decimal_46 : decode cX7_decimal 46 = .ok (.bipush 10, 2) := by decide +kernel
theorem dX7_decimal_48 : decode cX7_decimal 48 = .ok (.irem, 1) := by decide +kernel
theorem dX7_decimal_49 : decode cX7_decimal 49 = .ok (.goto 8, 3) := by decide +kernel
theorem dX7_decimal_52 : decode cX7_decimal 52 = .ok (.iload 4, 2) := by decide +kernel
theorem dX7_decimal_54 : decode cX7_decimal 54 = .ok (.bipush 10, 2) := by decide +kernel
theorem dX7_decimal_56 : decode cX7_decimal 56 = .ok (.irem, 1) := by decide +kernel
theorem dX7_decimal_57 : decode cX7_decimal 57 = .ok (.ireturn, 1) := by decide +kernel
theorem dX7_canRuin_0 : decode cX7_canRuin 0 = .ok (.iload_n 1, 1) := by decide +kernel
theorem dX7_canRuin_1 : decode cX7_canRuin 1 = .ok (.iconst 0, 1) := by decide +kernel
theorem dX7_canRuin_2 : decode cX7_canRuin 2 = .ok (.bipush 100, 2) := by decide +kernel
theorem dX7_canRuin_4 : decode cX7_canRuin 4 = .ok (.invokestatic 80, 3) := by decide +kernel
theorem dX7_canRuin_7 : decode cX7_canRuin 7 = .ok (.ifCond .eq 36, 3) := by decide +kernel
theorem dX7_canRuin_10 : decode cX7_canRuin 10 = .ok (.iload_n 2, 1) := by decide +kernel
theorem dX7_canRuin_11 : decode cX7_canRuin 11 = .ok (.iconst 0, 1) := by decide +kernel
theorem dX7_canRuin_12 : decode cX7_canRuin 12 = .ok (.bipush 20, 2) := by decide +kernel
theorem dX7_canRuin_14 : decode cX7_canRuin 14 = .ok (.invokestatic 80, 3) := by decide +kernel
theorem dX7_canRuin_17 : decode cX7_canRuin 17 = .ok (.ifCond .eq 26, 3) := by decide +kernel
theorem dX7_canRuin_20 : decode cX7_canRuin 20 = .ok (.aload_n 0, 1) := by decide +kernel
theorem dX7_canRuin_21 : decode cX7_canRuin 21 = .ok (.iload_n 3, 1) := by decide +kernel
theorem dX7_canRuin_22 : decode cX7_canRuin 22 = .ok (.invokevirtual 88, 3) := by decide +kernel
theorem dX7_canRuin_25 : decode cX7_canRuin 25 = .ok (.ifCond .eq 18, 3) := by decide +kernel
theorem dX7_canRuin_28 : decode cX7_canRuin 28 = .ok (.iload 4, 2) := by decide +kernel
theorem dX7_canRuin_30 : decode cX7_canRuin 30 = .ok (.iconst 1, 1) := by decide +kernel
theorem dX7_canRuin_31 : decode cX7_canRuin 31 = .ok (.iload 5, 2) := by decide +kernel
theorem dX7_canRuin_33 : decode cX7_canRuin 33 = .ok (.invokestatic 80, 3) := by decide +kernel
theorem dX7_canRuin_36 : decode cX7_canRuin 36 = .ok (.ifCond .eq 7, 3) := by decide +kernel
theorem dX7_canRuin_39 : decode cX7_canRuin 39 = .ok (.iconst 1, 1) := by decide +kernel
theorem dX7_canRuin_40 : decode cX7_canRuin 40 = .ok (.goto 4, 3) := by decide +kernel
theorem dX7_canRuin_43 : decode cX7_canRuin 43 = .ok (.iconst 0, 1) := by decide +kernel
theorem dX7_canRuin_44 : decode cX7_canRuin 44 = .ok (.ireturn, 1) := by decide +kernel
theorem dX7_runs_0 : decode cX7_runs 0 = .ok (.iconst 0, 1) := by decide +kernel
theorem dX7_runs_1 : decode cX7_runs 1 = .ok (.istore 5, 2) := by decide +kernel
theorem dX7_runs_3 : decode cX7_runs 3 = .ok (.iload 5, 2) := by decide +kernel
theorem dX7_runs_5 : decode cX7_runs 5 = .ok (.sipush 901, 3) := by decide +kernel
theorem dX7_runs_8 : decode cX7_runs 8 = .ok (.if_icmp .ge 19, 3) := by decide +kernel
theorem dX7_runs_11 : decode cX7_runs 11 = .ok (.aload_n 0, 1) := by decide +kernel
theorem dX7_runs_12 : decode cX7_runs 12 = .ok (.getfield 34, 3) := by decide +kernel
theorem dX7_runs_15 : decode cX7_runs 15 = .ok (.iload 5, 2) := by decide +kernel
theorem dX7_runs_17 : decode cX7_runs 17 = .ok (.aaload, 1) := by decide +kernel
theorem dX7_runs_18 : decode cX7_runs 18 = .ok (.invokestatic 112, 3) := by decide +kernel
theorem dX7_runs_21 : decode cX7_runs 21 = .ok (.iinc 5 1, 3) := by decide +kernel
theorem dX7_runs_24 : decode cX7_runs 24 = .ok (.goto (-21), 3) := by decide +kernel
theorem dX7_runs_27 : decode cX7_runs 27 = .ok (.iconst 0, 1) := by decide +kernel
theorem dX7_runs_28 : decode cX7_runs 28 = .ok (.istore 5, 2) := by decide +kernel
theorem dX7_runs_30 : decode cX7_runs 30 = .ok (.iload 5, 2) := by decide +kernel
theorem dX7_runs_32 : decode cX7_runs 32 = .ok (.bipush 40, 2) := by decide +kernel
theorem dX7_runs_34 : decode cX7_runs 34 = .ok (.if_icmp .gt 19, 3) := by decide +kernel
theorem dX7_runs_37 : decode cX7_runs 37 = .ok (.aload_n 0, 1) := by decide +kernel
theorem dX7_runs_38 : decode cX7_runs 38 = .ok (.getfield 40, 3) := by decide +kernel
theorem dX7_runs_41 : decode cX7_runs 41 = .ok (.iload 5, 2) := by decide +kernel
theorem dX7_runs_43 : decode cX7_runs 43 = .ok (.aaload, 1) := by decide +kernel
theorem dX7_runs_44 : decode cX7_runs 44 = .ok (.invokestatic 112, 3) := by decide +kernel
theorem dX7_runs_47 : decode cX7_runs 47 = .ok (.iinc 5 1, 3) := by decide +kernel
theorem dX7_runs_50 : decode cX7_runs 50 = .ok (.goto (-20), 3) := by decide +kernel
theorem dX7_runs_53 : decode cX7_runs 53 = .ok (.iconst 0, 1) := by decide +kernel
theorem dX7_runs_54 : decode cX7_runs 54 = .ok (.istore 5, 2) := by decide +kernel
theorem dX7_runs_56 : decode cX7_runs 56 = .ok (.iload 5, 2) := by decide +kernel
theorem dX7_runs_58 : decode cX7_runs 58 = .ok (.bipush 21, 2) := by decide +kernel
theorem dX7_runs_60 : decode cX7_runs 60 = .ok (.if_icmp .ge 19, 3) := by decide +kernel
theorem dX7_runs_63 : decode cX7_runs 63 = .ok (.aload_n 0, 1) := by decide +kernel
theorem dX7_runs_64 : decode cX7_runs 64 = .ok (.getfield 43, 3) := by decide +kernel
theorem dX7_runs_67 : decode cX7_runs 67 = .ok (.iload 5, 2) := by decide +kernel
theorem dX7_runs_69 : decode cX7_runs 69 = .ok (.aaload, 1) := by decide +kernel
theorem dX7_runs_70 : decode cX7_runs 70 = .ok (.invokestatic 112, 3) := by decide +kernel
theorem dX7_runs_73 : decode cX7_runs 73 = .ok (.iinc 5 1, 3) := by decide +kernel
theorem dX7_runs_76 : decode cX7_runs 76 = .ok (.goto (-20), 3) := by decide +kernel
theorem dX7_runs_79 : decode cX7_runs 79 = .ok (.aload_n 0, 1) := by decide +kernel
theorem dX7_runs_80 : decode cX7_runs 80 = .ok (.getfield 34, 3) := by decide +kernel
theorem dX7_runs_83 : decode cX7_runs 83 = .ok (.iload_n 1, 1) := by decide +kernel
theorem dX7_runs_84 : decode cX7_runs 84 = .ok (.aaload, 1) := by decide +kernel
theorem dX7_runs_85 : decode cX7_runs 85 = .ok (.iconst 0, 1) := by decide +kernel
theorem dX7_runs_86 : decode cX7_runs 86 = .ok (.iconst 1, 1) := by decide +kernel
theorem dX7_runs_87 : decode cX7_runs 87 = .ok (.iastore, 1) := by decide +kernel
theorem dX7_runs_88 : decode cX7_runs 88 = .ok (.aload_n 0, 1) := by decide +kernel
theorem dX7_runs_89 : decode cX7_runs 89 = .ok (.iload 4, 2) := by decide +kernel
theorem dX7_runs_91 : decode cX7_runs 91 = .ok (.iconst 2, 1) := by decide +kernel
theorem dX7_runs_92 : decode cX7_runs 92 = .ok (.iadd, 1) := by decide +kernel
theorem dX7_runs_93 : decode cX7_runs 93 = .ok (.putfield 27, 3) := by decide +kernel
theorem dX7_runs_96 : decode cX7_runs 96 = .ok (.iload_n 1, 1) := by decide +kernel
theorem dX7_runs_97 : decode cX7_runs 97 = .ok (.istore 5, 2) := by decide +kernel
theorem dX7_runs_99 : decode cX7_runs 99 = .ok (.iconst 1, 1) := by decide +kernel
theorem dX7_runs_100 : decode cX7_runs 100 = .ok (.istore 6, 2) := by decide +kernel
theorem dX7_runs_102 : decode cX7_runs 102 = .ok (.iload 6, 2) := by decide +kernel
theorem dX7_runs_104 : decode cX7_runs 104 = .ok (.iload 4, 2) := by decide +kernel
theorem dX7_runs_106 : decode cX7_runs 106 = .ok (.if_icmp .gt 237, 3) := by decide +kernel
theorem dX7_runs_109 : decode cX7_runs 109 = .ok (.iload 5, 2) := by decide +kernel
theorem dX7_runs_111 : decode cX7_runs 111 = .ok (.iload_n 2, 1) := by decide +kernel
theorem dX7_runs_112 : decode cX7_runs 112 = .ok (.iadd, 1) := by decide +kernel
theorem dX7_runs_113 : decode cX7_runs 113 = .ok (.istore 7, 2) := by decide +kernel
theorem dX7_runs_115 : decode cX7_runs 115 = .ok (.iconst 0, 1) := by decide +kernel
theorem dX7_runs_116 : decode cX7_runs 116 = .ok (.istore 8, 2) := by decide +kernel
theorem dX7_runs_118 : decode cX7_runs 118 = .ok (.iload 8, 2) := by decide +kernel
theorem dX7_runs_120 : decode cX7_runs 120 = .ok (.iload 7, 2) := by decide +kernel
theorem dX7_runs_122 : decode cX7_runs 122 = .ok (.if_icmp .gt 19, 3) := by decide +kernel
theorem dX7_runs_125 : decode cX7_runs 125 = .ok (.aload_n 0, 1) := by decide +kernel
theorem dX7_runs_126 : decode cX7_runs 126 = .ok (.getfield 37, 3) := by decide +kernel
theorem dX7_runs_129 : decode cX7_runs 129 = .ok (.iload 8, 2) := by decide +kernel
theorem dX7_runs_131 : decode cX7_runs 131 = .ok (.aaload, 1) := by decide +kernel
theorem dX7_runs_132 : decode cX7_runs 132 = .ok (.invokestatic 112, 3) := by decide +kernel
theorem dX7_runs_135 : decode cX7_runs 135 = .ok (.iinc 8 1, 3) := by decide +kernel
theorem dX7_runs_138 : decode cX7_runs 138 = .ok (.goto (-20), 3) := by decide +kernel
theorem dX7_runs_141 : decode cX7_runs 141 = .ok (.iconst 0, 1) := by decide +kernel
theorem dX7_runs_142 : decode cX7_runs 142 = .ok (.istore 8, 2) := by decide +kernel
theorem dX7_runs_144 : decode cX7_runs 144 = .ok (.iload 8, 2) := by decide +kernel
theorem dX7_runs_146 : decode cX7_runs 146 = .ok (.iload 5, 2) := by decide +kernel
theorem dX7_runs_148 : decode cX7_runs 148 = .ok (.if_icmp .gt 152, 3) := by decide +kernel
theorem dX7_runs_151 : decode cX7_runs 151 = .ok (.aload_n 0, 1) := by decide +kernel
theorem dX7_runs_152 : decode cX7_runs 152 = .ok (.aload_n 0, 1) := by decide +kernel
theorem dX7_runs_153 : decode cX7_runs 153 = .ok (.getfield 34, 3) := by decide +kernel
theorem dX7_runs_156 : decode cX7_runs 156 = .ok (.iload 8, 2) := by decide +kernel
theorem dX7_runs_158 : decode cX7_runs 158 = .ok (.aaload, 1) := by decide +kernel
theorem dX7_runs_159 : decode cX7_runs 159 = .ok (.invokevirtual 116, 3) := by decide +kernel
theorem dX7_runs_162 : decode cX7_runs 162 = .ok (.ifCond .eq 6, 3) := by decide +kernel
theorem dX7_runs_165 : decode cX7_runs 165 = .ok (.goto 129, 3) := by decide +kernel
theorem dX7_runs_168 : decode cX7_runs 168 = .ok (.iconst 0, 1) := by decide +kernel
theorem dX7_runs_169 : decode cX7_runs 169 = .ok (.istore 9, 2) := by decide +kernel
theorem dX7_runs_171 : decode cX7_runs 171 = .ok (.iload 9, 2) := by decide +kernel
theorem dX7_runs_173 : decode cX7_runs 173 = .ok (.bipush 21, 2) := by decide +kernel
theorem dX7_runs_175 : decode cX7_runs 175 = .ok (.if_icmp .ge 119, 3) := by decide +kernel
theorem dX7_runs_178 : decode cX7_runs 178 = .ok (.iload 8, 2) := by decide +kernel
theorem dX7_runs_180 : decode cX7_runs 180 = .ok (.iload_n 2, 1) := by decide +kernel
theorem dX7_runs_181 : decode cX7_runs 181 = .ok (.iadd, 1) := by decide +kernel
theorem dX7_runs_182 : decode cX7_runs 182 = .ok (.iload 9, 2) := by decide +kernel
theorem dX7_runs_184 : decode cX7_runs 184 = .ok (.isub, 1) := by decide +kernel
theorem dX7_runs_185 : decode cX7_runs 185 = .ok (.istore 10, 2) := by decide +kernel
theorem dX7_runs_187 : decode cX7_runs 187 = .ok (.iload 10, 2) := by decide +kernel
theorem dX7_runs_189 : decode cX7_runs 189 = .ok (.ifCond .lt 34, 3) := by decide +kernel
theorem dX7_runs_192 : decode cX7_runs 192 = .ok (.aload_n 0, 1) := by decide +kernel
theorem dX7_runs_193 : decode cX7_runs 193 = .ok (.aload_n 0, 1) := by decide +kernel
theorem dX7_runs_194 : decode cX7_runs 194 = .ok (.getfield 37, 3) := by decide +kernel
theorem dX7_runs_197 : decode cX7_runs 197 = .ok (.iload 10, 2) := by decide +kernel
theorem dX7_runs_199 : decode cX7_runs 199 = .ok (.aaload, 1) := by decide +kernel
theorem dX7_runs_200 : decode cX7_runs 200 = .ok (.aload_n 0, 1) := by decide +kernel
theorem dX7_runs_201 : decode cX7_runs 201 = .ok (.getfield 34, 3) := by decide +kernel
theorem dX7_runs_204 : decode cX7_runs 204 = .ok (.iload 8, 2) := by decide +kernel
theorem dX7_runs_206 : decode cX7_runs 206 = .ok (.aaload, 1) := by decide +kernel
theorem dX7_runs_207 : decode cX7_runs 207 = .ok (.aload_n 0, 1) := by decide +kernel
theorem dX7_runs_208 : decode cX7_runs 208 = .ok (.getfield 11, 3) := by decide +kernel
theorem dX7_runs_211 : decode cX7_runs 211 = .ok (.iload_n 3, 1) := by decide +kernel
theorem dX7_runs_212 : decode cX7_runs 212 = .ok (.aaload, 1) := by decide +kernel
theorem dX7_runs_213 : decode cX7_runs 213 = .ok (.iload 9, 2) := by decide +kernel
theorem dX7_runs_215 : decode cX7_runs 215 = .ok (.iaload, 1) := by decide +kernel
theorem dX7_runs_216 : decode cX7_runs 216 = .ok (.iconst 0, 1) := by decide +kernel
theorem dX7_runs_217 : decode cX7_runs 217 = .ok (.invokevirtual 120, 3) := by decide +kernel
theorem dX7_runs_220 : decode cX7_runs 220 = .ok (.goto 68, 3) := by decide +kernel
theorem dX7_runs_223 : decode cX7_runs 223 = .ok (.aload_n 0, 1) := by decide +kernel
theorem dX7_runs_224 : decode cX7_runs 224 = .ok (.aload_n 0, 1) := by decide +kernel
theorem dX7_runs_225 : decode cX7_runs 225 = .ok (.getfield 40, 3) := by decide +kernel
theorem dX7_runs_228 : decode cX7_runs 228 = .ok (.iload 6, 2) := by decide +kernel
theorem dX7_runs_230 : decode cX7_runs 230 = .ok (.aaload, 1) := by decide +kernel
theorem dX7_runs_231 : decode cX7_runs 231 = .ok (.aload_n 0, 1) := by decide +kernel
theorem dX7_runs_232 : decode cX7_runs 232 = .ok (.getfield 34, 3) := by decide +kernel
theorem dX7_runs_235 : decode cX7_runs 235 = .ok (.iload 8, 2) := by decide +kernel
theorem dX7_runs_237 : decode cX7_runs 237 = .ok (.aaload, 1) := by decide +kernel
theorem dX7_runs_238 : decode cX7_runs 238 = .ok (.aload_n 0, 1) := by decide +kernel
theorem dX7_runs_239 : decode cX7_runs 239 = .ok (.getfield 11, 3) := by decide +kernel
theorem dX7_runs_242 : decode cX7_runs 242 = .ok (.iload_n 3, 1) := by decide +kernel
theorem dX7_runs_243 : decode cX7_runs 243 = .ok (.aaload, 1) := by decide +kernel
theorem dX7_runs_244 : decode cX7_runs 244 = .ok (.iload 9, 2) := by decide +kernel
theorem dX7_runs_246 : decode cX7_runs 246 = .ok (.iaload, 1) := by decide +kernel
theorem dX7_runs_247 : decode cX7_runs 247 = .ok (.iload 4, 2) := by decide +kernel
theorem dX7_runs_249 : decode cX7_runs 249 = .ok (.iload 6, 2) := by decide +kernel
theorem dX7_runs_251 : decode cX7_runs 251 = .ok (.isub, 1) := by decide +kernel
theorem dX7_runs_252 : decode cX7_runs 252 = .ok (.invokevirtual 120, 3) := by decide +kernel
theorem dX7_runs_255 : decode cX7_runs 255 = .ok (.aload_n 0, 1) := by decide +kernel
theorem dX7_runs_256 : decode cX7_runs 256 = .ok (.aload_n 0, 1) := by decide +kernel
theorem dX7_runs_257 : decode cX7_runs 257 = .ok (.getfield 43, 3) := by decide +kernel
theorem dX7_runs_260 : decode cX7_runs 260 = .ok (.iload 10, 2) := by decide +kernel
theorem dX7_runs_262 : decode cX7_runs 262 = .ok (.ineg, 1) := by decide +kernel
theorem dX7_runs_263 : decode cX7_runs 263 = .ok (.aaload, 1) := by decide +kernel
theorem dX7_runs_264 : decode cX7_runs 264 = .ok (.aload_n 0, 1) := by decide +kernel
theorem dX7_runs_265 : decode cX7_runs 265 = .ok (.getfield 34, 3) := by decide +kernel
theorem dX7_runs_268 : decode cX7_runs 268 = .ok (.iload 8, 2) := by decide +kernel
theorem dX7_runs_270 : decode cX7_runs 270 = .ok (.aaload, 1) := by decide +kernel
theorem dX7_runs_271 : decode cX7_runs 271 = .ok (.aload_n 0, 1) := by decide +kernel
theorem dX7_runs_272 : decode cX7_runs 272 = .ok (.getfield 11, 3) := by decide +kernel
theorem dX7_runs_275 : decode cX7_runs 275 = .ok (.iload_n 3, 1) := by decide +kernel
theorem dX7_runs_276 : decode cX7_runs 276 = .ok (.aaload, 1) := by decide +kernel
theorem dX7_runs_277 : decode cX7_runs 277 = .ok (.iload 9, 2) := by decide +kernel
theorem dX7_runs_279 : decode cX7_runs 279 = .ok (.iaload, 1) := by decide +kernel
theorem dX7_runs_280 : decode cX7_runs 280 = .ok (.iload 4, 2) := by decide +kernel
theorem dX7_runs_282 : decode cX7_runs 282 = .ok (.iload 6, 2) := by decide +kernel
theorem dX7_runs_284 : decode cX7_runs 284 = .ok (.isub, 1) := by decide +kernel
theorem dX7_runs_285 : decode cX7_runs 285 = .ok (.invokevirtual 120, 3) := by decide +kernel
theorem dX7_runs_288 : decode cX7_runs 288 = .ok (.iinc 9 1, 3) := by decide +kernel
theorem dX7_runs_291 : decode cX7_runs 291 = .ok (.goto (-120), 3) := by decide +kernel
theorem dX7_runs_294 : decode cX7_runs 294 = .ok (.iinc 8 1, 3) := by decide +kernel
theorem dX7_runs_297 : decode cX7_runs 297 = .ok (.goto (-153), 3) := by decide +kernel
theorem dX7_runs_300 : decode cX7_runs 300 = .ok (.iconst 0, 1) := by decide +kernel
theorem dX7_runs_301 : decode cX7_runs 301 = .ok (.istore 8, 2) := by decide +kernel
theorem dX7_runs_303 : decode cX7_runs 303 = .ok (.iload 8, 2) := by decide +kernel
theorem dX7_runs_305 : decode cX7_runs 305 = .ok (.iload 7, 2) := by decide +kernel
theorem dX7_runs_307 : decode cX7_runs 307 = .ok (.if_icmp .gt 26, 3) := by decide +kernel
theorem dX7_runs_310 : decode cX7_runs 310 = .ok (.aload_n 0, 1) := by decide +kernel
theorem dX7_runs_311 : decode cX7_runs 311 = .ok (.getfield 37, 3) := by decide +kernel
theorem dX7_runs_314 : decode cX7_runs 314 = .ok (.iload 8, 2) := by decide +kernel
theorem dX7_runs_316 : decode cX7_runs 316 = .ok (.aaload, 1) := by decide +kernel
theorem dX7_runs_317 : decode cX7_runs 317 = .ok (.aload_n 0, 1) := by decide +kernel
theorem dX7_runs_318 : decode cX7_runs 318 = .ok (.getfield 34, 3) := by decide +kernel
theorem dX7_runs_321 : decode cX7_runs 321 = .ok (.iload 8, 2) := by decide +kernel
theorem dX7_runs_323 : decode cX7_runs 323 = .ok (.aaload, 1) := by decide +kernel
theorem dX7_runs_324 : decode cX7_runs 324 = .ok (.invokestatic 124, 3) := by decide +kernel
theorem dX7_runs_327 : decode cX7_runs 327 = .ok (.iinc 8 1, 3) := by decide +kernel
theorem dX7_runs_330 : decode cX7_runs 330 = .ok (.goto (-27), 3) := by decide +kernel
theorem dX7_runs_333 : decode cX7_runs 333 = .ok (.iload 7, 2) := by decide +kernel
theorem dX7_runs_335 : decode cX7_runs 335 = .ok (.istore 5, 2) := by decide +kernel
theorem dX7_runs_337 : decode cX7_runs 337 = .ok (.iinc 6 1, 3) := by decide +kernel
theorem dX7_runs_340 : decode cX7_runs 340 = .ok (.goto (-238), 3) := by decide +kernel
theorem dX7_runs_343 : decode cX7_runs 343 = .ok (.aload_n 0, 1) := by decide +kernel
theorem dX7_runs_344 : decode cX7_runs 344 = .ok (.bipush 72, 2) := by decide +kernel
theorem dX7_runs_346 : decode cX7_runs 346 = .ok (.putfield 27, 3) := by decide +kernel
theorem dX7_runs_349 : decode cX7_runs 349 = .ok (.return_, 1) := by decide +kernel
theorem dX7_all_0 : decode cX7_all 0 = .ok (.aload_n 2, 1) := by decide +kernel
theorem dX7_all_1 : decode cX7_all 1 = .ok (.invokestatic 112, 3) := by decide +kernel
theorem dX7_all_4 : decode cX7_all 4 = .ok (.iconst 1, 1) := by decide +kernel
theorem dX7_all_5 : decode cX7_all 5 = .ok (.istore_n 3, 1) := by decide +kernel
theorem dX7_all_6 : decode cX7_all 6 = .ok (.iload_n 3, 1) := by decide +kernel
theorem dX7_all_7 : decode cX7_all 7 = .ok (.iload_n 1, 1) := by decide +kernel
theorem dX7_all_8 : decode cX7_all 8 = .ok (.if_icmp .gt 22, 3) := by decide +kernel
theorem dX7_all_11 : decode cX7_all 11 = .ok (.aload_n 0, 1) := by decide +kernel
theorem dX7_all_12 : decode cX7_all 12 = .ok (.aload_n 2, 1) := by decide +kernel
theorem dX7_all_13 : decode cX7_all 13 = .ok (.aload_n 0, 1) := by decide +kernel
theorem dX7_all_14 : decode cX7_all 14 = .ok (.getfield 40, 3) := by decide +kernel
theorem dX7_all_17 : decode cX7_all 17 = .ok (.iload_n 3, 1) := by decide +kernel
theorem dX7_all_18 : decode cX7_all 18 = .ok (.aaload, 1) := by decide +kernel
theorem dX7_all_19 : decode cX7_all 19 = .ok (.iconst 1, 1) := by decide +kernel
theorem dX7_all_20 : decode cX7_all 20 = .ok (.iconst 0, 1) := by decide +kernel
theorem dX7_all_21 : decode cX7_all 21 = .ok (.invokevirtual 120, 3) := by decide +kernel
theorem dX7_all_24 : decode cX7_all 24 = .ok (.iinc 3 1, 3) := by decide +kernel
theorem dX7_all_27 : decode cX7_all 27 = .ok (.goto (-21), 3) := by decide +kernel
theorem dX7_all_30 : decode cX7_all 30 = .ok (.return_, 1) := by decide +kernel
theorem dX7_ruin_0 : decode cX7_ruin 0 = .ok (.aload_n 0, 1) := by decide +kernel
theorem dX7_ruin_1 : decode cX7_ruin 1 = .ok (.iload_n 1, 1) := by decide +kernel
theorem dX7_ruin_2 : decode cX7_ruin 2 = .ok (.iload_n 2, 1) := by decide +kernel
theorem dX7_ruin_3 : decode cX7_ruin 3 = .ok (.iload_n 3, 1) := by decide +kernel
theorem dX7_ruin_4 : decode cX7_ruin 4 = .ok (.iload 4, 2) := by decide +kernel
theorem dX7_ruin_6 : decode cX7_ruin 6 = .ok (.bipush 40, 2) := by decide +kernel
theorem dX7_ruin_8 : decode cX7_ruin 8 = .ok (.invokevirtual 128, 3) := by decide +kernel
theorem dX7_ruin_11 : decode cX7_ruin 11 = .ok (.ifCond .ne 5, 3) := by decide +kernel
theorem dX7_ruin_14 : decode cX7_ruin 14 = .ok (.iconst 0, 1) := by decide +kernel
theorem dX7_ruin_15 : decode cX7_ruin 15 = .ok (.ireturn, 1) := by decide +kernel
theorem dX7_ruin_16 : decode cX7_ruin 16 = .ok (.aload_n 0, 1) := by decide +kernel
theorem dX7_ruin_17 : decode cX7_ruin 17 = .ok (.iload_n 1, 1) := by decide +kernel
theorem dX7_ruin_18 : decode cX7_ruin 18 = .ok (.iload_n 2, 1) := by decide +kernel
theorem dX7_ruin_19 : decode cX7_ruin 19 = .ok (.iload_n 3, 1) := by decide +kernel
theorem dX7_ruin_20 : decode cX7_ruin 20 = .ok (.iload 4, 2) := by decide +kernel
theorem dX7_ruin_22 : decode cX7_ruin 22 = .ok (.invokevirtual 132, 3) := by decide +kernel
theorem dX7_ruin_25 : decode cX7_ruin 25 = .ok (.iconst 0, 1) := by decide +kernel
theorem dX7_ruin_26 : decode cX7_ruin 26 = .ok (.istore 5, 2) := by decide +kernel
theorem dX7_ruin_28 : decode cX7_ruin 28 = .ok (.iload 5, 2) := by decide +kernel
theorem dX7_ruin_30 : decode cX7_ruin 30 = .ok (.bipush 40, 2) := by decide +kernel
theorem dX7_ruin_32 : decode cX7_ruin 32 = .ok (.if_icmp .gt 26, 3) := by decide +kernel
theorem dX7_ruin_35 : decode cX7_ruin 35 = .ok (.aload_n 0, 1) := by decide +kernel
theorem dX7_ruin_36 : decode cX7_ruin 36 = .ok (.getfield 40, 3) := by decide +kernel
theorem dX7_ruin_39 : decode cX7_ruin 39 = .ok (.iload 5, 2) := by decide +kernel
theorem dX7_ruin_41 : decode cX7_ruin 41 = .ok (.aaload, 1) := by decide +kernel
theorem dX7_ruin_42 : decode cX7_ruin 42 = .ok (.aload_n 0, 1) := by decide +kernel
theorem dX7_ruin_43 : decode cX7_ruin 43 = .ok (.getfield 18, 3) := by decide +kernel
theorem dX7_ruin_46 : decode cX7_ruin 46 = .ok (.iload 5, 2) := by decide +kernel
theorem dX7_ruin_48 : decode cX7_ruin 48 = .ok (.aaload, 1) := by decide +kernel
theorem dX7_ruin_49 : decode cX7_ruin 49 = .ok (.invokestatic 124, 3) := by decide +kernel
theorem dX7_ruin_52 : decode cX7_ruin 52 = .ok (.iinc 5 1, 3) := by decide +kernel
theorem dX7_ruin_55 : decode cX7_ruin 55 = .ok (.goto (-27), 3) := by decide +kernel
theorem dX7_ruin_58 : decode cX7_ruin 58 = .ok (.iconst 0, 1) := by decide +kernel
theorem dX7_ruin_59 : decode cX7_ruin 59 = .ok (.istore 5, 2) := by decide +kernel
theorem dX7_ruin_61 : decode cX7_ruin 61 = .ok (.iload 5, 2) := by decide +kernel
theorem dX7_ruin_63 : decode cX7_ruin 63 = .ok (.bipush 21, 2) := by decide +kernel
theorem dX7_ruin_65 : decode cX7_ruin 65 = .ok (.if_icmp .ge 26, 3) := by decide +kernel
theorem dX7_ruin_68 : decode cX7_ruin 68 = .ok (.aload_n 0, 1) := by decide +kernel
theorem dX7_ruin_69 : decode cX7_ruin 69 = .ok (.getfield 43, 3) := by decide +kernel
theorem dX7_ruin_72 : decode cX7_ruin 72 = .ok (.iload 5, 2) := by decide +kernel
theorem dX7_ruin_74 : decode cX7_ruin 74 = .ok (.aaload, 1) := by decide +kernel
theorem dX7_ruin_75 : decode cX7_ruin 75 = .ok (.aload_n 0, 1) := by decide +kernel
theorem dX7_ruin_76 : decode cX7_ruin 76 = .ok (.getfield 21, 3) := by decide +kernel
theorem dX7_ruin_79 : decode cX7_ruin 79 = .ok (.iload 5, 2) := by decide +kernel
theorem dX7_ruin_81 : decode cX7_ruin 81 = .ok (.aaload, 1) := by decide +kernel
theorem dX7_ruin_82 : decode cX7_ruin 82 = .ok (.invokestatic 124, 3) := by decide +kernel
theorem dX7_ruin_85 : decode cX7_ruin 85 = .ok (.iinc 5 1, 3) := by decide +kernel
theorem dX7_ruin_88 : decode cX7_ruin 88 = .ok (.goto (-27), 3) := by decide +kernel
theorem dX7_ruin_91 : decode cX7_ruin 91 = .ok (.aload_n 0, 1) := by decide +kernel
theorem dX7_ruin_92 : decode cX7_ruin 92 = .ok (.iload 4, 2) := by decide +kernel
theorem dX7_ruin_94 : decode cX7_ruin 94 = .ok (.putfield 136, 3) := by decide +kernel
theorem dX7_ruin_97 : decode cX7_ruin 97 = .ok (.aload_n 0, 1) := by decide +kernel
theorem dX7_ruin_98 : decode cX7_ruin 98 = .ok (.iload 4, 2) := by decide +kernel
theorem dX7_ruin_100 : decode cX7_ruin 100 = .ok (.aload_n 0, 1) := by decide +kernel
theorem dX7_ruin_101 : decode cX7_ruin 101 = .ok (.getfield 14, 3) := by decide +kernel
theorem dX7_ruin_104 : decode cX7_ruin 104 = .ok (.invokevirtual 139, 3) := by decide +kernel
theorem dX7_ruin_107 : decode cX7_ruin 107 = .ok (.aload_n 0, 1) := by decide +kernel
theorem dX7_ruin_108 : decode cX7_ruin 108 = .ok (.iload 4, 2) := by decide +kernel
theorem dX7_ruin_110 : decode cX7_ruin 110 = .ok (.putfield 143, 3) := by decide +kernel
theorem dX7_ruin_113 : decode cX7_ruin 113 = .ok (.iconst 1, 1) := by decide +kernel
theorem dX7_ruin_114 : decode cX7_ruin 114 = .ok (.ireturn, 1) := by decide +kernel
theorem dX7_at_0 : decode cX7_at 0 = .ok (.iload_n 1, 1) := by decide +kernel
theorem dX7_at_1 : decode cX7_at 1 = .ok (.iconst 1, 1) := by decide +kernel
theorem dX7_at_2 : decode cX7_at 2 = .ok (.aload_n 0, 1) := by decide +kernel
theorem dX7_at_3 : decode cX7_at 3 = .ok (.getfield 136, 3) := by decide +kernel
theorem dX7_at_6 : decode cX7_at 6 = .ok (.invokestatic 80, 3) := by decide +kernel
theorem dX7_at_9 : decode cX7_at 9 = .ok (.ifCond .eq 34, 3) := by decide +kernel
theorem dX7_at_12 : decode cX7_at 12 = .ok (.iload_n 2, 1) := by decide +kernel
theorem dX7_at_13 : decode cX7_at 13 = .ok (.iconst 1, 1) := by decide +kernel
theorem dX7_at_14 : decode cX7_at 14 = .ok (.iconst 3, 1) := by decide +kernel
theorem dX7_at_15 : decode cX7_at 15 = .ok (.aload_n 0, 1) := by decide +kernel
theorem dX7_at_16 : decode cX7_at 16 = .ok (.getfield 136, 3) := by decide +kernel
theorem dX7_at_19 : decode cX7_at 19 = .ok (.imul, 1) := by decide +kernel
theorem dX7_at_20 : decode cX7_at 20 = .ok (.invokestatic 80, 3) := by decide +kernel
theorem dX7_at_23 : decode cX7_at 23 = .ok (.ifCond .eq 20, 3) := by decide +kernel
theorem dX7_at_26 : decode cX7_at 26 = .ok (.aload_n 0, 1) := by decide +kernel
theorem dX7_at_27 : decode cX7_at 27 = .ok (.getfield 18, 3) := by decide +kernel
theorem dX7_at_30 : decode cX7_at 30 = .ok (.iload_n 1, 1) := by decide +kernel
theorem dX7_at_31 : decode cX7_at 31 = .ok (.aaload, 1) := by decide +kernel
theorem dX7_at_32 : decode cX7_at 32 = .ok (.aload_n 0, 1) := by decide +kernel
theorem dX7_at_33 : decode cX7_at 33 = .ok (.getfield 136, 3) := by decide +kernel
theorem dX7_at_36 : decode cX7_at 36 = .ok (.iload_n 2, 1) := by decide +kernel
theorem dX7_at_37 : decode cX7_at 37 = .ok (.invokestatic 146, 3) := by decide +kernel
theorem dX7_at_40 : decode cX7_at 40 = .ok (.goto 4, 3) := by decide +kernel
theorem dX7_at_43 : decode cX7_at 43 = .ok (.iconst (-1), 1) := by decide +kernel
theorem dX7_at_44 : decode cX7_at 44 = .ok (.ireturn, 1) := by decide +kernel
theorem dX7_deep_0 : decode cX7_deep 0 = .ok (.iload_n 1, 1) := by decide +kernel
theorem dX7_deep_1 : decode cX7_deep 1 = .ok (.iconst 1, 1) := by decide +kernel
theorem dX7_deep_2 : decode cX7_deep 2 = .ok (.bipush 20, 2) := by decide +kernel
theorem dX7_deep_4 : decode cX7_deep 4 = .ok (.invokestatic 80, 3) := by decide +kernel
theorem dX7_deep_7 : decode cX7_deep 7 = .ok (.ifCond .eq 34, 3) := by decide +kernel
theorem dX7_deep_10 : decode cX7_deep 10 = .ok (.iload_n 2, 1) := by decide +kernel
theorem dX7_deep_11 : decode cX7_deep 11 = .ok (.iconst 1, 1) := by decide +kernel
theorem dX7_deep_12 : decode cX7_deep 12 = .ok (.iconst 3, 1) := by decide +kernel
theorem dX7_deep_13 : decode cX7_deep 13 = .ok (.aload_n 0, 1) := by decide +kernel
theorem dX7_deep_14 : decode cX7_deep 14 = .ok (.getfield 136, 3) := by decide +kernel
theorem dX7_deep_17 : decode cX7_deep 17 = .ok (.imul, 1) := by decide +kernel
theorem dX7_deep_18 : decode cX7_deep 18 = .ok (.invokestatic 80, 3) := by decide +kernel
theorem dX7_deep_21 : decode cX7_deep 21 = .ok (.ifCond .eq 20, 3) := by decide +kernel
theorem dX7_deep_24 : decode cX7_deep 24 = .ok (.aload_n 0, 1) := by decide +kernel
theorem dX7_deep_25 : decode cX7_deep 25 = .ok (.getfield 21, 3) := by decide +kernel
theorem dX7_deep_28 : decode cX7_deep 28 = .ok (.iload_n 1, 1) := by decide +kernel
theorem dX7_deep_29 : decode cX7_deep 29 = .ok (.aaload, 1) := by decide +kernel
theorem dX7_deep_30 : decode cX7_deep 30 = .ok (.aload_n 0, 1) := by decide +kernel
theorem dX7_deep_31 : decode cX7_deep 31 = .ok (.getfield 136, 3) := by decide +kernel
theorem dX7_deep_34 : decode cX7_deep 34 = .ok (.iload_n 2, 1) := by decide +kernel
theorem dX7_deep_35 : decode cX7_deep 35 = .ok (.invokestatic 146, 3) := by decide +kernel
theorem dX7_deep_38 : decode cX7_deep 38 = .ok (.goto 4, 3) := by decide +kernel
theorem dX7_deep_41 : decode cX7_deep 41 = .ok (.iconst (-1), 1) := by decide +kernel
theorem dX7_deep_42 : decode cX7_deep 42 = .ok (.ireturn, 1) := by decide +kernel
theorem dX7_just_0 : decode cX7_just 0 = .ok (.aload_n 0, 1) := by decide +kernel
theorem dX7_just_1 : decode cX7_just 1 = .ok (.iload_n 1, 1) := by decide +kernel
theorem dX7_just_2 : decode cX7_just 2 = .ok (.iconst 0, 1) := by decide +kernel
theorem dX7_just_3 : decode cX7_just 3 = .ok (.iload_n 2, 1) := by decide +kernel
theorem dX7_just_4 : decode cX7_just 4 = .ok (.iload_n 3, 1) := by decide +kernel
theorem dX7_just_5 : decode cX7_just 5 = .ok (.bipush 12, 2) := by decide +kernel
theorem dX7_just_7 : decode cX7_just 7 = .ok (.invokevirtual 128, 3) := by decide +kernel
theorem dX7_just_10 : decode cX7_just 10 = .ok (.ifCond .eq 14, 3) := by decide +kernel
theorem dX7_just_13 : decode cX7_just 13 = .ok (.iload 4, 2) := by decide +kernel
theorem dX7_just_15 : decode cX7_just 15 = .ok (.iconst 0, 1) := by decide +kernel
theorem dX7_just_16 : decode cX7_just 16 = .ok (.ldc 150, 2) := by decide +kernel
theorem dX7_just_18 : decode cX7_just 18 = .ok (.invokestatic 80, 3) := by decide +kernel
theorem dX7_just_21 : decode cX7_just 21 = .ok (.ifCond .ne 5, 3) := by decide +kernel
theorem dX7_just_24 : decode cX7_just 24 = .ok (.iconst (-1), 1) := by decide +kernel
theorem dX7_just_25 : decode cX7_just 25 = .ok (.ireturn, 1) := by decide +kernel
theorem dX7_just_26 : decode cX7_just 26 = .ok (.iconst 0, 1) := by decide +kernel
theorem dX7_just_27 : decode cX7_just 27 = .ok (.istore 5, 2) := by decide +kernel
theorem dX7_just_29 : decode cX7_just 29 = .ok (.iload 5, 2) := by decide +kernel
theorem dX7_just_31 : decode cX7_just 31 = .ok (.bipush 20, 2) := by decide +kernel
theorem dX7_just_33 : decode cX7_just 33 = .ok (.if_icmp .gt 75, 3) := by decide +kernel
theorem dX7_just_36 : decode cX7_just 36 = .ok (.aload_n 0, 1) := by decide +kernel
theorem dX7_just_37 : decode cX7_just 37 = .ok (.iload_n 1, 1) := by decide +kernel
theorem dX7_just_38 : decode cX7_just 38 = .ok (.iload 5, 2) := by decide +kernel
theorem dX7_just_40 : decode cX7_just 40 = .ok (.iload_n 2, 1) := by decide +kernel
theorem dX7_just_41 : decode cX7_just 41 = .ok (.iload_n 3, 1) := by decide +kernel
theorem dX7_just_42 : decode cX7_just 42 = .ok (.invokevirtual 132, 3) := by decide +kernel
theorem dX7_just_45 : decode cX7_just 45 = .ok (.aload_n 0, 1) := by decide +kernel
theorem dX7_just_46 : decode cX7_just 46 = .ok (.iload_n 3, 1) := by decide +kernel
theorem dX7_just_47 : decode cX7_just 47 = .ok (.aload_n 0, 1) := by decide +kernel
theorem dX7_just_48 : decode cX7_just 48 = .ok (.getfield 46, 3) := by decide +kernel
theorem dX7_just_51 : decode cX7_just 51 = .ok (.invokevirtual 139, 3) := by decide +kernel
theorem dX7_just_54 : decode cX7_just 54 = .ok (.aload_n 0, 1) := by decide +kernel
theorem dX7_just_55 : decode cX7_just 55 = .ok (.getfield 49, 3) := by decide +kernel
theorem dX7_just_58 : decode cX7_just 58 = .ok (.invokestatic 112, 3) := by decide +kernel
theorem dX7_just_61 : decode cX7_just 61 = .ok (.aload_n 0, 1) := by decide +kernel
theorem dX7_just_62 : decode cX7_just 62 = .ok (.aload_n 0, 1) := by decide +kernel
theorem dX7_just_63 : decode cX7_just 63 = .ok (.getfield 49, 3) := by decide +kernel
theorem dX7_just_66 : decode cX7_just 66 = .ok (.aload_n 0, 1) := by decide +kernel
theorem dX7_just_67 : decode cX7_just 67 = .ok (.getfield 46, 3) := by decide +kernel
theorem dX7_just_70 : decode cX7_just 70 = .ok (.iconst 1, 1) := by decide +kernel
theorem dX7_just_71 : decode cX7_just 71 = .ok (.iconst 2, 1) := by decide +kernel
theorem dX7_just_72 : decode cX7_just 72 = .ok (.invokevirtual 120, 3) := by decide +kernel
theorem dX7_just_75 : decode cX7_just 75 = .ok (.aload_n 0, 1) := by decide +kernel
theorem dX7_just_76 : decode cX7_just 76 = .ok (.getfield 31, 3) := by decide +kernel
theorem dX7_just_79 : decode cX7_just 79 = .ok (.iload 4, 2) := by decide +kernel
theorem dX7_just_81 : decode cX7_just 81 = .ok (.iload_n 3, 1) := by decide +kernel
theorem dX7_just_82 : decode cX7_just 82 = .ok (.invokestatic 151, 3) := by decide +kernel
theorem dX7_just_85 : decode cX7_just 85 = .ok (.aload_n 0, 1) := by decide +kernel
theorem dX7_just_86 : decode cX7_just 86 = .ok (.getfield 49, 3) := by decide +kernel
theorem dX7_just_89 : decode cX7_just 89 = .ok (.aload_n 0, 1) := by decide +kernel
theorem dX7_just_90 : decode cX7_just 90 = .ok (.getfield 31, 3) := by decide +kernel
theorem dX7_just_93 : decode cX7_just 93 = .ok (.invokestatic 155, 3) := by decide +kernel
theorem dX7_just_96 : decode cX7_just 96 = .ok (.ifCond .gt 6, 3) := by decide +kernel
theorem dX7_just_99 : decode cX7_just 99 = .ok (.iload 5, 2) := by decide +kernel
theorem dX7_just_101 : decode cX7_just 101 = .ok (.ireturn, 1) := by decide +kernel
theorem dX7_just_102 : decode cX7_just 102 = .ok (.iinc 5 1, 3) := by decide +kernel
theorem dX7_just_105 : decode cX7_just 105 = .ok (.goto (-76), 3) := by decide +kernel
theorem dX7_just_108 : decode cX7_just 108 = .ok (.iconst (-1), 1) := by decide +kernel
theorem dX7_just_109 : decode cX7_just 109 = .ok (.ireturn, 1) := by decide +kernel
theorem dX7_multiply_0 : decode cX7_multiply 0 = .ok (.aload_n 3, 1) := by decide +kernel
theorem dX7_multiply_1 : decode cX7_multiply 1 = .ok (.invokestatic 112, 3) := by decide +kernel
theorem dX7_multiply_4 : decode cX7_multiply 4 = .ok (.iconst 0, 1) := by decide +kernel
theorem dX7_multiply_5 : decode cX7_multiply 5 = .ok (.istore 4, 2) := by decide +kernel
theorem dX7_multiply_7 : decode cX7_multiply 7 = .ok (.iload 4, 2) := by decide +kernel
theorem dX7_multiply_9 : decode cX7_multiply 9 = .ok (.bipush 72, 2) := by decide +kernel
theorem dX7_multiply_11 : decode cX7_multiply 11 = .ok (.if_icmp .ge 28, 3) := by decide +kernel
theorem dX7_multiply_14 : decode cX7_multiply 14 = .ok (.aload_n 2, 1) := by decide +kernel
theorem dX7_multiply_15 : decode cX7_multiply 15 = .ok (.iload 4, 2) := by decide +kernel
theorem dX7_multiply_17 : decode cX7_multiply 17 = .ok (.iaload, 1) := by decide +kernel
theorem dX7_multiply_18 : decode cX7_multiply 18 = .ok (.ifCond .eq 15, 3) := by decide +kernel
theorem dX7_multiply_21 : decode cX7_multiply 21 = .ok (.aload_n 0, 1) := by decide +kernel
theorem dX7_multiply_22 : decode cX7_multiply 22 = .ok (.aload_n 3, 1) := by decide +kernel
theorem dX7_multiply_23 : decode cX7_multiply 23 = .ok (.aload_n 1, 1) := by decide +kernel
theorem dX7_multiply_24 : decode cX7_multiply 24 = .ok (.aload_n 2, 1) := by decide +kernel
theorem dX7_multiply_25 : decode cX7_multiply 25 = .ok (.iload 4, 2) := by decide +kernel
theorem dX7_multiply_27 : decode cX7_multiply 27 = .ok (.iaload, 1) := by decide +kernel
theorem dX7_multiply_28 : decode cX7_multiply 28 = .ok (.iload 4, 2) := by decide +kernel
theorem dX7_multiply_30 : decode cX7_multiply 30 = .ok (.invokevirtual 120, 3) := by decide +kernel
theorem dX7_multiply_33 : decode cX7_multiply 33 = .ok (.iinc 4 1, 3) := by decide +kernel
theorem dX7_multiply_36 : decode cX7_multiply 36 = .ok (.goto (-29), 3) := by decide +kernel
theorem dX7_multiply_39 : decode cX7_multiply 39 = .ok (.return_, 1) := by decide +kernel
theorem dX7_ever_0 : decode cX7_ever 0 = .ok (.iload_n 1, 1) := by decide +kernel
theorem dX7_ever_1 : decode cX7_ever 1 = .ok (.iconst 0, 1) := by decide +kernel
theorem dX7_ever_2 : decode cX7_ever 2 = .ok (.bipush 60, 2) := by decide +kernel
theorem dX7_ever_4 : decode cX7_ever 4 = .ok (.invokestatic 80, 3) := by decide +kernel
theorem dX7_ever_7 : decode cX7_ever 7 = .ok (.ifCond .eq 11, 3) := by decide +kernel
theorem dX7_ever_10 : decode cX7_ever 10 = .ok (.aload_n 0, 1) := by decide +kernel
theorem dX7_ever_11 : decode cX7_ever 11 = .ok (.iload_n 2, 1) := by decide +kernel
theorem dX7_ever_12 : decode cX7_ever 12 = .ok (.invokevirtual 88, 3) := by decide +kernel
theorem dX7_ever_15 : decode cX7_ever 15 = .ok (.ifCond .ne 5, 3) := by decide +kernel
theorem dX7_ever_18 : decode cX7_ever 18 = .ok (.iconst 0, 1) := by decide +kernel
theorem dX7_ever_19 : decode cX7_ever 19 = .ok (.ireturn, 1) := by decide +kernel
theorem dX7_ever_20 : decode cX7_ever 20 = .ok (.aload_n 0, 1) := by decide +kernel
theorem dX7_ever_21 : decode cX7_ever 21 = .ok (.getfield 14, 3) := by decide +kernel
theorem dX7_ever_24 : decode cX7_ever 24 = .ok (.invokestatic 112, 3) := by decide +kernel
theorem dX7_ever_27 : decode cX7_ever 27 = .ok (.aload_n 0, 1) := by decide +kernel
theorem dX7_ever_28 : decode cX7_ever 28 = .ok (.bipush 10, 2) := by decide +kernel
theorem dX7_ever_30 : decode cX7_ever 30 = .ok (.putfield 143, 3) := by decide +kernel
theorem dX7_ever_33 : decode cX7_ever 33 = .ok (.aload_n 0, 1) := by decide +kernel
theorem dX7_ever_34 : decode cX7_ever 34 = .ok (.iload_n 2, 1) := by decide +kernel
theorem dX7_ever_35 : decode cX7_ever 35 = .ok (.invokevirtual 91, 3) := by decide +kernel
theorem dX7_ever_38 : decode cX7_ever 38 = .ok (.istore_n 3, 1) := by decide +kernel
theorem dX7_ever_39 : decode cX7_ever 39 = .ok (.iload_n 3, 1) := by decide +kernel
theorem dX7_ever_40 : decode cX7_ever 40 = .ok (.sipush 1000, 3) := by decide +kernel
theorem dX7_ever_43 : decode cX7_ever 43 = .ok (.if_icmp .lt 27, 3) := by decide +kernel
theorem dX7_ever_46 : decode cX7_ever 46 = .ok (.aload_n 0, 1) := by decide +kernel
theorem dX7_ever_47 : decode cX7_ever 47 = .ok (.getfield 11, 3) := by decide +kernel
theorem dX7_ever_50 : decode cX7_ever 50 = .ok (.iload_n 2, 1) := by decide +kernel
theorem dX7_ever_51 : decode cX7_ever 51 = .ok (.aaload, 1) := by decide +kernel
theorem dX7_ever_52 : decode cX7_ever 52 = .ok (.iconst 1, 1) := by decide +kernel
theorem dX7_ever_53 : decode cX7_ever 53 = .ok (.iaload, 1) := by decide +kernel
theorem dX7_ever_54 : decode cX7_ever 54 = .ok (.sipush 1000, 3) := by decide +kernel
theorem dX7_ever_57 : decode cX7_ever 57 = .ok (.if_icmp .eq 11, 3) := by decide +kernel
theorem dX7_ever_60 : decode cX7_ever 60 = .ok (.aload_n 0, 1) := by decide +kernel
theorem dX7_ever_61 : decode cX7_ever 61 = .ok (.getfield 14, 3) := by decide +kernel
theorem dX7_ever_64 : decode cX7_ever 64 = .ok (.bipush 10, 2) := by decide +kernel
theorem dX7_ever_66 : decode cX7_ever 66 = .ok (.iconst 1, 1) := by decide +kernel
theorem dX7_ever_67 : decode cX7_ever 67 = .ok (.iastore, 1) := by decide +kernel
theorem dX7_ever_68 : decode cX7_ever 68 = .ok (.iconst 1, 1) := by decide +kernel
theorem dX7_ever_69 : decode cX7_ever 69 = .ok (.ireturn, 1) := by decide +kernel
theorem dX7_ever_70 : decode cX7_ever 70 = .ok (.aload_n 0, 1) := by decide +kernel
theorem dX7_ever_71 : decode cX7_ever 71 = .ok (.getfield 55, 3) := by decide +kernel
theorem dX7_ever_74 : decode cX7_ever 74 = .ok (.iconst 0, 1) := by decide +kernel
theorem dX7_ever_75 : decode cX7_ever 75 = .ok (.aaload, 1) := by decide +kernel
theorem dX7_ever_76 : decode cX7_ever 76 = .ok (.iconst 1, 1) := by decide +kernel
theorem dX7_ever_77 : decode cX7_ever 77 = .ok (.iconst 0, 1) := by decide +kernel
theorem dX7_ever_78 : decode cX7_ever 78 = .ok (.invokestatic 151, 3) := by decide +kernel
theorem dX7_ever_81 : decode cX7_ever 81 = .ok (.iconst 1, 1) := by decide +kernel
theorem dX7_ever_82 : decode cX7_ever 82 = .ok (.istore 4, 2) := by decide +kernel
theorem dX7_ever_84 : decode cX7_ever 84 = .ok (.iload 4, 2) := by decide +kernel
theorem dX7_ever_86 : decode cX7_ever 86 = .ok (.iload_n 1, 1) := by decide +kernel
theorem dX7_ever_87 : decode cX7_ever 87 = .ok (.iconst 1, 1) := by decide +kernel
theorem dX7_ever_88 : decode cX7_ever 88 = .ok (.iadd, 1) := by decide +kernel
theorem dX7_ever_89 : decode cX7_ever 89 = .ok (.if_icmp .gt 48, 3) := by decide +kernel
theorem dX7_ever_92 : decode cX7_ever 92 = .ok (.aload_n 0, 1) := by decide +kernel
theorem dX7_ever_93 : decode cX7_ever 93 = .ok (.getfield 55, 3) := by decide +kernel
theorem dX7_ever_96 : decode cX7_ever 96 = .ok (.iload 4, 2) := by decide +kernel
theorem dX7_ever_98 : decode cX7_ever 98 = .ok (.aaload, 1) := by decide +kernel
theorem dX7_ever_99 : decode cX7_ever 99 = .ok (.invokestatic 112, 3) := by decide +kernel
theorem dX7_ever_102 : decode cX7_ever 102 = .ok (.aload_n 0, 1) := by decide +kernel
theorem dX7_ever_103 : decode cX7_ever 103 = .ok (.aload_n 0, 1) := by decide +kernel
theorem dX7_ever_104 : decode cX7_ever 104 = .ok (.getfield 55, 3) := by decide +kernel
theorem dX7_ever_107 : decode cX7_ever 107 = .ok (.iload 4, 2) := by decide +kernel
theorem dX7_ever_109 : decode cX7_ever 109 = .ok (.aaload, 1) := by decide +kernel
theorem dX7_ever_110 : decode cX7_ever 110 = .ok (.aload_n 0, 1) := by decide +kernel
theorem dX7_ever_111 : decode cX7_ever 111 = .ok (.getfield 55, 3) := by decide +kernel
theorem dX7_ever_114 : decode cX7_ever 114 = .ok (.iload 4, 2) := by decide +kernel
theorem dX7_ever_116 : decode cX7_ever 116 = .ok (.iconst 1, 1) := by decide +kernel
theorem dX7_ever_117 : decode cX7_ever 117 = .ok (.isub, 1) := by decide +kernel
theorem dX7_ever_118 : decode cX7_ever 118 = .ok (.aaload, 1) := by decide +kernel
theorem dX7_ever_119 : decode cX7_ever 119 = .ok (.aload_n 0, 1) := by decide +kernel
theorem dX7_ever_120 : decode cX7_ever 120 = .ok (.getfield 11, 3) := by decide +kernel
theorem dX7_ever_123 : decode cX7_ever 123 = .ok (.iload_n 2, 1) := by decide +kernel
theorem dX7_ever_124 : decode cX7_ever 124 = .ok (.aaload, 1) := by decide +kernel
theorem dX7_ever_125 : decode cX7_ever 125 = .ok (.iconst 0, 1) := by decide +kernel
theorem dX7_ever_126 : decode cX7_ever 126 = .ok (.iaload, 1) := by decide +kernel
theorem dX7_ever_127 : decode cX7_ever 127 = .ok (.iconst 0, 1) := by decide +kernel
theorem dX7_ever_128 : decode cX7_ever 128 = .ok (.invokevirtual 120, 3) := by decide +kernel
theorem dX7_ever_131 : decode cX7_ever 131 = .ok (.iinc 4 1, 3) := by decide +kernel
theorem dX7_ever_134 : decode cX7_ever 134 = .ok (.goto (-50), 3) := by decide +kernel
theorem dX7_ever_137 : decode cX7_ever 137 = .ok (.aload_n 0, 1) := by decide +kernel
theorem dX7_ever_138 : decode cX7_ever 138 = .ok (.getfield 52, 3) := by decide +kernel
theorem dX7_ever_141 : decode cX7_ever 141 = .ok (.iconst 0, 1) := by decide +kernel
theorem dX7_ever_142 : decode cX7_ever 142 = .ok (.aaload, 1) := by decide +kernel
theorem dX7_ever_143 : decode cX7_ever 143 = .ok (.sipush 1000, 3) := by decide +kernel
theorem dX7_ever_146 : decode cX7_ever 146 = .ok (.iload_n 3, 1) := by decide +kernel
theorem dX7_ever_147 : decode cX7_ever 147 = .ok (.isub, 1) := by decide +kernel
theorem dX7_ever_148 : decode cX7_ever 148 = .ok (.iconst 0, 1) := by decide +kernel
theorem dX7_ever_149 : decode cX7_ever 149 = .ok (.invokestatic 151, 3) := by decide +kernel
theorem dX7_ever_152 : decode cX7_ever 152 = .ok (.iconst 0, 1) := by decide +kernel
theorem dX7_ever_153 : decode cX7_ever 153 = .ok (.istore 4, 2) := by decide +kernel
theorem dX7_ever_155 : decode cX7_ever 155 = .ok (.iload 4, 2) := by decide +kernel
theorem dX7_ever_157 : decode cX7_ever 157 = .ok (.iload_n 1, 1) := by decide +kernel
theorem dX7_ever_158 : decode cX7_ever 158 = .ok (.if_icmp .ge 159, 3) := by decide +kernel
theorem dX7_ever_161 : decode cX7_ever 161 = .ok (.aload_n 0, 1) := by decide +kernel
theorem dX7_ever_162 : decode cX7_ever 162 = .ok (.getfield 52, 3) := by decide +kernel
theorem dX7_ever_165 : decode cX7_ever 165 = .ok (.iload 4, 2) := by decide +kernel
theorem dX7_ever_167 : decode cX7_ever 167 = .ok (.iconst 1, 1) := by decide +kernel
theorem dX7_ever_168 : decode cX7_ever 168 = .ok (.iadd, 1) := by decide +kernel
theorem dX7_ever_169 : decode cX7_ever 169 = .ok (.aaload, 1) := by decide +kernel
theorem dX7_ever_170 : decode cX7_ever 170 = .ok (.invokestatic 112, 3) := by decide +kernel
theorem dX7_ever_173 : decode cX7_ever 173 = .ok (.aload_n 0, 1) := by decide +kernel
theorem dX7_ever_174 : decode cX7_ever 174 = .ok (.aload_n 0, 1) := by decide +kernel
theorem dX7_ever_175 : decode cX7_ever 175 = .ok (.getfield 52, 3) := by decide +kernel
theorem dX7_ever_178 : decode cX7_ever 178 = .ok (.iload 4, 2) := by decide +kernel
theorem dX7_ever_180 : decode cX7_ever 180 = .ok (.iconst 1, 1) := by decide +kernel
theorem dX7_ever_181 : decode cX7_ever 181 = .ok (.iadd, 1) := by decide +kernel
theorem dX7_ever_182 : decode cX7_ever 182 = .ok (.aaload, 1) := by decide +kernel
theorem dX7_ever_183 : decode cX7_ever 183 = .ok (.aload_n 0, 1) := by decide +kernel
theorem dX7_ever_184 : decode cX7_ever 184 = .ok (.getfield 52, 3) := by decide +kernel
theorem dX7_ever_187 : decode cX7_ever 187 = .ok (.iload 4, 2) := by decide +kernel
theorem dX7_ever_189 : decode cX7_ever 189 = .ok (.aaload, 1) := by decide +kernel
theorem dX7_ever_190 : decode cX7_ever 190 = .ok (.sipush 1000, 3) := by decide +kernel
theorem dX7_ever_193 : decode cX7_ever 193 = .ok (.iconst 0, 1) := by decide +kernel
theorem dX7_ever_194 : decode cX7_ever 194 = .ok (.invokevirtual 120, 3) := by decide +kernel
theorem dX7_ever_197 : decode cX7_ever 197 = .ok (.iconst 1, 1) := by decide +kernel
theorem dX7_ever_198 : decode cX7_ever 198 = .ok (.istore 5, 2) := by decide +kernel
theorem dX7_ever_200 : decode cX7_ever 200 = .ok (.iload 5, 2) := by decide +kernel
theorem dX7_ever_202 : decode cX7_ever 202 = .ok (.iload 4, 2) := by decide +kernel
theorem dX7_ever_204 : decode cX7_ever 204 = .ok (.iconst 1, 1) := by decide +kernel
theorem dX7_ever_205 : decode cX7_ever 205 = .ok (.iadd, 1) := by decide +kernel
theorem dX7_ever_206 : decode cX7_ever 206 = .ok (.if_icmp .gt 105, 3) := by decide +kernel
theorem dX7_ever_209 : decode cX7_ever 209 = .ok (.iload 5, 2) := by decide +kernel
theorem dX7_ever_211 : decode cX7_ever 211 = .ok (.bipush 21, 2) := by decide +kernel
theorem dX7_ever_213 : decode cX7_ever 213 = .ok (.if_icmp .ge 98, 3) := by decide +kernel
theorem dX7_ever_216 : decode cX7_ever 216 = .ok (.aload_n 0, 1) := by decide +kernel
theorem dX7_ever_217 : decode cX7_ever 217 = .ok (.getfield 11, 3) := by decide +kernel
theorem dX7_ever_220 : decode cX7_ever 220 = .ok (.iload_n 2, 1) := by decide +kernel
theorem dX7_ever_221 : decode cX7_ever 221 = .ok (.aaload, 1) := by decide +kernel
theorem dX7_ever_222 : decode cX7_ever 222 = .ok (.iload 5, 2) := by decide +kernel
theorem dX7_ever_224 : decode cX7_ever 224 = .ok (.iaload, 1) := by decide +kernel
theorem dX7_ever_225 : decode cX7_ever 225 = .ok (.ifCond .ne 6, 3) := by decide +kernel
theorem dX7_ever_228 : decode cX7_ever 228 = .ok (.goto 77, 3) := by decide +kernel
theorem dX7_ever_231 : decode cX7_ever 231 = .ok (.aload_n 0, 1) := by decide +kernel
theorem dX7_ever_232 : decode cX7_ever 232 = .ok (.aload_n 0, 1) := by decide +kernel
theorem dX7_ever_233 : decode cX7_ever 233 = .ok (.getfield 52, 3) := by decide +kernel
theorem dX7_ever_236 : decode cX7_ever 236 = .ok (.iload 4, 2) := by decide +kernel
theorem dX7_ever_238 : decode cX7_ever 238 = .ok (.iconst 1, 1) := by decide +kernel
theorem dX7_ever_239 : decode cX7_ever 239 = .ok (.iadd, 1) := by decide +kernel
theorem dX7_ever_240 : decode cX7_ever 240 = .ok (.iload 5, 2) := by decide +kernel
theorem dX7_ever_242 : decode cX7_ever 242 = .ok (.isub, 1) := by decide +kernel
theorem dX7_ever_243 : decode cX7_ever 243 = .ok (.aaload, 1) := by decide +kernel
theorem dX7_ever_244 : decode cX7_ever 244 = .ok (.aload_n 0, 1) := by decide +kernel
theorem dX7_ever_245 : decode cX7_ever 245 = .ok (.getfield 55, 3) := by decide +kernel
theorem dX7_ever_248 : decode cX7_ever 248 = .ok (.iload 5, 2) := by decide +kernel
theorem dX7_ever_250 : decode cX7_ever 250 = .ok (.iconst 1, 1) := by decide +kernel
theorem dX7_ever_251 : decode cX7_ever 251 = .ok (.isub, 1) := by decide +kernel
theorem dX7_ever_252 : decode cX7_ever 252 = .ok (.aaload, 1) := by decide +kernel
theorem dX7_ever_253 : decode cX7_ever 253 = .ok (.aload_n 0, 1) := by decide +kernel
theorem dX7_ever_254 : decode cX7_ever 254 = .ok (.getfield 58, 3) := by decide +kernel
theorem dX7_ever_257 : decode cX7_ever 257 = .ok (.invokevirtual 159, 3) := by decide +kernel
theorem dX7_ever_260 : decode cX7_ever 260 = .ok (.aload_n 0, 1) := by decide +kernel
theorem dX7_ever_261 : decode cX7_ever 261 = .ok (.getfield 61, 3) := by decide +kernel
theorem dX7_ever_264 : decode cX7_ever 264 = .ok (.invokestatic 112, 3) := by decide +kernel
theorem dX7_ever_267 : decode cX7_ever 267 = .ok (.aload_n 0, 1) := by decide +kernel
theorem dX7_ever_268 : decode cX7_ever 268 = .ok (.aload_n 0, 1) := by decide +kernel
theorem dX7_ever_269 : decode cX7_ever 269 = .ok (.getfield 61, 3) := by decide +kernel
theorem dX7_ever_272 : decode cX7_ever 272 = .ok (.aload_n 0, 1) := by decide +kernel
theorem dX7_ever_273 : decode cX7_ever 273 = .ok (.getfield 58, 3) := by decide +kernel
theorem dX7_ever_276 : decode cX7_ever 276 = .ok (.aload_n 0, 1) := by decide +kernel
theorem dX7_ever_277 : decode cX7_ever 277 = .ok (.getfield 11, 3) := by decide +kernel
theorem dX7_ever_280 : decode cX7_ever 280 = .ok (.iload_n 2, 1) := by decide +kernel
theorem dX7_ever_281 : decode cX7_ever 281 = .ok (.aaload, 1) := by decide +kernel
theorem dX7_ever_282 : decode cX7_ever 282 = .ok (.iload 5, 2) := by decide +kernel
theorem dX7_ever_284 : decode cX7_ever 284 = .ok (.iaload, 1) := by decide +kernel
theorem dX7_ever_285 : decode cX7_ever 285 = .ok (.iconst 0, 1) := by decide +kernel
theorem dX7_ever_286 : decode cX7_ever 286 = .ok (.invokevirtual 120, 3) := by decide +kernel
theorem dX7_ever_289 : decode cX7_ever 289 = .ok (.aload_n 0, 1) := by decide +kernel
theorem dX7_ever_290 : decode cX7_ever 290 = .ok (.getfield 52, 3) := by decide +kernel
theorem dX7_ever_293 : decode cX7_ever 293 = .ok (.iload 4, 2) := by decide +kernel
theorem dX7_ever_295 : decode cX7_ever 295 = .ok (.iconst 1, 1) := by decide +kernel
theorem dX7_ever_296 : decode cX7_ever 296 = .ok (.iadd, 1) := by decide +kernel
theorem dX7_ever_297 : decode cX7_ever 297 = .ok (.aaload, 1) := by decide +kernel
theorem dX7_ever_298 : decode cX7_ever 298 = .ok (.aload_n 0, 1) := by decide +kernel
theorem dX7_ever_299 : decode cX7_ever 299 = .ok (.getfield 61, 3) := by decide +kernel
theorem dX7_ever_302 : decode cX7_ever 302 = .ok (.invokestatic 163, 3) := by decide +kernel
theorem dX7_ever_305 : decode cX7_ever 305 = .ok (.iinc 5 1, 3) := by decide +kernel
theorem dX7_ever_308 : decode cX7_ever 308 = .ok (.goto (-108), 3) := by decide +kernel
theorem dX7_ever_311 : decode cX7_ever 311 = .ok (.iinc 4 1, 3) := by decide +kernel
theorem dX7_ever_314 : decode cX7_ever 314 = .ok (.goto (-159), 3) := by decide +kernel
theorem dX7_ever_317 : decode cX7_ever 317 = .ok (.aload_n 0, 1) := by decide +kernel
theorem dX7_ever_318 : decode cX7_ever 318 = .ok (.getfield 55, 3) := by decide +kernel
theorem dX7_ever_321 : decode cX7_ever 321 = .ok (.iload_n 1, 1) := by decide +kernel
theorem dX7_ever_322 : decode cX7_ever 322 = .ok (.iconst 1, 1) := by decide +kernel
theorem dX7_ever_323 : decode cX7_ever 323 = .ok (.iadd, 1) := by decide +kernel
theorem dX7_ever_324 : decode cX7_ever 324 = .ok (.aaload, 1) := by decide +kernel
theorem dX7_ever_325 : decode cX7_ever 325 = .ok (.aload_n 0, 1) := by decide +kernel
theorem dX7_ever_326 : decode cX7_ever 326 = .ok (.getfield 61, 3) := by decide +kernel
theorem dX7_ever_329 : decode cX7_ever 329 = .ok (.invokestatic 124, 3) := by decide +kernel
theorem dX7_ever_332 : decode cX7_ever 332 = .ok (.aload_n 0, 1) := by decide +kernel
theorem dX7_ever_333 : decode cX7_ever 333 = .ok (.getfield 61, 3) := by decide +kernel
theorem dX7_ever_336 : decode cX7_ever 336 = .ok (.aload_n 0, 1) := by decide +kernel
theorem dX7_ever_337 : decode cX7_ever 337 = .ok (.getfield 52, 3) := by decide +kernel
theorem dX7_ever_340 : decode cX7_ever 340 = .ok (.iload_n 1, 1) := by decide +kernel
theorem dX7_ever_341 : decode cX7_ever 341 = .ok (.aaload, 1) := by decide +kernel
theorem dX7_ever_342 : decode cX7_ever 342 = .ok (.invokestatic 163, 3) := by decide +kernel
theorem dX7_ever_345 : decode cX7_ever 345 = .ok (.bipush 9, 2) := by decide +kernel
theorem dX7_ever_347 : decode cX7_ever 347 = .ok (.istore 4, 2) := by decide +kernel
theorem dX7_ever_349 : decode cX7_ever 349 = .ok (.iload 4, 2) := by decide +kernel
theorem dX7_ever_351 : decode cX7_ever 351 = .ok (.ifCond .lt 171, 3) := by decide +kernel
theorem dX7_ever_354 : decode cX7_ever 354 = .ok (.aload_n 0, 1) := by decide +kernel
theorem dX7_ever_355 : decode cX7_ever 355 = .ok (.getfield 58, 3) := by decide +kernel
theorem dX7_ever_358 : decode cX7_ever 358 = .ok (.invokestatic 112, 3) := by decide +kernel
theorem dX7_ever_361 : decode cX7_ever 361 = .ok (.aload_n 0, 1) := by decide +kernel
theorem dX7_ever_362 : decode cX7_ever 362 = .ok (.aload_n 0, 1) := by decide +kernel
theorem dX7_ever_363 : decode cX7_ever 363 = .ok (.getfield 58, 3) := by decide +kernel
theorem dX7_ever_366 : decode cX7_ever 366 = .ok (.aload_n 0, 1) := by decide +kernel
theorem dX7_ever_367 : decode cX7_ever 367 = .ok (.getfield 61, 3) := by decide +kernel
theorem dX7_ever_370 : decode cX7_ever 370 = .ok (.sipush 1000, 3) := by decide +kernel
theorem dX7_ever_373 : decode cX7_ever 373 = .ok (.iconst 0, 1) := by decide +kernel
theorem dX7_ever_374 : decode cX7_ever 374 = .ok (.invokevirtual 120, 3) := by decide +kernel
theorem dX7_ever_377 : decode cX7_ever 377 = .ok (.iconst 0, 1) := by decide +kernel
theorem dX7_ever_378 : decode cX7_ever 378 = .ok (.istore 5, 2) := by decide +kernel
theorem dX7_ever_380 : decode cX7_ever 380 = .ok (.sipush 999, 3) := by decide +kernel
theorem dX7_ever_383 : decode cX7_ever 383 = .ok (.istore 6, 2) := by decide +kernel
theorem dX7_ever_385 : decode cX7_ever 385 = .ok (.iload 5, 2) := by decide +kernel
theorem dX7_ever_387 : decode cX7_ever 387 = .ok (.iload 6, 2) := by decide +kernel
theorem dX7_ever_389 : decode cX7_ever 389 = .ok (.if_icmp .ge 70, 3) := by decide +kernel
theorem dX7_ever_392 : decode cX7_ever 392 = .ok (.iload 5, 2) := by decide +kernel
theorem dX7_ever_394 : decode cX7_ever 394 = .ok (.iload 6, 2) := by decide +kernel
theorem dX7_ever_396 : decode cX7_ever 396 = .ok (.iadd, 1) := by decide +kernel
theorem dX7_ever_397 : decode cX7_ever 397 = .ok (.iconst 1, 1) := by decide +kernel
theorem dX7_ever_398 : decode cX7_ever 398 = .ok (.iadd, 1) := by decide +kernel
theorem dX7_ever_399 : decode cX7_ever 399 = .ok (.iconst 2, 1) := by decide +kernel
theorem dX7_ever_400 : decode cX7_ever 400 = .ok (.idiv, 1) := by decide +kernel
theorem dX7_ever_401 : decode cX7_ever 401 = .ok (.istore 7, 2) := by decide +kernel
theorem dX7_ever_403 : decode cX7_ever 403 = .ok (.aload_n 0, 1) := by decide +kernel
theorem dX7_ever_404 : decode cX7_ever 404 = .ok (.getfield 46, 3) := by decide +kernel
theorem dX7_ever_407 : decode cX7_ever 407 = .ok (.invokestatic 112, 3) := by decide +kernel
theorem dX7_ever_410 : decode cX7_ever 410 = .ok (.aload_n 0, 1) := by decide +kernel
theorem dX7_ever_411 : decode cX7_ever 411 = .ok (.aload_n 0, 1) := by decide +kernel
theorem dX7_ever_412 : decode cX7_ever 412 = .ok (.getfield 46, 3) := by decide +kernel
theorem dX7_ever_415 : decode cX7_ever 415 = .ok (.aload_n 0, 1) := by decide +kernel
theorem dX7_ever_416 : decode cX7_ever 416 = .ok (.getfield 55, 3) := by decide +kernel
theorem dX7_ever_419 : decode cX7_ever 419 = .ok (.iload_n 1, 1) := by decide +kernel
theorem dX7_ever_420 : decode cX7_ever 420 = .ok (.iconst 1, 1) := by decide +kernel
theorem dX7_ever_421 : decode cX7_ever 421 = .ok (.iadd, 1) := by decide +kernel
theorem dX7_ever_422 : decode cX7_ever 422 = .ok (.aaload, 1) := by decide +kernel
theorem dX7_ever_423 : decode cX7_ever 423 = .ok (.iload 7, 2) := by decide +kernel
theorem dX7_ever_425 : decode cX7_ever 425 = .ok (.iconst 0, 1) := by decide +kernel
theorem dX7_ever_426 : decode cX7_ever 426 = .ok (.invokevirtual 120, 3) := by decide +kernel
theorem dX7_ever_429 : decode cX7_ever 429 = .ok (.aload_n 0, 1) := by decide +kernel
theorem dX7_ever_430 : decode cX7_ever 430 = .ok (.getfield 46, 3) := by decide +kernel
theorem dX7_ever_433 : decode cX7_ever 433 = .ok (.aload_n 0, 1) := by decide +kernel
theorem dX7_ever_434 : decode cX7_ever 434 = .ok (.getfield 58, 3) := by decide +kernel
theorem dX7_ever_437 : decode cX7_ever 437 = .ok (.invokestatic 155, 3) := by decide +kernel
theorem dX7_ever_440 : decode cX7_ever 440 = .ok (.ifCond .gt 10, 3) := by decide +kernel
theorem dX7_ever_443 : decode cX7_ever 443 = .ok (.iload 7, 2) := by decide +kernel
theorem dX7_ever_445 : decode cX7_ever 445 = .ok (.istore 5, 2) := by decide +kernel
theorem dX7_ever_447 : decode cX7_ever 447 = .ok (.goto 9, 3) := by decide +kernel
theorem dX7_ever_450 : decode cX7_ever 450 = .ok (.iload 7, 2) := by decide +kernel
theorem dX7_ever_452 : decode cX7_ever 452 = .ok (.iconst 1, 1) := by decide +kernel
theorem dX7_ever_453 : decode cX7_ever 453 = .ok (.isub, 1) := by decide +kernel
theorem dX7_ever_454 : decode cX7_ever 454 = .ok (.istore 6, 2) := by decide +kernel
theorem dX7_ever_456 : decode cX7_ever 456 = .ok (.goto (-71), 3) := by decide +kernel
theorem dX7_ever_459 : decode cX7_ever 459 = .ok (.aload_n 0, 1) := by decide +kernel
theorem dX7_ever_460 : decode cX7_ever 460 = .ok (.getfield 14, 3) := by decide +kernel
theorem dX7_ever_463 : decode cX7_ever 463 = .ok (.iload 4, 2) := by decide +kernel
theorem dX7_ever_465 : decode cX7_ever 465 = .ok (.iload 5, 2) := by decide +kernel
theorem dX7_ever_467 : decode cX7_ever 467 = .ok (.iastore, 1) := by decide +kernel
theorem dX7_ever_468 : decode cX7_ever 468 = .ok (.aload_n 0, 1) := by decide +kernel
theorem dX7_ever_469 : decode cX7_ever 469 = .ok (.getfield 46, 3) := by decide +kernel
theorem dX7_ever_472 : decode cX7_ever 472 = .ok (.invokestatic 112, 3) := by decide +kernel
theorem dX7_ever_475 : decode cX7_ever 475 = .ok (.aload_n 0, 1) := by decide +kernel
theorem dX7_ever_476 : decode cX7_ever 476 = .ok (.aload_n 0, 1) := by decide +kernel
theorem dX7_ever_477 : decode cX7_ever 477 = .ok (.getfield 46, 3) := by decide +kernel
theorem dX7_ever_480 : decode cX7_ever 480 = .ok (.aload_n 0, 1) := by decide +kernel
theorem dX7_ever_481 : decode cX7_ever 481 = .ok (.getfield 55, 3) := by decide +kernel
theorem dX7_ever_484 : decode cX7_ever 484 = .ok (.iload_n 1, 1) := by decide +kernel
theorem dX7_ever_485 : decode cX7_ever 485 = .ok (.iconst 1, 1) := by decide +kernel
theorem dX7_ever_486 : decode cX7_ever 486 = .ok (.iadd, 1) := by decide +kernel
theorem dX7_ever_487 : decode cX7_ever 487 = .ok (.aaload, 1) := by decide +kernel
theorem dX7_ever_488 : decode cX7_ever 488 = .ok (.iload 5, 2) := by decide +kernel
theorem dX7_ever_490 : decode cX7_ever 490 = .ok (.iconst 0, 1) := by decide +kernel
theorem dX7_ever_491 : decode cX7_ever 491 = .ok (.invokevirtual 120, 3) := by decide +kernel
theorem dX7_ever_494 : decode cX7_ever 494 = .ok (.aload_n 0, 1) := by decide +kernel
theorem dX7_ever_495 : decode cX7_ever 495 = .ok (.getfield 58, 3) := by decide +kernel
theorem dX7_ever_498 : decode cX7_ever 498 = .ok (.aload_n 0, 1) := by decide +kernel
theorem dX7_ever_499 : decode cX7_ever 499 = .ok (.getfield 46, 3) := by decide +kernel
theorem dX7_ever_502 : decode cX7_ever 502 = .ok (.invokestatic 163, 3) := by decide +kernel
theorem dX7_ever_505 : decode cX7_ever 505 = .ok (.aload_n 0, 1) := by decide +kernel
theorem dX7_ever_506 : decode cX7_ever 506 = .ok (.getfield 58, 3) := by decide +kernel
theorem dX7_ever_509 : decode cX7_ever 509 = .ok (.aload_n 0, 1) := by decide +kernel
theorem dX7_ever_510 : decode cX7_ever 510 = .ok (.getfield 61, 3) := by decide +kernel
theorem dX7_ever_513 : decode cX7_ever 513 = .ok (.invokestatic 124, 3) := by decide +kernel
theorem dX7_ever_516 : decode cX7_ever 516 = .ok (.iinc 4 (-1), 3) := by decide +kernel
theorem dX7_ever_519 : decode cX7_ever 519 = .ok (.goto (-170), 3) := by decide +kernel
theorem dX7_ever_522 : decode cX7_ever 522 = .ok (.iconst 1, 1) := by decide +kernel
theorem dX7_ever_523 : decode cX7_ever 523 = .ok (.ireturn, 1) := by decide +kernel
theorem dX7_pays_0 : decode cX7_pays 0 = .ok (.iconst 0, 1) := by decide +kernel
theorem dX7_pays_1 : decode cX7_pays 1 = .ok (.istore_n 3, 1) := by decide +kernel
theorem dX7_pays_2 : decode cX7_pays 2 = .ok (.aload_n 0, 1) := by decide +kernel
theorem dX7_pays_3 : decode cX7_pays 3 = .ok (.getfield 67, 3) := by decide +kernel
theorem dX7_pays_6 : decode cX7_pays 6 = .ok (.iload_n 1, 1) := by decide +kernel
theorem dX7_pays_7 : decode cX7_pays 7 = .ok (.aaload, 1) := by decide +kernel
theorem dX7_pays_8 : decode cX7_pays 8 = .ok (.aload_n 0, 1) := by decide +kernel
theorem dX7_pays_9 : decode cX7_pays 9 = .ok (.getfield 70, 3) := by decide +kernel
theorem dX7_pays_12 : decode cX7_pays 12 = .ok (.invokestatic 124, 3) := by decide +kernel
theorem dX7_pays_15 : decode cX7_pays 15 = .ok (.iconst 1, 1) := by decide +kernel
theorem dX7_pays_16 : decode cX7_pays 16 = .ok (.istore 4, 2) := by decide +kernel
theorem dX7_pays_18 : decode cX7_pays 18 = .ok (.iload 4, 2) := by decide +kernel
theorem dX7_pays_20 : decode cX7_pays 20 = .ok (.iload_n 1, 1) := by decide +kernel
theorem dX7_pays_21 : decode cX7_pays 21 = .ok (.if_icmp .gt 71, 3) := by decide +kernel
theorem dX7_pays_24 : decode cX7_pays 24 = .ok (.aload_n 0, 1) := by decide +kernel
theorem dX7_pays_25 : decode cX7_pays 25 = .ok (.getfield 73, 3) := by decide +kernel
theorem dX7_pays_28 : decode cX7_pays 28 = .ok (.iload 4, 2) := by decide +kernel
theorem dX7_pays_30 : decode cX7_pays 30 = .ok (.iconst 2, 1) := by decide +kernel
theorem dX7_pays_31 : decode cX7_pays 31 = .ok (.iload_n 2, 1) := by decide +kernel
theorem dX7_pays_32 : decode cX7_pays 32 = .ok (.imul, 1) := by decide +kernel
theorem dX7_pays_33 : decode cX7_pays 33 = .ok (.invokestatic 151, 3) := by decide +kernel
theorem dX7_pays_36 : decode cX7_pays 36 = .ok (.aload_n 0, 1) := by decide +kernel
theorem dX7_pays_37 : decode cX7_pays 37 = .ok (.aload_n 0, 1) := by decide +kernel
theorem dX7_pays_38 : decode cX7_pays 38 = .ok (.getfield 73, 3) := by decide +kernel
theorem dX7_pays_41 : decode cX7_pays 41 = .ok (.aload_n 0, 1) := by decide +kernel
theorem dX7_pays_42 : decode cX7_pays 42 = .ok (.getfield 67, 3) := by decide +kernel
theorem dX7_pays_45 : decode cX7_pays 45 = .ok (.iload_n 1, 1) := by decide +kernel
theorem dX7_pays_46 : decode cX7_pays 46 = .ok (.iload 4, 2) := by decide +kernel
theorem dX7_pays_48 : decode cX7_pays 48 = .ok (.isub, 1) := by decide +kernel
theorem dX7_pays_49 : decode cX7_pays 49 = .ok (.aaload, 1) := by decide +kernel
theorem dX7_pays_50 : decode cX7_pays 50 = .ok (.iconst 1, 1) := by decide +kernel
theorem dX7_pays_51 : decode cX7_pays 51 = .ok (.iconst 0, 1) := by decide +kernel
theorem dX7_pays_52 : decode cX7_pays 52 = .ok (.invokevirtual 120, 3) := by decide +kernel
theorem dX7_pays_55 : decode cX7_pays 55 = .ok (.aload_n 0, 1) := by decide +kernel
theorem dX7_pays_56 : decode cX7_pays 56 = .ok (.getfield 73, 3) := by decide +kernel
theorem dX7_pays_59 : decode cX7_pays 59 = .ok (.aload_n 0, 1) := by decide +kernel
theorem dX7_pays_60 : decode cX7_pays 60 = .ok (.getfield 70, 3) := by decide +kernel
theorem dX7_pays_63 : decode cX7_pays 63 = .ok (.invokestatic 155, 3) := by decide +kernel
theorem dX7_pays_66 : decode cX7_pays 66 = .ok (.ifCond .gt 6, 3) := by decide +kernel
theorem dX7_pays_69 : decode cX7_pays 69 = .ok (.goto 17, 3) := by decide +kernel
theorem dX7_pays_72 : decode cX7_pays 72 = .ok (.aload_n 0, 1) := by decide +kernel
theorem dX7_pays_73 : decode cX7_pays 73 = .ok (.getfield 73, 3) := by decide +kernel
theorem dX7_pays_76 : decode cX7_pays 76 = .ok (.aload_n 0, 1) := by decide +kernel
theorem dX7_pays_77 : decode cX7_pays 77 = .ok (.getfield 70, 3) := by decide +kernel
theorem dX7_pays_80 : decode cX7_pays 80 = .ok (.invokestatic 124, 3) := by decide +kernel
theorem dX7_pays_83 : decode cX7_pays 83 = .ok (.iload 4, 2) := by decide +kernel
theorem dX7_pays_85 : decode cX7_pays 85 = .ok (.istore_n 3, 1) := by decide +kernel
theorem dX7_pays_86 : decode cX7_pays 86 = .ok (.iinc 4 1, 3) := by decide +kernel
theorem dX7_pays_89 : decode cX7_pays 89 = .ok (.goto (-71), 3) := by decide +kernel
theorem dX7_pays_92 : decode cX7_pays 92 = .ok (.iload_n 3, 1) := by decide +kernel
theorem dX7_pays_93 : decode cX7_pays 93 = .ok (.ireturn, 1) := by decide +kernel
theorem dX7_worth_0 : decode cX7_worth 0 = .ok (.iload_n 1, 1) := by decide +kernel
theorem dX7_worth_1 : decode cX7_worth 1 = .ok (.iconst 0, 1) := by decide +kernel
theorem dX7_worth_2 : decode cX7_worth 2 = .ok (.bipush 60, 2) := by decide +kernel
theorem dX7_worth_4 : decode cX7_worth 4 = .ok (.invokestatic 80, 3) := by decide +kernel
theorem dX7_worth_7 : decode cX7_worth 7 = .ok (.ifCond .eq 44, 3) := by decide +kernel
theorem dX7_worth_10 : decode cX7_worth 10 = .ok (.iload_n 2, 1) := by decide +kernel
theorem dX7_worth_11 : decode cX7_worth 11 = .ok (.iconst 0, 1) := by decide +kernel
theorem dX7_worth_12 : decode cX7_worth 12 = .ok (.bipush 20, 2) := by decide +kernel
theorem dX7_worth_14 : decode cX7_worth 14 = .ok (.invokestatic 80, 3) := by decide +kernel
theorem dX7_worth_17 : decode cX7_worth 17 = .ok (.ifCond .eq 34, 3) := by decide +kernel
theorem dX7_worth_20 : decode cX7_worth 20 = .ok (.aload_n 0, 1) := by decide +kernel
theorem dX7_worth_21 : decode cX7_worth 21 = .ok (.iload_n 3, 1) := by decide +kernel
theorem dX7_worth_22 : decode cX7_worth 22 = .ok (.invokevirtual 88, 3) := by decide +kernel
theorem dX7_worth_25 : decode cX7_worth 25 = .ok (.ifCond .eq 26, 3) := by decide +kernel
theorem dX7_worth_28 : decode cX7_worth 28 = .ok (.iload 4, 2) := by decide +kernel
theorem dX7_worth_30 : decode cX7_worth 30 = .ok (.iconst 0, 1) := by decide +kernel
theorem dX7_worth_31 : decode cX7_worth 31 = .ok (.sipush 1000, 3) := by decide +kernel
theorem dX7_worth_34 : decode cX7_worth 34 = .ok (.invokestatic 80, 3) := by decide +kernel
theorem dX7_worth_37 : decode cX7_worth 37 = .ok (.ifCond .eq 14, 3) := by decide +kernel
theorem dX7_worth_40 : decode cX7_worth 40 = .ok (.iload 5, 2) := by decide +kernel
theorem dX7_worth_42 : decode cX7_worth 42 = .ok (.iconst 0, 1) := by decide +kernel
theorem dX7_worth_43 : decode cX7_worth 43 = .ok (.bipush 6, 2) := by decide +kernel
theorem dX7_worth_45 : decode cX7_worth 45 = .ok (.invokestatic 80, 3) := by decide +kernel
theorem dX7_worth_48 : decode cX7_worth 48 = .ok (.ifCond .ne 5, 3) := by decide +kernel
theorem dX7_worth_51 : decode cX7_worth 51 = .ok (.iconst (-1), 1) := by decide +kernel
theorem dX7_worth_52 : decode cX7_worth 52 = .ok (.ireturn, 1) := by decide +kernel
theorem dX7_worth_53 : decode cX7_worth 53 = .ok (.iload_n 1, 1) := by decide +kernel
theorem dX7_worth_54 : decode cX7_worth 54 = .ok (.istore 6, 2) := by decide +kernel
theorem dX7_worth_56 : decode cX7_worth 56 = .ok (.iconst 0, 1) := by decide +kernel
theorem dX7_worth_57 : decode cX7_worth 57 = .ok (.istore 7, 2) := by decide +kernel
theorem dX7_worth_59 : decode cX7_worth 59 = .ok (.iload 7, 2) := by decide +kernel
theorem dX7_worth_61 : decode cX7_worth 61 = .ok (.sipush 181, 3) := by decide +kernel
theorem dX7_worth_64 : decode cX7_worth 64 = .ok (.if_icmp .ge 22, 3) := by decide +kernel
theorem dX7_worth_67 : decode cX7_worth 67 = .ok (.aload_n 0, 1) := by decide +kernel
theorem dX7_worth_68 : decode cX7_worth 68 = .ok (.getfield 64, 3) := by decide +kernel
theorem dX7_worth_71 : decode cX7_worth 71 = .ok (.iload 7, 2) := by decide +kernel
theorem dX7_worth_73 : decode cX7_worth 73 = .ok (.aaload, 1) := by decide +kernel
theorem dX7_worth_74 : decode cX7_worth 74 = .ok (.iload 7, 2) := by decide +kernel
theorem dX7_worth_76 : decode cX7_worth 76 = .ok (.iconst 0, 1) := by decide +kernel
theorem dX7_worth_77 : decode cX7_worth 77 = .ok (.invokestatic 151, 3) := by decide +kernel
theorem dX7_worth_80 : decode cX7_worth 80 = .ok (.iinc 7 1, 3) := by decide +kernel
theorem dX7_worth_83 : decode cX7_worth 83 = .ok (.goto (-24), 3) := by decide +kernel
theorem dX7_worth_86 : decode cX7_worth 86 = .ok (.iconst 1, 1) := by decide +kernel
theorem dX7_worth_87 : decode cX7_worth 87 = .ok (.istore 7, 2) := by decide +kernel
theorem dX7_worth_89 : decode cX7_worth 89 = .ok (.iload 7, 2) := by decide +kernel
theorem dX7_worth_91 : decode cX7_worth 91 = .ok (.iload 5, 2) := by decide +kernel
theorem dX7_worth_93 : decode cX7_worth 93 = .ok (.if_icmp .gt 176, 3) := by decide +kernel
theorem dX7_worth_96 : decode cX7_worth 96 = .ok (.iload_n 1, 1) := by decide +kernel
theorem dX7_worth_97 : decode cX7_worth 97 = .ok (.iload_n 2, 1) := by decide +kernel
theorem dX7_worth_98 : decode cX7_worth 98 = .ok (.iload 5, 2) := by decide +kernel
theorem dX7_worth_100 : decode cX7_worth 100 = .ok (.iload 7, 2) := by decide +kernel
theorem dX7_worth_102 : decode cX7_worth 102 = .ok (.isub, 1) := by decide +kernel
theorem dX7_worth_103 : decode cX7_worth 103 = .ok (.imul, 1) := by decide +kernel
theorem dX7_worth_104 : decode cX7_worth 104 = .ok (.iadd, 1) := by decide +kernel
theorem dX7_worth_105 : decode cX7_worth 105 = .ok (.istore 8, 2) := by decide +kernel
theorem dX7_worth_107 : decode cX7_worth 107 = .ok (.iconst 0, 1) := by decide +kernel
theorem dX7_worth_108 : decode cX7_worth 108 = .ok (.istore 9, 2) := by decide +kernel
theorem dX7_worth_110 : decode cX7_worth 110 = .ok (.iload 9, 2) := by decide +kernel
theorem dX7_worth_112 : decode cX7_worth 112 = .ok (.iload 8, 2) := by decide +kernel
theorem dX7_worth_114 : decode cX7_worth 114 = .ok (.if_icmp .gt 99, 3) := by decide +kernel
theorem dX7_worth_117 : decode cX7_worth 117 = .ok (.aload_n 0, 1) := by decide +kernel
theorem dX7_worth_118 : decode cX7_worth 118 = .ok (.getfield 46, 3) := by decide +kernel
theorem dX7_worth_121 : decode cX7_worth 121 = .ok (.invokestatic 112, 3) := by decide +kernel
theorem dX7_worth_124 : decode cX7_worth 124 = .ok (.iconst 0, 1) := by decide +kernel
theorem dX7_worth_125 : decode cX7_worth 125 = .ok (.istore 10, 2) := by decide +kernel
theorem dX7_worth_127 : decode cX7_worth 127 = .ok (.iload 10, 2) := by decide +kernel
theorem dX7_worth_129 : decode cX7_worth 129 = .ok (.bipush 21, 2) := by decide +kernel
theorem dX7_worth_131 : decode cX7_worth 131 = .ok (.if_icmp .ge 48, 3) := by decide +kernel
theorem dX7_worth_134 : decode cX7_worth 134 = .ok (.iload 9, 2) := by decide +kernel
theorem dX7_worth_136 : decode cX7_worth 136 = .ok (.iload_n 2, 1) := by decide +kernel
theorem dX7_worth_137 : decode cX7_worth 137 = .ok (.iadd, 1) := by decide +kernel
theorem dX7_worth_138 : decode cX7_worth 138 = .ok (.iload 10, 2) := by decide +kernel
theorem dX7_worth_140 : decode cX7_worth 140 = .ok (.isub, 1) := by decide +kernel
theorem dX7_worth_141 : decode cX7_worth 141 = .ok (.istore 11, 2) := by decide +kernel
