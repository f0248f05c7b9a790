theorem dX6_init_36 : decode cX6_init 36 = .ok (.dup, 1) := by decide +kernel
theorem dX6_init_37 : decode cX6_init 37 = .ok (.invokespecial 28, 3) := by decide +kernel
theorem dX6_init_40 : decode cX6_init 40 = .ok (.putfield 29, 3) := by decide +kernel
theorem dX6_init_43 : decode cX6_init 43 = .ok (.aload_n 0, 1) := by decide +kernel
theorem dX6_init_44 : decode cX6_init 44 = .ok (.new 33, 3) := by decide +kernel
theorem dX6_init_47 : decode cX6_init 47 = .ok (.dup, 1) := by decide +kernel
theorem dX6_init_48 : decode cX6_init 48 = .ok (.invokespecial 35, 3) := by decide +kernel
theorem dX6_init_51 : decode cX6_init 51 = .ok (.putfield 36, 3) := by decide +kernel
theorem dX6_init_54 : decode cX6_init 54 = .ok (.aload_n 0, 1) := by decide +kernel
theorem dX6_init_55 : decode cX6_init 55 = .ok (.new 40, 3) := by decide +kernel
theorem dX6_init_58 : decode cX6_init 58 = .ok (.dup, 1) := by decide +kernel
theorem dX6_init_59 : decode cX6_init 59 = .ok (.iconst 1, 1) := by decide +kernel
theorem dX6_init_60 : decode cX6_init 60 = .ok (.bipush 11, 2) := by decide +kernel
theorem dX6_init_62 : decode cX6_init 62 = .ok (.invokespecial 42, 3) := by decide +kernel
theorem dX6_init_65 : decode cX6_init 65 = .ok (.putfield 45, 3) := by decide +kernel
theorem dX6_init_68 : decode cX6_init 68 = .ok (.aload_n 0, 1) := by decide +kernel
theorem dX6_init_69 : decode cX6_init 69 = .ok (.new 40, 3) := by decide +kernel
theorem dX6_init_72 : decode cX6_init 72 = .ok (.dup, 1) := by decide +kernel
theorem dX6_init_73 : decode cX6_init 73 = .ok (.iconst 1, 1) := by decide +kernel
theorem dX6_init_74 : decode cX6_init 74 = .ok (.bipush 11, 2) := by decide +kernel
theorem dX6_init_76 : decode cX6_init 76 = .ok (.invokespecial 42, 3) := by decide +kernel
theorem dX6_init_79 : decode cX6_init 79 = .ok (.putfield 49, 3) := by decide +kernel
theorem dX6_init_82 : decode cX6_init 82 = .ok (.aload_n 0, 1) := by decide +kernel
theorem dX6_init_83 : decode cX6_init 83 = .ok (.new 40, 3) := by decide +kernel
theorem dX6_init_86 : decode cX6_init 86 = .ok (.dup, 1) := by decide +kernel
theorem dX6_init_87 : decode cX6_init 87 = .ok (.bipush 41, 2) := by decide +kernel
theorem dX6_init_89 : decode cX6_init 89 = .ok (.bipush 11, 2) := by decide +kernel
theorem dX6_init_91 : decode cX6_init 91 = .ok (.invokespecial 42, 3) := by decide +kernel
theorem dX6_init_94 : decode cX6_init 94 = .ok (.putfield 52, 3) := by decide +kernel
theorem dX6_init_97 : decode cX6_init 97 = .ok (.aload_n 0, 1) := by decide +kernel
theorem dX6_init_98 : decode cX6_init 98 = .ok (.new 40, 3) := by decide +kernel
theorem dX6_init_101 : decode cX6_init 101 = .ok (.dup, 1) := by decide +kernel
theorem dX6_init_102 : decode cX6_init 102 = .ok (.bipush 21, 2) := by decide +kernel
theorem dX6_init_104 : decode cX6_init 104 = .ok (.bipush 11, 2) := by decide +kernel
theorem dX6_init_106 : decode cX6_init 106 = .ok (.invokespecial 42, 3) := by decide +kernel
theorem dX6_init_109 : decode cX6_init 109 = .ok (.putfield 55, 3) := by decide +kernel
theorem dX6_init_112 : decode cX6_init 112 = .ok (.aload_n 0, 1) := by decide +kernel
theorem dX6_init_113 : decode cX6_init 113 = .ok (.iconst 0, 1) := by decide +kernel
theorem dX6_init_114 : decode cX6_init 114 = .ok (.putfield 58, 3) := by decide +kernel
theorem dX6_init_117 : decode cX6_init 117 = .ok (.aload_n 0, 1) := by decide +kernel
theorem dX6_init_118 : decode cX6_init 118 = .ok (.iconst 0, 1) := by decide +kernel
theorem dX6_init_119 : decode cX6_init 119 = .ok (.putfield 62, 3) := by decide +kernel
theorem dX6_init_122 : decode cX6_init 122 = .ok (.iconst 0, 1) := by decide +kernel
theorem dX6_init_123 : decode cX6_init 123 = .ok (.istore_n 1, 1) := by decide +kernel
theorem dX6_init_124 : decode cX6_init 124 = .ok (.iload_n 1, 1) := by decide +kernel
theorem dX6_init_125 : decode cX6_init 125 = .ok (.bipush 8, 2) := by decide +kernel
theorem dX6_init_127 : decode cX6_init 127 = .ok (.if_icmp .ge 22, 3) := by decide +kernel
theorem dX6_init_130 : decode cX6_init 130 = .ok (.aload_n 0, 1) := by decide +kernel
theorem dX6_init_131 : decode cX6_init 131 = .ok (.getfield 11, 3) := by decide +kernel
theorem dX6_init_134 : decode cX6_init 134 = .ok (.iload_n 1, 1) := by decide +kernel
theorem dX6_init_135 : decode cX6_init 135 = .ok (.new 9, 3) := by decide +kernel
theorem dX6_init_138 : decode cX6_init 138 = .ok (.dup, 1) := by decide +kernel
theorem dX6_init_139 : decode cX6_init 139 = .ok (.invokespecial 65, 3) := by decide +kernel
theorem dX6_init_142 : decode cX6_init 142 = .ok (.aastore, 1) := by decide +kernel
theorem dX6_init_143 : decode cX6_init 143 = .ok (.iinc 1 1, 3) := by decide +kernel
theorem dX6_init_146 : decode cX6_init 146 = .ok (.goto (-22), 3) := by decide +kernel
theorem dX6_init_149 : decode cX6_init 149 = .ok (.return_, 1) := by decide +kernel
theorem dX6_set_0 : decode cX6_set 0 = .ok (.aload_n 0, 1) := by decide +kernel
theorem dX6_set_1 : decode cX6_set 1 = .ok (.iload_n 1, 1) := by decide +kernel
theorem dX6_set_2 : decode cX6_set 2 = .ok (.invokevirtual 66, 3) := by decide +kernel
theorem dX6_set_5 : decode cX6_set 5 = .ok (.astore 4, 2) := by decide +kernel
theorem dX6_set_7 : decode cX6_set 7 = .ok (.aload 4, 2) := by decide +kernel
theorem dX6_set_9 : decode cX6_set 9 = .ok (.ifnull 24, 3) := by decide +kernel
theorem dX6_set_12 : decode cX6_set 12 = .ok (.iload_n 2, 1) := by decide +kernel
theorem dX6_set_13 : decode cX6_set 13 = .ok (.iconst 0, 1) := by decide +kernel
theorem dX6_set_14 : decode cX6_set 14 = .ok (.bipush 20, 2) := by decide +kernel
theorem dX6_set_16 : decode cX6_set 16 = .ok (.invokestatic 70, 3) := by decide +kernel
theorem dX6_set_19 : decode cX6_set 19 = .ok (.ifCond .eq 14, 3) := by decide +kernel
theorem dX6_set_22 : decode cX6_set 22 = .ok (.iload_n 3, 1) := by decide +kernel
theorem dX6_set_23 : decode cX6_set 23 = .ok (.iconst 0, 1) := by decide +kernel
theorem dX6_set_24 : decode cX6_set 24 = .ok (.sipush 1000, 3) := by decide +kernel
theorem dX6_set_27 : decode cX6_set 27 = .ok (.invokestatic 70, 3) := by decide +kernel
theorem dX6_set_30 : decode cX6_set 30 = .ok (.ifCond .ne 5, 3) := by decide +kernel
theorem dX6_set_33 : decode cX6_set 33 = .ok (.iconst 0, 1) := by decide +kernel
theorem dX6_set_34 : decode cX6_set 34 = .ok (.ireturn, 1) := by decide +kernel
theorem dX6_set_35 : decode cX6_set 35 = .ok (.aload 4, 2) := by decide +kernel
theorem dX6_set_37 : decode cX6_set 37 = .ok (.iload_n 2, 1) := by decide +kernel
theorem dX6_set_38 : decode cX6_set 38 = .ok (.iload_n 3, 1) := by decide +kernel
theorem dX6_set_39 : decode cX6_set 39 = .ok (.invokevirtual 74, 3) := by decide +kernel
theorem dX6_set_42 : decode cX6_set 42 = .ok (.iconst 1, 1) := by decide +kernel
theorem dX6_set_43 : decode cX6_set 43 = .ok (.ireturn, 1) := by decide +kernel
theorem dX6_parts_0 : decode cX6_parts 0 = .ok (.aload_n 0, 1) := by decide +kernel
theorem dX6_parts_1 : decode cX6_parts 1 = .ok (.iload_n 1, 1) := by decide +kernel
theorem dX6_parts_2 : decode cX6_parts 2 = .ok (.invokevirtual 66, 3) := by decide +kernel
theorem dX6_parts_5 : decode cX6_parts 5 = .ok (.astore_n 3, 1) := by decide +kernel
theorem dX6_parts_6 : decode cX6_parts 6 = .ok (.aload_n 3, 1) := by decide +kernel
theorem dX6_parts_7 : decode cX6_parts 7 = .ok (.ifnull 13, 3) := by decide +kernel
theorem dX6_parts_10 : decode cX6_parts 10 = .ok (.iload_n 2, 1) := by decide +kernel
theorem dX6_parts_11 : decode cX6_parts 11 = .ok (.iconst 0, 1) := by decide +kernel
theorem dX6_parts_12 : decode cX6_parts 12 = .ok (.bipush 20, 2) := by decide +kernel
theorem dX6_parts_14 : decode cX6_parts 14 = .ok (.invokestatic 70, 3) := by decide +kernel
theorem dX6_parts_17 : decode cX6_parts 17 = .ok (.ifCond .ne 5, 3) := by decide +kernel
theorem dX6_parts_20 : decode cX6_parts 20 = .ok (.iconst (-1), 1) := by decide +kernel
theorem dX6_parts_21 : decode cX6_parts 21 = .ok (.ireturn, 1) := by decide +kernel
theorem dX6_parts_22 : decode cX6_parts 22 = .ok (.aload_n 3, 1) := by decide +kernel
theorem dX6_parts_23 : decode cX6_parts 23 = .ok (.iload_n 2, 1) := by decide +kernel
theorem dX6_parts_24 : decode cX6_parts 24 = .ok (.invokevirtual 77, 3) := by decide +kernel
theorem dX6_parts_27 : decode cX6_parts 27 = .ok (.ireturn, 1) := by decide +kernel
theorem dX6_right_0 : decode cX6_right 0 = .ok (.aload_n 0, 1) := by decide +kernel
theorem dX6_right_1 : decode cX6_right 1 = .ok (.iload_n 1, 1) := by decide +kernel
theorem dX6_right_2 : decode cX6_right 2 = .ok (.invokevirtual 81, 3) := by decide +kernel
theorem dX6_right_5 : decode cX6_right 5 = .ok (.ifnull 7, 3) := by decide +kernel
theorem dX6_right_8 : decode cX6_right 8 = .ok (.iconst 1, 1) := by decide +kernel
theorem dX6_right_9 : decode cX6_right 9 = .ok (.goto 4, 3) := by decide +kernel
theorem dX6_right_12 : decode cX6_right 12 = .ok (.iconst 0, 1) := by decide +kernel
theorem dX6_right_13 : decode cX6_right 13 = .ok (.ireturn, 1) := by decide +kernel
theorem dX6_told_0 : decode cX6_told 0 = .ok (.aload_n 0, 1) := by decide +kernel
theorem dX6_told_1 : decode cX6_told 1 = .ok (.iload_n 1, 1) := by decide +kernel
theorem dX6_told_2 : decode cX6_told 2 = .ok (.invokevirtual 81, 3) := by decide +kernel
theorem dX6_told_5 : decode cX6_told 5 = .ok (.astore 4, 2) := by decide +kernel
theorem dX6_told_7 : decode cX6_told 7 = .ok (.aload 4, 2) := by decide +kernel
theorem dX6_told_9 : decode cX6_told 9 = .ok (.ifnonnull 5, 3) := by decide +kernel
theorem dX6_told_12 : decode cX6_told 12 = .ok (.iconst (-1), 1) := by decide +kernel
theorem dX6_told_13 : decode cX6_told 13 = .ok (.ireturn, 1) := by decide +kernel
theorem dX6_told_14 : decode cX6_told 14 = .ok (.iload_n 2, 1) := by decide +kernel
theorem dX6_told_15 : decode cX6_told 15 = .ok (.ifCond .ne 9, 3) := by decide +kernel
theorem dX6_told_18 : decode cX6_told 18 = .ok (.aload 4, 2) := by decide +kernel
theorem dX6_told_20 : decode cX6_told 20 = .ok (.invokevirtual 84, 3) := by decide +kernel
theorem dX6_told_23 : decode cX6_told 23 = .ok (.ireturn, 1) := by decide +kernel
theorem dX6_told_24 : decode cX6_told 24 = .ok (.iload_n 2, 1) := by decide +kernel
theorem dX6_told_25 : decode cX6_told 25 = .ok (.iconst 1, 1) := by decide +kernel
theorem dX6_told_26 : decode cX6_told 26 = .ok (.if_icmp .ne 9, 3) := by decide +kernel
theorem dX6_told_29 : decode cX6_told 29 = .ok (.aload 4, 2) := by decide +kernel
theorem dX6_told_31 : decode cX6_told 31 = .ok (.invokevirtual 88, 3) := by decide +kernel
theorem dX6_told_34 : decode cX6_told 34 = .ok (.ireturn, 1) := by decide +kernel
theorem dX6_told_35 : decode cX6_told 35 = .ok (.iload_n 2, 1) := by decide +kernel
theorem dX6_told_36 : decode cX6_told 36 = .ok (.iconst 2, 1) := by decide +kernel
theorem dX6_told_37 : decode cX6_told 37 = .ok (.if_icmp .ne 22, 3) := by decide +kernel
theorem dX6_told_40 : decode cX6_told 40 = .ok (.iload_n 3, 1) := by decide +kernel
theorem dX6_told_41 : decode cX6_told 41 = .ok (.iconst 0, 1) := by decide +kernel
theorem dX6_told_42 : decode cX6_told 42 = .ok (.bipush 20, 2) := by decide +kernel
theorem dX6_told_44 : decode cX6_told 44 = .ok (.invokestatic 70, 3) := by decide +kernel
theorem dX6_told_47 : decode cX6_told 47 = .ok (.ifCond .eq 12, 3) := by decide +kernel
theorem dX6_told_50 : decode cX6_told 50 = .ok (.aload 4, 2) := by decide +kernel
theorem dX6_told_52 : decode cX6_told 52 = .ok (.iload_n 3, 1) := by decide +kernel
theorem dX6_told_53 : decode cX6_told 53 = .ok (.invokevirtual 91, 3) := by decide +kernel
theorem dX6_told_56 : decode cX6_told 56 = .ok (.goto 4, 3) := by decide +kernel
theorem dX6_told_59 : decode cX6_told 59 = .ok (.iconst (-1), 1) := by decide +kernel
theorem dX6_told_60 : decode cX6_told 60 = .ok (.ireturn, 1) := by decide +kernel
theorem dX6_layer_0 : decode cX6_layer 0 = .ok (.aload_n 0, 1) := by decide +kernel
theorem dX6_layer_1 : decode cX6_layer 1 = .ok (.iload_n 1, 1) := by decide +kernel
theorem dX6_layer_2 : decode cX6_layer 2 = .ok (.invokevirtual 81, 3) := by decide +kernel
theorem dX6_layer_5 : decode cX6_layer 5 = .ok (.astore 6, 2) := by decide +kernel
theorem dX6_layer_7 : decode cX6_layer 7 = .ok (.aload_n 0, 1) := by decide +kernel
theorem dX6_layer_8 : decode cX6_layer 8 = .ok (.iload 5, 2) := by decide +kernel
theorem dX6_layer_10 : decode cX6_layer 10 = .ok (.invokevirtual 66, 3) := by decide +kernel
theorem dX6_layer_13 : decode cX6_layer 13 = .ok (.astore 7, 2) := by decide +kernel
theorem dX6_layer_15 : decode cX6_layer 15 = .ok (.aload 6, 2) := by decide +kernel
theorem dX6_layer_17 : decode cX6_layer 17 = .ok (.ifnull 23, 3) := by decide +kernel
theorem dX6_layer_20 : decode cX6_layer 20 = .ok (.aload 7, 2) := by decide +kernel
theorem dX6_layer_22 : decode cX6_layer 22 = .ok (.ifnull 18, 3) := by decide +kernel
theorem dX6_layer_25 : decode cX6_layer 25 = .ok (.iload_n 2, 1) := by decide +kernel
theorem dX6_layer_26 : decode cX6_layer 26 = .ok (.ifCond .lt 14, 3) := by decide +kernel
theorem dX6_layer_29 : decode cX6_layer 29 = .ok (.iload_n 3, 1) := by decide +kernel
theorem dX6_layer_30 : decode cX6_layer 30 = .ok (.bipush 20, 2) := by decide +kernel
theorem dX6_layer_32 : decode cX6_layer 32 = .ok (.if_icmp .gt 8, 3) := by decide +kernel
theorem dX6_layer_35 : decode cX6_layer 35 = .ok (.iload_n 2, 1) := by decide +kernel
theorem dX6_layer_36 : decode cX6_layer 36 = .ok (.iload_n 3, 1) := by decide +kernel
theorem dX6_layer_37 : decode cX6_layer 37 = .ok (.if_icmp .le 5, 3) := by decide +kernel
theorem dX6_layer_40 : decode cX6_layer 40 = .ok (.iconst 0, 1) := by decide +kernel
theorem dX6_layer_41 : decode cX6_layer 41 = .ok (.ireturn, 1) := by decide +kernel
theorem dX6_layer_42 : decode cX6_layer 42 = .ok (.aload_n 0, 1) := by decide +kernel
theorem dX6_layer_43 : decode cX6_layer 43 = .ok (.getfield 15, 3) := by decide +kernel
theorem dX6_layer_46 : decode cX6_layer 46 = .ok (.iconst 0, 1) := by decide +kernel
theorem dX6_layer_47 : decode cX6_layer 47 = .ok (.invokestatic 94, 3) := by decide +kernel
theorem dX6_layer_50 : decode cX6_layer 50 = .ok (.iconst 0, 1) := by decide +kernel
theorem dX6_layer_51 : decode cX6_layer 51 = .ok (.istore 8, 2) := by decide +kernel
theorem dX6_layer_53 : decode cX6_layer 53 = .ok (.iload 8, 2) := by decide +kernel
theorem dX6_layer_55 : decode cX6_layer 55 = .ok (.bipush 20, 2) := by decide +kernel
theorem dX6_layer_57 : decode cX6_layer 57 = .ok (.if_icmp .gt 51, 3) := by decide +kernel
theorem dX6_layer_60 : decode cX6_layer 60 = .ok (.iload 8, 2) := by decide +kernel
theorem dX6_layer_62 : decode cX6_layer 62 = .ok (.iload_n 2, 1) := by decide +kernel
theorem dX6_layer_63 : decode cX6_layer 63 = .ok (.isub, 1) := by decide +kernel
theorem dX6_layer_64 : decode cX6_layer 64 = .ok (.iconst 0, 1) := by decide +kernel
theorem dX6_layer_65 : decode cX6_layer 65 = .ok (.invokestatic 100, 3) := by decide +kernel
theorem dX6_layer_68 : decode cX6_layer 68 = .ok (.iload_n 3, 1) := by decide +kernel
theorem dX6_layer_69 : decode cX6_layer 69 = .ok (.iload_n 2, 1) := by decide +kernel
theorem dX6_layer_70 : decode cX6_layer 70 = .ok (.isub, 1) := by decide +kernel
theorem dX6_layer_71 : decode cX6_layer 71 = .ok (.invokestatic 106, 3) := by decide +kernel
theorem dX6_layer_74 : decode cX6_layer 74 = .ok (.istore 9, 2) := by decide +kernel
theorem dX6_layer_76 : decode cX6_layer 76 = .ok (.aload_n 0, 1) := by decide +kernel
theorem dX6_layer_77 : decode cX6_layer 77 = .ok (.iload 4, 2) := by decide +kernel
theorem dX6_layer_79 : decode cX6_layer 79 = .ok (.ifCond .eq 8, 3) := by decide +kernel
theorem dX6_layer_82 : decode cX6_layer 82 = .ok (.iload 9, 2) := by decide +kernel
theorem dX6_layer_84 : decode cX6_layer 84 = .ok (.goto 8, 3) := by decide +kernel
theorem dX6_layer_87 : decode cX6_layer 87 = .ok (.iload 8, 2) := by decide +kernel
theorem dX6_layer_89 : decode cX6_layer 89 = .ok (.iload 9, 2) := by decide +kernel
theorem dX6_layer_91 : decode cX6_layer 91 = .ok (.isub, 1) := by decide +kernel
theorem dX6_layer_92 : decode cX6_layer 92 = .ok (.aload 6, 2) := by decide +kernel
theorem dX6_layer_94 : decode cX6_layer 94 = .ok (.iload 8, 2) := by decide +kernel
theorem dX6_layer_96 : decode cX6_layer 96 = .ok (.invokevirtual 77, 3) := by decide +kernel
theorem dX6_layer_99 : decode cX6_layer 99 = .ok (.invokevirtual 109, 3) := by decide +kernel
theorem dX6_layer_102 : decode cX6_layer 102 = .ok (.iinc 8 1, 3) := by decide +kernel
theorem dX6_layer_105 : decode cX6_layer 105 = .ok (.goto (-52), 3) := by decide +kernel
theorem dX6_layer_108 : decode cX6_layer 108 = .ok (.aload_n 0, 1) := by decide +kernel
theorem dX6_layer_109 : decode cX6_layer 109 = .ok (.aload 7, 2) := by decide +kernel
theorem dX6_layer_111 : decode cX6_layer 111 = .ok (.invokevirtual 112, 3) := by decide +kernel
theorem dX6_layer_114 : decode cX6_layer 114 = .ok (.iconst 1, 1) := by decide +kernel
theorem dX6_layer_115 : decode cX6_layer 115 = .ok (.ireturn, 1) := by decide +kernel
theorem dX6_part_0 : decode cX6_part 0 = .ok (.aload_n 0, 1) := by decide +kernel
theorem dX6_part_1 : decode cX6_part 1 = .ok (.iload_n 1, 1) := by decide +kernel
theorem dX6_part_2 : decode cX6_part 2 = .ok (.invokevirtual 81, 3) := by decide +kernel
theorem dX6_part_5 : decode cX6_part 5 = .ok (.astore 5, 2) := by decide +kernel
theorem dX6_part_7 : decode cX6_part 7 = .ok (.aload_n 0, 1) := by decide +kernel
theorem dX6_part_8 : decode cX6_part 8 = .ok (.iload 4, 2) := by decide +kernel
theorem dX6_part_10 : decode cX6_part 10 = .ok (.invokevirtual 66, 3) := by decide +kernel
theorem dX6_part_13 : decode cX6_part 13 = .ok (.astore 6, 2) := by decide +kernel
theorem dX6_part_15 : decode cX6_part 15 = .ok (.aload 5, 2) := by decide +kernel
theorem dX6_part_17 : decode cX6_part 17 = .ok (.ifnull 18, 3) := by decide +kernel
theorem dX6_part_20 : decode cX6_part 20 = .ok (.aload 6, 2) := by decide +kernel
theorem dX6_part_22 : decode cX6_part 22 = .ok (.ifnull 13, 3) := by decide +kernel
theorem dX6_part_25 : decode cX6_part 25 = .ok (.iload_n 2, 1) := by decide +kernel
theorem dX6_part_26 : decode cX6_part 26 = .ok (.iconst 0, 1) := by decide +kernel
theorem dX6_part_27 : decode cX6_part 27 = .ok (.bipush 100, 2) := by decide +kernel
theorem dX6_part_29 : decode cX6_part 29 = .ok (.invokestatic 70, 3) := by decide +kernel
theorem dX6_part_32 : decode cX6_part 32 = .ok (.ifCond .ne 5, 3) := by decide +kernel
theorem dX6_part_35 : decode cX6_part 35 = .ok (.iconst 0, 1) := by decide +kernel
theorem dX6_part_36 : decode cX6_part 36 = .ok (.ireturn, 1) := by decide +kernel
theorem dX6_part_37 : decode cX6_part 37 = .ok (.aload_n 0, 1) := by decide +kernel
theorem dX6_part_38 : decode cX6_part 38 = .ok (.getfield 15, 3) := by decide +kernel
theorem dX6_part_41 : decode cX6_part 41 = .ok (.iconst 0, 1) := by decide +kernel
theorem dX6_part_42 : decode cX6_part 42 = .ok (.invokestatic 94, 3) := by decide +kernel
theorem dX6_part_45 : decode cX6_part 45 = .ok (.iconst 0, 1) := by decide +kernel
theorem dX6_part_46 : decode cX6_part 46 = .ok (.istore 7, 2) := by decide +kernel
theorem dX6_part_48 : decode cX6_part 48 = .ok (.iload 7, 2) := by decide +kernel
theorem dX6_part_50 : decode cX6_part 50 = .ok (.bipush 20, 2) := by decide +kernel
theorem dX6_part_52 : decode cX6_part 52 = .ok (.if_icmp .gt 43, 3) := by decide +kernel
theorem dX6_part_55 : decode cX6_part 55 = .ok (.iload 7, 2) := by decide +kernel
theorem dX6_part_57 : decode cX6_part 57 = .ok (.iload_n 2, 1) := by decide +kernel
theorem dX6_part_58 : decode cX6_part 58 = .ok (.imul, 1) := by decide +kernel
theorem dX6_part_59 : decode cX6_part 59 = .ok (.bipush 100, 2) := by decide +kernel
theorem dX6_part_61 : decode cX6_part 61 = .ok (.idiv, 1) := by decide +kernel
theorem dX6_part_62 : decode cX6_part 62 = .ok (.istore 8, 2) := by decide +kernel
theorem dX6_part_64 : decode cX6_part 64 = .ok (.aload_n 0, 1) := by decide +kernel
theorem dX6_part_65 : decode cX6_part 65 = .ok (.iload_n 3, 1) := by decide +kernel
theorem dX6_part_66 : decode cX6_part 66 = .ok (.ifCond .eq 11, 3) := by decide +kernel
theorem dX6_part_69 : decode cX6_part 69 = .ok (.iload 7, 2) := by decide +kernel
theorem dX6_part_71 : decode cX6_part 71 = .ok (.iload 8, 2) := by decide +kernel
theorem dX6_part_73 : decode cX6_part 73 = .ok (.isub, 1) := by decide +kernel
theorem dX6_part_74 : decode cX6_part 74 = .ok (.goto 5, 3) := by decide +kernel
theorem dX6_part_77 : decode cX6_part 77 = .ok (.iload 8, 2) := by decide +kernel
theorem dX6_part_79 : decode cX6_part 79 = .ok (.aload 5, 2) := by decide +kernel
theorem dX6_part_81 : decode cX6_part 81 = .ok (.iload 7, 2) := by decide +kernel
theorem dX6_part_83 : decode cX6_part 83 = .ok (.invokevirtual 77, 3) := by decide +kernel
theorem dX6_part_86 : decode cX6_part 86 = .ok (.invokevirtual 109, 3) := by decide +kernel
theorem dX6_part_89 : decode cX6_part 89 = .ok (.iinc 7 1, 3) := by decide +kernel
theorem dX6_part_92 : decode cX6_part 92 = .ok (.goto (-44), 3) := by decide +kernel
theorem dX6_part_95 : decode cX6_part 95 = .ok (.aload_n 0, 1) := by decide +kernel
theorem dX6_part_96 : decode cX6_part 96 = .ok (.aload 6, 2) := by decide +kernel
theorem dX6_part_98 : decode cX6_part 98 = .ok (.invokevirtual 112, 3) := by decide +kernel
theorem dX6_part_101 : decode cX6_part 101 = .ok (.iconst 1, 1) := by decide +kernel
theorem dX6_part_102 : decode cX6_part 102 = .ok (.ireturn, 1) := by decide +kernel
theorem dX6_ruin_0 : decode cX6_ruin 0 = .ok (.aload_n 0, 1) := by decide +kernel
theorem dX6_ruin_1 : decode cX6_ruin 1 = .ok (.iload_n 3, 1) := by decide +kernel
theorem dX6_ruin_2 : decode cX6_ruin 2 = .ok (.invokevirtual 81, 3) := by decide +kernel
theorem dX6_ruin_5 : decode cX6_ruin 5 = .ok (.astore 5, 2) := by decide +kernel
theorem dX6_ruin_7 : decode cX6_ruin 7 = .ok (.aload 5, 2) := by decide +kernel
theorem dX6_ruin_9 : decode cX6_ruin 9 = .ok (.ifnull 34, 3) := by decide +kernel
theorem dX6_ruin_12 : decode cX6_ruin 12 = .ok (.iload_n 1, 1) := by decide +kernel
theorem dX6_ruin_13 : decode cX6_ruin 13 = .ok (.iconst 0, 1) := by decide +kernel
theorem dX6_ruin_14 : decode cX6_ruin 14 = .ok (.bipush 100, 2) := by decide +kernel
theorem dX6_ruin_16 : decode cX6_ruin 16 = .ok (.invokestatic 70, 3) := by decide +kernel
theorem dX6_ruin_19 : decode cX6_ruin 19 = .ok (.ifCond .eq 24, 3) := by decide +kernel
theorem dX6_ruin_22 : decode cX6_ruin 22 = .ok (.iload_n 2, 1) := by decide +kernel
theorem dX6_ruin_23 : decode cX6_ruin 23 = .ok (.iconst 0, 1) := by decide +kernel
theorem dX6_ruin_24 : decode cX6_ruin 24 = .ok (.bipush 20, 2) := by decide +kernel
theorem dX6_ruin_26 : decode cX6_ruin 26 = .ok (.invokestatic 70, 3) := by decide +kernel
theorem dX6_ruin_29 : decode cX6_ruin 29 = .ok (.ifCond .eq 14, 3) := by decide +kernel
theorem dX6_ruin_32 : decode cX6_ruin 32 = .ok (.iload 4, 2) := by decide +kernel
theorem dX6_ruin_34 : decode cX6_ruin 34 = .ok (.iconst 1, 1) := by decide +kernel
theorem dX6_ruin_35 : decode cX6_ruin 35 = .ok (.bipush 40, 2) := by decide +kernel
theorem dX6_ruin_37 : decode cX6_ruin 37 = .ok (.invokestatic 70, 3) := by decide +kernel
theorem dX6_ruin_40 : decode cX6_ruin 40 = .ok (.ifCond .ne 5, 3) := by decide +kernel
theorem dX6_ruin_43 : decode cX6_ruin 43 = .ok (.iconst 0, 1) := by decide +kernel
theorem dX6_ruin_44 : decode cX6_ruin 44 = .ok (.ireturn, 1) := by decide +kernel
theorem dX6_ruin_45 : decode cX6_ruin 45 = .ok (.aload_n 0, 1) := by decide +kernel
theorem dX6_ruin_46 : decode cX6_ruin 46 = .ok (.lconst 1, 1) := by decide +kernel
theorem dX6_ruin_47 : decode cX6_ruin 47 = .ok (.invokevirtual 116, 3) := by decide +kernel
theorem dX6_ruin_50 : decode cX6_ruin 50 = .ok (.aload_n 0, 1) := by decide +kernel
theorem dX6_ruin_51 : decode cX6_ruin 51 = .ok (.getfield 22, 3) := by decide +kernel
theorem dX6_ruin_54 : decode cX6_ruin 54 = .ok (.getfield 120, 3) := by decide +kernel
theorem dX6_ruin_57 : decode cX6_ruin 57 = .ok (.aload 5, 2) := by decide +kernel
theorem dX6_ruin_59 : decode cX6_ruin 59 = .ok (.iconst 1, 1) := by decide +kernel
theorem dX6_ruin_60 : decode cX6_ruin 60 = .ok (.invokevirtual 124, 3) := by decide +kernel
theorem dX6_ruin_63 : decode cX6_ruin 63 = .ok (.aload_n 0, 1) := by decide +kernel
theorem dX6_ruin_64 : decode cX6_ruin 64 = .ok (.getfield 22, 3) := by decide +kernel
theorem dX6_ruin_67 : decode cX6_ruin 67 = .ok (.iload_n 1, 1) := by decide +kernel
theorem dX6_ruin_68 : decode cX6_ruin 68 = .ok (.iload_n 2, 1) := by decide +kernel
theorem dX6_ruin_69 : decode cX6_ruin 69 = .ok (.iload 4, 2) := by decide +kernel
theorem dX6_ruin_71 : decode cX6_ruin 71 = .ok (.aload_n 0, 1) := by decide +kernel
theorem dX6_ruin_72 : decode cX6_ruin 72 = .ok (.getfield 45, 3) := by decide +kernel
theorem dX6_ruin_75 : decode cX6_ruin 75 = .ok (.iconst 0, 1) := by decide +kernel
theorem dX6_ruin_76 : decode cX6_ruin 76 = .ok (.invokevirtual 130, 3) := by decide +kernel
theorem dX6_ruin_79 : decode cX6_ruin 79 = .ok (.aload_n 0, 1) := by decide +kernel
theorem dX6_ruin_80 : decode cX6_ruin 80 = .ok (.lconst 0, 1) := by decide +kernel
theorem dX6_ruin_81 : decode cX6_ruin 81 = .ok (.invokevirtual 116, 3) := by decide +kernel
theorem dX6_ruin_84 : decode cX6_ruin 84 = .ok (.aload_n 0, 1) := by decide +kernel
theorem dX6_ruin_85 : decode cX6_ruin 85 = .ok (.getfield 52, 3) := by decide +kernel
theorem dX6_ruin_88 : decode cX6_ruin 88 = .ok (.invokevirtual 134, 3) := by decide +kernel
theorem dX6_ruin_91 : decode cX6_ruin 91 = .ok (.aload_n 0, 1) := by decide +kernel
theorem dX6_ruin_92 : decode cX6_ruin 92 = .ok (.getfield 55, 3) := by decide +kernel
theorem dX6_ruin_95 : decode cX6_ruin 95 = .ok (.invokevirtual 134, 3) := by decide +kernel
theorem dX6_ruin_98 : decode cX6_ruin 98 = .ok (.iconst 1, 1) := by decide +kernel
theorem dX6_ruin_99 : decode cX6_ruin 99 = .ok (.istore 6, 2) := by decide +kernel
theorem dX6_ruin_101 : decode cX6_ruin 101 = .ok (.iload 6, 2) := by decide +kernel
theorem dX6_ruin_103 : decode cX6_ruin 103 = .ok (.iload 4, 2) := by decide +kernel
theorem dX6_ruin_105 : decode cX6_ruin 105 = .ok (.if_icmp .gt 22, 3) := by decide +kernel
theorem dX6_ruin_108 : decode cX6_ruin 108 = .ok (.aload_n 0, 1) := by decide +kernel
theorem dX6_ruin_109 : decode cX6_ruin 109 = .ok (.iload 6, 2) := by decide +kernel
theorem dX6_ruin_111 : decode cX6_ruin 111 = .ok (.invokevirtual 137, 3) := by decide +kernel
theorem dX6_ruin_114 : decode cX6_ruin 114 = .ok (.aload_n 0, 1) := by decide +kernel
theorem dX6_ruin_115 : decode cX6_ruin 115 = .ok (.getfield 22, 3) := by decide +kernel
theorem dX6_ruin_118 : decode cX6_ruin 118 = .ok (.invokevirtual 141, 3) := by decide +kernel
theorem dX6_ruin_121 : decode cX6_ruin 121 = .ok (.iinc 6 1, 3) := by decide +kernel
theorem dX6_ruin_124 : decode cX6_ruin 124 = .ok (.goto (-23), 3) := by decide +kernel
theorem dX6_ruin_127 : decode cX6_ruin 127 = .ok (.aload_n 0, 1) := by decide +kernel
theorem dX6_ruin_128 : decode cX6_ruin 128 = .ok (.iconst 3, 1) := by decide +kernel
theorem dX6_ruin_129 : decode cX6_ruin 129 = .ok (.iload 4, 2) := by decide +kernel
theorem dX6_ruin_131 : decode cX6_ruin 131 = .ok (.imul, 1) := by decide +kernel
theorem dX6_ruin_132 : decode cX6_ruin 132 = .ok (.putfield 58, 3) := by decide +kernel
theorem dX6_ruin_135 : decode cX6_ruin 135 = .ok (.aload_n 0, 1) := by decide +kernel
theorem dX6_ruin_136 : decode cX6_ruin 136 = .ok (.iload 4, 2) := by decide +kernel
theorem dX6_ruin_138 : decode cX6_ruin 138 = .ok (.putfield 62, 3) := by decide +kernel
theorem dX6_ruin_141 : decode cX6_ruin 141 = .ok (.iconst 1, 1) := by decide +kernel
theorem dX6_ruin_142 : decode cX6_ruin 142 = .ok (.ireturn, 1) := by decide +kernel
theorem dX6_at_0 : decode cX6_at 0 = .ok (.iload_n 1, 1) := by decide +kernel
theorem dX6_at_1 : decode cX6_at 1 = .ok (.iconst 1, 1) := by decide +kernel
theorem dX6_at_2 : decode cX6_at 2 = .ok (.aload_n 0, 1) := by decide +kernel
theorem dX6_at_3 : decode cX6_at 3 = .ok (.getfield 62, 3) := by decide +kernel
theorem dX6_at_6 : decode cX6_at 6 = .ok (.invokestatic 70, 3) := by decide +kernel
theorem dX6_at_9 : decode cX6_at 9 = .ok (.ifCond .eq 17, 3) := by decide +kernel
theorem dX6_at_12 : decode cX6_at 12 = .ok (.iload_n 2, 1) := by decide +kernel
theorem dX6_at_13 : decode cX6_at 13 = .ok (.iconst 1, 1) := by decide +kernel
theorem dX6_at_14 : decode cX6_at 14 = .ok (.iconst 3, 1) := by decide +kernel
theorem dX6_at_15 : decode cX6_at 15 = .ok (.aload_n 0, 1) := by decide +kernel
theorem dX6_at_16 : decode cX6_at 16 = .ok (.getfield 62, 3) := by decide +kernel
theorem dX6_at_19 : decode cX6_at 19 = .ok (.imul, 1) := by decide +kernel
theorem dX6_at_20 : decode cX6_at 20 = .ok (.invokestatic 70, 3) := by decide +kernel
theorem dX6_at_23 : decode cX6_at 23 = .ok (.ifCond .ne 5, 3) := by decide +kernel
theorem dX6_at_26 : decode cX6_at 26 = .ok (.iconst (-1), 1) := by decide +kernel
theorem dX6_at_27 : decode cX6_at 27 = .ok (.ireturn, 1) := by decide +kernel
theorem dX6_at_28 : decode cX6_at 28 = .ok (.aload_n 0, 1) := by decide +kernel
theorem dX6_at_29 : decode cX6_at 29 = .ok (.getfield 52, 3) := by decide +kernel
theorem dX6_at_32 : decode cX6_at 32 = .ok (.iload_n 1, 1) := by decide +kernel
theorem dX6_at_33 : decode cX6_at 33 = .ok (.iconst 3, 1) := by decide +kernel
theorem dX6_at_34 : decode cX6_at 34 = .ok (.iload_n 1, 1) := by decide +kernel
theorem dX6_at_35 : decode cX6_at 35 = .ok (.imul, 1) := by decide +kernel
theorem dX6_at_36 : decode cX6_at 36 = .ok (.iload_n 2, 1) := by decide +kernel
theorem dX6_at_37 : decode cX6_at 37 = .ok (.isub, 1) := by decide +kernel
theorem dX6_at_38 : decode cX6_at 38 = .ok (.invokevirtual 144, 3) := by decide +kernel
theorem dX6_at_41 : decode cX6_at 41 = .ok (.ireturn, 1) := by decide +kernel
theorem dX6_deep_0 : decode cX6_deep 0 = .ok (.iload_n 1, 1) := by decide +kernel
theorem dX6_deep_1 : decode cX6_deep 1 = .ok (.iconst 1, 1) := by decide +kernel
theorem dX6_deep_2 : decode cX6_deep 2 = .ok (.bipush 20, 2) := by decide +kernel
theorem dX6_deep_4 : decode cX6_deep 4 = .ok (.invokestatic 70, 3) := by decide +kernel
theorem dX6_deep_7 : decode cX6_deep 7 = .ok (.ifCond .eq 17, 3) := by decide +kernel
theorem dX6_deep_10 : decode cX6_deep 10 = .ok (.iload_n 2, 1) := by decide +kernel
theorem dX6_deep_11 : decode cX6_deep 11 = .ok (.iconst 1, 1) := by decide +kernel
theorem dX6_deep_12 : decode cX6_deep 12 = .ok (.iconst 3, 1) := by decide +kernel
theorem dX6_deep_13 : decode cX6_deep 13 = .ok (.aload_n 0, 1) := by decide +kernel
theorem dX6_deep_14 : decode cX6_deep 14 = .ok (.getfield 62, 3) := by decide +kernel
theorem dX6_deep_17 : decode cX6_deep 17 = .ok (.imul, 1) := by decide +kernel
theorem dX6_deep_18 : decode cX6_deep 18 = .ok (.invokestatic 70, 3) := by decide +kernel
theorem dX6_deep_21 : decode cX6_deep 21 = .ok (.ifCond .ne 5, 3) := by decide +kernel
theorem dX6_deep_24 : decode cX6_deep 24 = .ok (.iconst (-1), 1) := by decide +kernel
theorem dX6_deep_25 : decode cX6_deep 25 = .ok (.ireturn, 1) := by decide +kernel
theorem dX6_deep_26 : decode cX6_deep 26 = .ok (.aload_n 0, 1) := by decide +kernel
theorem dX6_deep_27 : decode cX6_deep 27 = .ok (.getfield 55, 3) := by decide +kernel
theorem dX6_deep_30 : decode cX6_deep 30 = .ok (.iload_n 1, 1) := by decide +kernel
theorem dX6_deep_31 : decode cX6_deep 31 = .ok (.iconst 3, 1) := by decide +kernel
theorem dX6_deep_32 : decode cX6_deep 32 = .ok (.aload_n 0, 1) := by decide +kernel
theorem dX6_deep_33 : decode cX6_deep 33 = .ok (.getfield 62, 3) := by decide +kernel
theorem dX6_deep_36 : decode cX6_deep 36 = .ok (.imul, 1) := by decide +kernel
theorem dX6_deep_37 : decode cX6_deep 37 = .ok (.iload_n 2, 1) := by decide +kernel
theorem dX6_deep_38 : decode cX6_deep 38 = .ok (.isub, 1) := by decide +kernel
theorem dX6_deep_39 : decode cX6_deep 39 = .ok (.invokevirtual 144, 3) := by decide +kernel
theorem dX6_deep_42 : decode cX6_deep 42 = .ok (.ireturn, 1) := by decide +kernel
theorem dX6_ever_0 : decode cX6_ever 0 = .ok (.aload_n 0, 1) := by decide +kernel
theorem dX6_ever_1 : decode cX6_ever 1 = .ok (.iload_n 2, 1) := by decide +kernel
theorem dX6_ever_2 : decode cX6_ever 2 = .ok (.invokevirtual 81, 3) := by decide +kernel
theorem dX6_ever_5 : decode cX6_ever 5 = .ok (.astore_n 3, 1) := by decide +kernel
theorem dX6_ever_6 : decode cX6_ever 6 = .ok (.aload_n 3, 1) := by decide +kernel
theorem dX6_ever_7 : decode cX6_ever 7 = .ok (.ifnull 13, 3) := by decide +kernel
theorem dX6_ever_10 : decode cX6_ever 10 = .ok (.iload_n 1, 1) := by decide +kernel
theorem dX6_ever_11 : decode cX6_ever 11 = .ok (.iconst 0, 1) := by decide +kernel
theorem dX6_ever_12 : decode cX6_ever 12 = .ok (.bipush 60, 2) := by decide +kernel
theorem dX6_ever_14 : decode cX6_ever 14 = .ok (.invokestatic 70, 3) := by decide +kernel
theorem dX6_ever_17 : decode cX6_ever 17 = .ok (.ifCond .ne 5, 3) := by decide +kernel
theorem dX6_ever_20 : decode cX6_ever 20 = .ok (.iconst 0, 1) := by decide +kernel
theorem dX6_ever_21 : decode cX6_ever 21 = .ok (.ireturn, 1) := by decide +kernel
theorem dX6_ever_22 : decode cX6_ever 22 = .ok (.aload_n 3, 1) := by decide +kernel
theorem dX6_ever_23 : decode cX6_ever 23 = .ok (.invokevirtual 84, 3) := by decide +kernel
theorem dX6_ever_26 : decode cX6_ever 26 = .ok (.sipush 1000, 3) := by decide +kernel
theorem dX6_ever_29 : decode cX6_ever 29 = .ok (.if_icmp .lt 7, 3) := by decide +kernel
theorem dX6_ever_32 : decode cX6_ever 32 = .ok (.iconst 1, 1) := by decide +kernel
theorem dX6_ever_33 : decode cX6_ever 33 = .ok (.goto 4, 3) := by decide +kernel
theorem dX6_ever_36 : decode cX6_ever 36 = .ok (.iconst 0, 1) := by decide +kernel
theorem dX6_ever_37 : decode cX6_ever 37 = .ok (.istore 4, 2) := by decide +kernel
theorem dX6_ever_39 : decode cX6_ever 39 = .ok (.iload 4, 2) := by decide +kernel
theorem dX6_ever_41 : decode cX6_ever 41 = .ok (.ifCond .eq 18, 3) := by decide +kernel
theorem dX6_ever_44 : decode cX6_ever 44 = .ok (.aload_n 3, 1) := by decide +kernel
theorem dX6_ever_45 : decode cX6_ever 45 = .ok (.iconst 1, 1) := by decide +kernel
theorem dX6_ever_46 : decode cX6_ever 46 = .ok (.invokevirtual 77, 3) := by decide +kernel
theorem dX6_ever_49 : decode cX6_ever 49 = .ok (.sipush 1000, 3) := by decide +kernel
theorem dX6_ever_52 : decode cX6_ever 52 = .ok (.if_icmp .eq 7, 3) := by decide +kernel
theorem dX6_ever_55 : decode cX6_ever 55 = .ok (.iconst 1, 1) := by decide +kernel
theorem dX6_ever_56 : decode cX6_ever 56 = .ok (.goto 4, 3) := by decide +kernel
theorem dX6_ever_59 : decode cX6_ever 59 = .ok (.iconst 0, 1) := by decide +kernel
theorem dX6_ever_60 : decode cX6_ever 60 = .ok (.istore 5, 2) := by decide +kernel
theorem dX6_ever_62 : decode cX6_ever 62 = .ok (.aload_n 0, 1) := by decide +kernel
theorem dX6_ever_63 : decode cX6_ever 63 = .ok (.iload 5, 2) := by decide +kernel
theorem dX6_ever_65 : decode cX6_ever 65 = .ok (.ifCond .eq 7, 3) := by decide +kernel
theorem dX6_ever_68 : decode cX6_ever 68 = .ok (.lconst 1, 1) := by decide +kernel
theorem dX6_ever_69 : decode cX6_ever 69 = .ok (.goto 4, 3) := by decide +kernel
theorem dX6_ever_72 : decode cX6_ever 72 = .ok (.lconst 0, 1) := by decide +kernel
theorem dX6_ever_73 : decode cX6_ever 73 = .ok (.invokevirtual 116, 3) := by decide +kernel
theorem dX6_ever_76 : decode cX6_ever 76 = .ok (.iload 4, 2) := by decide +kernel
theorem dX6_ever_78 : decode cX6_ever 78 = .ok (.ifCond .ne 12, 3) := by decide +kernel
theorem dX6_ever_81 : decode cX6_ever 81 = .ok (.aload_n 0, 1) := by decide +kernel
theorem dX6_ever_82 : decode cX6_ever 82 = .ok (.getfield 36, 3) := by decide +kernel
theorem dX6_ever_85 : decode cX6_ever 85 = .ok (.aload_n 3, 1) := by decide +kernel
theorem dX6_ever_86 : decode cX6_ever 86 = .ok (.iload_n 1, 1) := by decide +kernel
theorem dX6_ever_87 : decode cX6_ever 87 = .ok (.invokevirtual 147, 3) := by decide +kernel
theorem dX6_ever_90 : decode cX6_ever 90 = .ok (.iconst 0, 1) := by decide +kernel
theorem dX6_ever_91 : decode cX6_ever 91 = .ok (.istore 6, 2) := by decide +kernel
theorem dX6_ever_93 : decode cX6_ever 93 = .ok (.iload 6, 2) := by decide +kernel
theorem dX6_ever_95 : decode cX6_ever 95 = .ok (.bipush 30, 2) := by decide +kernel
theorem dX6_ever_97 : decode cX6_ever 97 = .ok (.if_icmp .ge 36, 3) := by decide +kernel
theorem dX6_ever_100 : decode cX6_ever 100 = .ok (.aload_n 0, 1) := by decide +kernel
theorem dX6_ever_101 : decode cX6_ever 101 = .ok (.getfield 45, 3) := by decide +kernel
theorem dX6_ever_104 : decode cX6_ever 104 = .ok (.iconst 0, 1) := by decide +kernel
theorem dX6_ever_105 : decode cX6_ever 105 = .ok (.ldc2_w 150, 3) := by decide +kernel
theorem dX6_ever_108 : decode cX6_ever 108 = .ok (.iload 4, 2) := by decide +kernel
theorem dX6_ever_110 : decode cX6_ever 110 = .ok (.ifCond .eq 7, 3) := by decide +kernel
theorem dX6_ever_113 : decode cX6_ever 113 = .ok (.lconst 0, 1) := by decide +kernel
theorem dX6_ever_114 : decode cX6_ever 114 = .ok (.goto 10, 3) := by decide +kernel
theorem dX6_ever_117 : decode cX6_ever 117 = .ok (.aload_n 0, 1) := by decide +kernel
theorem dX6_ever_118 : decode cX6_ever 118 = .ok (.getfield 36, 3) := by decide +kernel
theorem dX6_ever_121 : decode cX6_ever 121 = .ok (.invokevirtual 152, 3) := by decide +kernel
theorem dX6_ever_124 : decode cX6_ever 124 = .ok (.invokevirtual 156, 3) := by decide +kernel
theorem dX6_ever_127 : decode cX6_ever 127 = .ok (.iinc 6 1, 3) := by decide +kernel
theorem dX6_ever_130 : decode cX6_ever 130 = .ok (.goto (-37), 3) := by decide +kernel
theorem dX6_ever_133 : decode cX6_ever 133 = .ok (.aload_n 0, 1) := by decide +kernel
theorem dX6_ever_134 : decode cX6_ever 134 = .ok (.bipush 30, 2) := by decide +kernel
theorem dX6_ever_136 : decode cX6_ever 136 = .ok (.putfield 58, 3) := by decide +kernel
theorem dX6_ever_139 : decode cX6_ever 139 = .ok (.iconst 1, 1) := by decide +kernel
theorem dX6_ever_140 : decode cX6_ever 140 = .ok (.ireturn, 1) := by decide +kernel
theorem dX6_worth_0 : decode cX6_worth 0 = .ok (.aload_n 0, 1) := by decide +kernel
theorem dX6_worth_1 : decode cX6_worth 1 = .ok (.iload_n 3, 1) := by decide +kernel
theorem dX6_worth_2 : decode cX6_worth 2 = .ok (.invokevirtual 81, 3) := by decide +kernel
theorem dX6_worth_5 : decode cX6_worth 5 = .ok (.astore 6, 2) := by decide +kernel
theorem dX6_worth_7 : decode cX6_worth 7 = .ok (.aload 6, 2) := by decide +kernel
theorem dX6_worth_9 : decode cX6_worth 9 = .ok (.ifnull 46, 3) := by decide +kernel
theorem dX6_worth_12 : decode cX6_worth 12 = .ok (.iload_n 1, 1) := by decide +kernel
theorem dX6_worth_13 : decode cX6_worth 13 = .ok (.iconst 0, 1) := by decide +kernel
theorem dX6_worth_14 : decode cX6_worth 14 = .ok (.bipush 60, 2) := by decide +kernel
theorem dX6_worth_16 : decode cX6_worth 16 = .ok (.invokestatic 70, 3) := by decide +kernel
theorem dX6_worth_19 : decode cX6_worth 19 = .ok (.ifCond .eq 36, 3) := by decide +kernel
theorem dX6_worth_22 : decode cX6_worth 22 = .ok (.iload_n 2, 1) := by decide +kernel
theorem dX6_worth_23 : decode cX6_worth 23 = .ok (.iconst 0, 1) := by decide +kernel
theorem dX6_worth_24 : decode cX6_worth 24 = .ok (.bipush 20, 2) := by decide +kernel
theorem dX6_worth_26 : decode cX6_worth 26 = .ok (.invokestatic 70, 3) := by decide +kernel
theorem dX6_worth_29 : decode cX6_worth 29 = .ok (.ifCond .eq 26, 3) := by decide +kernel
theorem dX6_worth_32 : decode cX6_worth 32 = .ok (.iload 4, 2) := by decide +kernel
theorem dX6_worth_34 : decode cX6_worth 34 = .ok (.iconst 0, 1) := by decide +kernel
theorem dX6_worth_35 : decode cX6_worth 35 = .ok (.sipush 1000, 3) := by decide +kernel
theorem dX6_worth_38 : decode cX6_worth 38 = .ok (.invokestatic 70, 3) := by decide +kernel
theorem dX6_worth_41 : decode cX6_worth 41 = .ok (.ifCond .eq 14, 3) := by decide +kernel
theorem dX6_worth_44 : decode cX6_worth 44 = .ok (.iload 5, 2) := by decide +kernel
theorem dX6_worth_46 : decode cX6_worth 46 = .ok (.iconst 0, 1) := by decide +kernel
theorem dX6_worth_47 : decode cX6_worth 47 = .ok (.bipush 6, 2) := by decide +kernel
theorem dX6_worth_49 : decode cX6_worth 49 = .ok (.invokestatic 70, 3) := by decide +kernel
theorem dX6_worth_52 : decode cX6_worth 52 = .ok (.ifCond .ne 5, 3) := by decide +kernel
theorem dX6_worth_55 : decode cX6_worth 55 = .ok (.iconst (-1), 1) := by decide +kernel
theorem dX6_worth_56 : decode cX6_worth 56 = .ok (.ireturn, 1) := by decide +kernel
theorem dX6_worth_57 : decode cX6_worth 57 = .ok (.aload_n 0, 1) := by decide +kernel
theorem dX6_worth_58 : decode cX6_worth 58 = .ok (.getfield 29, 3) := by decide +kernel
theorem dX6_worth_61 : decode cX6_worth 61 = .ok (.getfield 160, 3) := by decide +kernel
theorem dX6_worth_64 : decode cX6_worth 64 = .ok (.aload 6, 2) := by decide +kernel
theorem dX6_worth_66 : decode cX6_worth 66 = .ok (.iload 4, 2) := by decide +kernel
theorem dX6_worth_68 : decode cX6_worth 68 = .ok (.invokevirtual 124, 3) := by decide +kernel
theorem dX6_worth_71 : decode cX6_worth 71 = .ok (.aload_n 0, 1) := by decide +kernel
theorem dX6_worth_72 : decode cX6_worth 72 = .ok (.getfield 29, 3) := by decide +kernel
theorem dX6_worth_75 : decode cX6_worth 75 = .ok (.iload_n 1, 1) := by decide +kernel
theorem dX6_worth_76 : decode cX6_worth 76 = .ok (.iload_n 2, 1) := by decide +kernel
theorem dX6_worth_77 : decode cX6_worth 77 = .ok (.iload 5, 2) := by decide +kernel
theorem dX6_worth_79 : decode cX6_worth 79 = .ok (.invokevirtual 161, 3) := by decide +kernel
theorem dX6_worth_82 : decode cX6_worth 82 = .ok (.istore 7, 2) := by decide +kernel
theorem dX6_worth_84 : decode cX6_worth 84 = .ok (.aload_n 0, 1) := by decide +kernel
theorem dX6_worth_85 : decode cX6_worth 85 = .ok (.getfield 45, 3) := by decide +kernel
theorem dX6_worth_88 : decode cX6_worth 88 = .ok (.iconst 0, 1) := by decide +kernel
theorem dX6_worth_89 : decode cX6_worth 89 = .ok (.aload_n 0, 1) := by decide +kernel
theorem dX6_worth_90 : decode cX6_worth 90 = .ok (.getfield 29, 3) := by decide +kernel
theorem dX6_worth_93 : decode cX6_worth 93 = .ok (.getfield 164, 3) := by decide +kernel
theorem dX6_worth_96 : decode cX6_worth 96 = .ok (.iload_n 1, 1) := by decide +kernel
theorem dX6_worth_97 : decode cX6_worth 97 = .ok (.invokevirtual 167, 3) := by decide +kernel
theorem dX6_worth_100 : decode cX6_worth 100 = .ok (.aload_n 0, 1) := by decide +kernel
theorem dX6_worth_101 : decode cX6_worth 101 = .ok (.bipush 6, 2) := by decide +kernel
theorem dX6_worth_103 : decode cX6_worth 103 = .ok (.iload 5, 2) := by decide +kernel
theorem dX6_worth_105 : decode cX6_worth 105 = .ok (.imul, 1) := by decide +kernel
theorem dX6_worth_106 : decode cX6_worth 106 = .ok (.putfield 58, 3) := by decide +kernel
theorem dX6_worth_109 : decode cX6_worth 109 = .ok (.iload 7, 2) := by decide +kernel
theorem dX6_worth_111 : decode cX6_worth 111 = .ok (.ireturn, 1) := by decide +kernel
theorem dX6_two_0 : decode cX6_two 0 = .ok (.aload_n 0, 1) := by decide +kernel
theorem dX6_two_1 : decode cX6_two 1 = .ok (.iload_n 2, 1) := by decide +kernel
theorem dX6_two_2 : decode cX6_two 2 = .ok (.invokevirtual 81, 3) := by decide +kernel
theorem dX6_two_5 : decode cX6_two 5 = .ok (.astore 6, 2) := by decide +kernel
theorem dX6_two_7 : decode cX6_two 7 = .ok (.aload_n 0, 1) := by decide +kernel
theorem dX6_two_8 : decode cX6_two 8 = .ok (.iload_n 3, 1) := by decide +kernel
theorem dX6_two_9 : decode cX6_two 9 = .ok (.invokevirtual 81, 3) := by decide +kernel
theorem dX6_two_12 : decode cX6_two 12 = .ok (.astore 7, 2) := by decide +kernel
theorem dX6_two_14 : decode cX6_two 14 = .ok (.aload 6, 2) := by decide +kernel
theorem dX6_two_16 : decode cX6_two 16 = .ok (.ifnull 28, 3) := by decide +kernel
theorem dX6_two_19 : decode cX6_two 19 = .ok (.aload 7, 2) := by decide +kernel
theorem dX6_two_21 : decode cX6_two 21 = .ok (.ifnull 23, 3) := by decide +kernel
theorem dX6_two_24 : decode cX6_two 24 = .ok (.iload_n 1, 1) := by decide +kernel
theorem dX6_two_25 : decode cX6_two 25 = .ok (.iconst 0, 1) := by decide +kernel
theorem dX6_two_26 : decode cX6_two 26 = .ok (.ldc 171, 2) := by decide +kernel
theorem dX6_two_28 : decode cX6_two 28 = .ok (.invokestatic 70, 3) := by decide +kernel
theorem dX6_two_31 : decode cX6_two 31 = .ok (.ifCond .eq 13, 3) := by decide +kernel
theorem dX6_two_34 : decode cX6_two 34 = .ok (.iload 4, 2) := by decide +kernel
theorem dX6_two_36 : decode cX6_two 36 = .ok (.iconst 1, 1) := by decide +kernel
theorem dX6_two_37 : decode cX6_two 37 = .ok (.iconst 5, 1) := by decide +kernel
theorem dX6_two_38 : decode cX6_two 38 = .ok (.invokestatic 70, 3) := by decide +kernel
theorem dX6_two_41 : decode cX6_two 41 = .ok (.ifCond .ne 5, 3) := by decide +kernel
theorem dX6_two_44 : decode cX6_two 44 = .ok (.iconst 0, 1) := by decide +kernel
theorem dX6_two_45 : decode cX6_two 45 = .ok (.ireturn, 1) := by decide +kernel
theorem dX6_two_46 : decode cX6_two 46 = .ok (.iload_n 1, 1) := by decide +kernel
theorem dX6_two_47 : decode cX6_two 47 = .ok (.bipush 15, 2) := by decide +kernel
theorem dX6_two_49 : decode cX6_two 49 = .ok (.iand, 1) := by decide +kernel
theorem dX6_two_50 : decode cX6_two 50 = .ok (.istore 8, 2) := by decide +kernel
theorem dX6_two_52 : decode cX6_two 52 = .ok (.iload_n 1, 1) := by decide +kernel
theorem dX6_two_53 : decode cX6_two 53 = .ok (.iconst 4, 1) := by decide +kernel
theorem dX6_two_54 : decode cX6_two 54 = .ok (.ishr, 1) := by decide +kernel
theorem dX6_two_55 : decode cX6_two 55 = .ok (.bipush 15, 2) := by decide +kernel
theorem dX6_two_57 : decode cX6_two 57 = .ok (.iand, 1) := by decide +kernel
theorem dX6_two_58 : decode cX6_two 58 = .ok (.istore 9, 2) := by decide +kernel
theorem dX6_two_60 : decode cX6_two 60 = .ok (.iload_n 1, 1) := by decide +kernel
theorem dX6_two_61 : decode cX6_two 61 = .ok (.bipush 8, 2) := by decide +kernel
theorem dX6_two_63 : decode cX6_two 63 = .ok (.ishr, 1) := by decide +kernel
theorem dX6_two_64 : decode cX6_two 64 = .ok (.bipush 15, 2) := by decide +kernel
theorem dX6_two_66 : decode cX6_two 66 = .ok (.iand, 1) := by decide +kernel
theorem dX6_two_67 : decode cX6_two 67 = .ok (.istore 10, 2) := by decide +kernel
theorem dX6_two_69 : decode cX6_two 69 = .ok (.iload_n 1, 1) := by decide +kernel
theorem dX6_two_70 : decode cX6_two 70 = .ok (.bipush 12, 2) := by decide +kernel
theorem dX6_two_72 : decode cX6_two 72 = .ok (.ishr, 1) := by decide +kernel
theorem dX6_two_73 : decode cX6_two 73 = .ok (.bipush 15, 2) := by decide +kernel
theorem dX6_two_75 : decode cX6_two 75 = .ok (.iand, 1) := by decide +kernel
theorem dX6_two_76 : decode cX6_two 76 = .ok (.istore 11, 2) := by decide +kernel
theorem dX6_two_78 : decode cX6_two 78 = .ok (.iload 8, 2) := by decide +kernel
theorem dX6_two_80 : decode cX6_two 80 = .ok (.bipush 12, 2) := by decide +kernel
theorem dX6_two_82 : decode cX6_two 82 = .ok (.if_icmp .gt 24, 3) := by decide +kernel
theorem dX6_two_85 : decode cX6_two 85 = .ok (.iload 9, 2) := by decide +kernel
theorem dX6_two_87 : decode cX6_two 87 = .ok (.bipush 12, 2) := by decide +kernel
theorem dX6_two_89 : decode cX6_two 89 = .ok (.if_icmp .gt 17, 3) := by decide +kernel
theorem dX6_two_92 : decode cX6_two 92 = .ok (.iload 10, 2) := by decide +kernel
theorem dX6_two_94 : decode cX6_two 94 = .ok (.bipush 6, 2) := by decide +kernel
theorem dX6_two_96 : decode cX6_two 96 = .ok (.if_icmp .gt 10, 3) := by decide +kernel
theorem dX6_two_99 : decode cX6_two 99 = .ok (.iload 11, 2) := by decide +kernel
theorem dX6_two_101 : decode cX6_two 101 = .ok (.bipush 6, 2) := by decide +kernel
theorem dX6_two_103 : decode cX6_two 103 = .ok (.if_icmp .le 5, 3) := by decide +kernel
theorem dX6_two_106 : decode cX6_two 106 = .ok (.iconst 0, 1) := by decide +kernel
theorem dX6_two_107 : decode cX6_two 107 = .ok (.ireturn, 1) := by decide +kernel
theorem dX6_two_108 : decode cX6_two 108 = .ok (.aload_n 0, 1) := by decide +kernel
theorem dX6_two_109 : decode cX6_two 109 = .ok (.lconst 1, 1) := by decide +kernel
theorem dX6_two_110 : decode cX6_two 110 = .ok (.invokevirtual 116, 3) := by decide +kernel
theorem dX6_two_113 : decode cX6_two 113 = .ok (.iload 5, 2) := by decide +kernel
theorem dX6_two_115 : decode cX6_two 115 = .ok (.ifCond .eq 36, 3) := by decide +kernel
theorem dX6_two_118 : decode cX6_two 118 = .ok (.aload_n 0, 1) := by decide +kernel
theorem dX6_two_119 : decode cX6_two 119 = .ok (.getfield 22, 3) := by decide +kernel
theorem dX6_two_122 : decode cX6_two 122 = .ok (.getfield 120, 3) := by decide +kernel
theorem dX6_two_125 : decode cX6_two 125 = .ok (.aload 6, 2) := by decide +kernel
theorem dX6_two_127 : decode cX6_two 127 = .ok (.aload 7, 2) := by decide +kernel
theorem dX6_two_129 : decode cX6_two 129 = .ok (.invokevirtual 172, 3) := by decide +kernel
theorem dX6_two_132 : decode cX6_two 132 = .ok (.aload_n 0, 1) := by decide +kernel
theorem dX6_two_133 : decode cX6_two 133 = .ok (.iload 8, 2) := by decide +kernel
theorem dX6_two_135 : decode cX6_two 135 = .ok (.iload 9, 2) := by decide +kernel
theorem dX6_two_137 : decode cX6_two 137 = .ok (.iadd, 1) := by decide +kernel
theorem dX6_two_138 : decode cX6_two 138 = .ok (.iload 10, 2) := by decide +kernel
theorem dX6_two_140 : decode cX6_two 140 = .ok (.iload 11, 2) := by decide +kernel
theorem dX6_two_142 : decode cX6_two 142 = .ok (.iadd, 1) := by decide +kernel
theorem dX6_two_143 : decode cX6_two 143 = .ok (.iload 4, 2) := by decide +kernel
theorem dX6_two_145 : decode cX6_two 145 = .ok (.invokevirtual 176, 3) := by decide +kernel
theorem dX6_two_148 : decode cX6_two 148 = .ok (.goto 49, 3) := by decide +kernel
theorem dX6_two_151 : decode cX6_two 151 = .ok (.aload_n 0, 1) := by decide +kernel
theorem dX6_two_152 : decode cX6_two 152 = .ok (.getfield 22, 3) := by decide +kernel
theorem dX6_two_155 : decode cX6_two 155 = .ok (.getfield 120, 3) := by decide +kernel
theorem dX6_two_158 : decode cX6_two 158 = .ok (.aload 6, 2) := by decide +kernel
theorem dX6_two_160 : decode cX6_two 160 = .ok (.iconst 1, 1) := by decide +kernel
theorem dX6_two_161 : decode cX6_two 161 = .ok (.invokevirtual 124, 3) := by decide +kernel
theorem dX6_two_164 : decode cX6_two 164 = .ok (.aload_n 0, 1) := by decide +kernel
theorem dX6_two_165 : decode cX6_two 165 = .ok (.iload 8, 2) := by decide +kernel
theorem dX6_two_167 : decode cX6_two 167 = .ok (.iload 10, 2) := by decide +kernel
theorem dX6_two_169 : decode cX6_two 169 = .ok (.iload 4, 2) := by decide +kernel
theorem dX6_two_171 : decode cX6_two 171 = .ok (.invokevirtual 176, 3) := by decide +kernel
theorem dX6_two_174 : decode cX6_two 174 = .ok (.aload_n 0, 1) := by decide +kernel
theorem dX6_two_175 : decode cX6_two 175 = .ok (.getfield 22, 3) := by decide +kernel
theorem dX6_two_178 : decode cX6_two 178 = .ok (.getfield 120, 3) := by decide +kernel
theorem dX6_two_181 : decode cX6_two 181 = .ok (.aload 7, 2) := by decide +kernel
theorem dX6_two_183 : decode cX6_two 183 = .ok (.iconst 1, 1) := by decide +kernel
theorem dX6_two_184 : decode cX6_two 184 = .ok (.invokevirtual 124, 3) := by decide +kernel
theorem dX6_two_187 : decode cX6_two 187 = .ok (.aload_n 0, 1) := by decide +kernel
theorem dX6_two_188 : decode cX6_two 188 = .ok (.iload 9, 2) := by decide +kernel
theorem dX6_two_190 : decode cX6_two 190 = .ok (.iload 11, 2) := by decide +kernel
theorem dX6_two_192 : decode cX6_two 192 = .ok (.iload 4, 2) := by decide +kernel
theorem dX6_two_194 : decode cX6_two 194 = .ok (.invokevirtual 176, 3) := by decide +kernel
theorem dX6_two_197 : decode cX6_two 197 = .ok (.iconst 1, 1) := by decide +kernel
theorem dX6_two_198 : decode cX6_two 198 = .ok (.ireturn, 1) := by decide +kernel
theorem dX6_digit_0 : decode cX6_digit 0 = .ok (.iload_n 1, 1) := by decide +kernel
theorem dX6_digit_1 : decode cX6_digit 1 = .ok (.iconst 0, 1) := by decide +kernel
theorem dX6_digit_2 : decode cX6_digit 2 = .ok (.aload_n 0, 1) := by decide +kernel
theorem dX6_digit_3 : decode cX6_digit 3 = .ok (.getfield 58, 3) := by decide +kernel
theorem dX6_digit_6 : decode cX6_digit 6 = .ok (.invokestatic 70, 3) := by decide +kernel
theorem dX6_digit_9 : decode cX6_digit 9 = .ok (.ifCond .ne 5, 3) := by decide +kernel
theorem dX6_digit_12 : decode cX6_digit 12 = .ok (.iconst (-1), 1) := by decide +kernel
theorem dX6_digit_13 : decode cX6_digit 13 = .ok (.ireturn, 1) := by decide +kernel
theorem dX6_digit_14 : decode cX6_digit 14 = .ok (.iload_n 1, 1) := by decide +kernel
theorem dX6_digit_15 : decode cX6_digit 15 = .ok (.ifCond .le 18, 3) := by decide +kernel
theorem dX6_digit_18 : decode cX6_digit 18 = .ok (.aload_n 0, 1) := by decide +kernel
theorem dX6_digit_19 : decode cX6_digit 19 = .ok (.getfield 45, 3) := by decide +kernel
theorem dX6_digit_22 : decode cX6_digit 22 = .ok (.iconst 0, 1) := by decide +kernel
theorem dX6_digit_23 : decode cX6_digit 23 = .ok (.aload_n 0, 1) := by decide +kernel
theorem dX6_digit_24 : decode cX6_digit 24 = .ok (.getfield 58, 3) := by decide +kernel
theorem dX6_digit_27 : decode cX6_digit 27 = .ok (.iload_n 1, 1) := by decide +kernel
theorem dX6_digit_28 : decode cX6_digit 28 = .ok (.isub, 1) := by decide +kernel
theorem dX6_digit_29 : decode cX6_digit 29 = .ok (.invokevirtual 144, 3) := by decide +kernel
theorem dX6_digit_32 : decode cX6_digit 32 = .ok (.ireturn, 1) := by decide +kernel
theorem dX6_digit_33 : decode cX6_digit 33 = .ok (.iconst 0, 1) := by decide +kernel
theorem dX6_digit_34 : decode cX6_digit 34 = .ok (.istore_n 2, 1) := by decide +kernel
theorem dX6_digit_35 : decode cX6_digit 35 = .ok (.aload_n 0, 1) := by decide +kernel
theorem dX6_digit_36 : decode cX6_digit 36 = .ok (.getfield 58, 3) := by decide +kernel
theorem dX6_digit_39 : decode cX6_digit 39 = .ok (.iconst 2, 1) := by decide +kernel
theorem dX6_digit_40 : decode cX6_digit 40 = .ok (.iadd, 1) := by decide +kernel
theorem dX6_digit_41 : decode cX6_digit 41 = .ok (.istore_n 3, 1) := by decide +kernel
theorem dX6_digit_42 : decode cX6_digit 42 = .ok (.iload_n 3, 1) := by decide +kernel
theorem dX6_digit_43 : decode cX6_digit 43 = .ok (.aload_n 0, 1) := by decide +kernel
theorem dX6_digit_44 : decode cX6_digit 44 = .ok (.getfield 58, 3) := by decide +kernel
theorem dX6_digit_47 : decode cX6_digit 47 = .ok (.if_icmp .lt 24, 3) := by decide +kernel
theorem dX6_digit_50 : decode cX6_digit 50 = .ok (.bipush 10, 2) := by decide +kernel
theorem dX6_digit_52 : decode cX6_digit 52 = .ok (.iload_n 2, 1) := by decide +kernel
theorem dX6_digit_53 : decode cX6_digit 53 = .ok (.imul, 1) := by decide +kernel
theorem dX6_digit_54 : decode cX6_digit 54 = .ok (.aload_n 0, 1) := by decide +kernel
theorem dX6_digit_55 : decode cX6_digit 55 = .ok (.getfield 45, 3) := by decide +kernel
theorem dX6_digit_58 : decode cX6_digit 58 = .ok (.iconst 0, 1) := by decide +kernel
theorem dX6_digit_59 : decode cX6_digit 59 = .ok (.iload_n 3, 1) := by decide +kernel
theorem dX6_digit_60 : decode cX6_digit 60 = .ok (.invokevirtual 144, 3) := by decide +kernel
theorem dX6_digit_63 : decode cX6_digit 63 = .ok (.iadd, 1) := by decide +kernel
theorem dX6_digit_64 : decode cX6_digit 64 = .ok (.istore_n 2, 1) := by decide +kernel
theorem dX6_digit_65 : decode cX6_digit 65 = .ok (.iinc 3 (-1), 3) := by decide +kernel
theorem dX6_digit_68 : decode cX6_digit 68 = .ok (.goto (-26), 3) := by decide +kernel
theorem dX6_digit_71 : decode cX6_digit 71 = .ok (.iload_n 2, 1) := by decide +kernel
theorem dX6_digit_72 : decode cX6_digit 72 = .ok (.ireturn, 1) := by decide +kernel
theorem dX6_decimals_0 : decode cX6_decimals 0 = .ok (.aload_n 0, 1) := by decide +kernel
theorem dX6_decimals_1 : decode cX6_decimals 1 = .ok (.getfield 58, 3) := by decide +kernel
theorem dX6_decimals_4 : decode cX6_decimals 4 = .ok (.ireturn, 1) := by decide +kernel
theorem dX6_just_0 : decode cX6_just 0 = .ok (.aload_n 0, 1) := by decide +kernel
theorem dX6_just_1 : decode cX6_just 1 = .ok (.iload_n 2, 1) := by decide +kernel
theorem dX6_just_2 : decode cX6_just 2 = .ok (.invokevirtual 81, 3) := by decide +kernel
theorem dX6_just_5 : decode cX6_just 5 = .ok (.astore 5, 2) := by decide +kernel
theorem dX6_just_7 : decode cX6_just 7 = .ok (.aload 5, 2) := by decide +kernel
theorem dX6_just_9 : decode cX6_just 9 = .ok (.ifnull 34, 3) := by decide +kernel
theorem dX6_just_12 : decode cX6_just 12 = .ok (.iload_n 1, 1) := by decide +kernel
theorem dX6_just_13 : decode cX6_just 13 = .ok (.iconst 0, 1) := by decide +kernel
theorem dX6_just_14 : decode cX6_just 14 = .ok (.bipush 100, 2) := by decide +kernel
theorem dX6_just_16 : decode cX6_just 16 = .ok (.invokestatic 70, 3) := by decide +kernel
theorem dX6_just_19 : decode cX6_just 19 = .ok (.ifCond .eq 24, 3) := by decide +kernel
theorem dX6_just_22 : decode cX6_just 22 = .ok (.iload_n 3, 1) := by decide +kernel
theorem dX6_just_23 : decode cX6_just 23 = .ok (.iconst 1, 1) := by decide +kernel
theorem dX6_just_24 : decode cX6_just 24 = .ok (.bipush 12, 2) := by decide +kernel
theorem dX6_just_26 : decode cX6_just 26 = .ok (.invokestatic 70, 3) := by decide +kernel
theorem dX6_just_29 : decode cX6_just 29 = .ok (.ifCond .eq 14, 3) := by decide +kernel
theorem dX6_just_32 : decode cX6_just 32 = .ok (.iload 4, 2) := by decide +kernel
theorem dX6_just_34 : decode cX6_just 34 = .ok (.iconst 0, 1) := by decide +kernel
theorem dX6_just_35 : decode cX6_just 35 = .ok (.ldc 180, 2) := by decide +kernel
theorem dX6_just_37 : decode cX6_just 37 = .ok (.invokestatic 70, 3) := by decide +kernel
theorem dX6_just_40 : decode cX6_just 40 = .ok (.ifCond .ne 5, 3) := by decide +kernel
theorem dX6_just_43 : decode cX6_just 43 = .ok (.iconst (-1), 1) := by decide +kernel
theorem dX6_just_44 : decode cX6_just 44 = .ok (.ireturn, 1) := by decide +kernel
theorem dX6_just_45 : decode cX6_just 45 = .ok (.aload_n 0, 1) := by decide +kernel
theorem dX6_just_46 : decode cX6_just 46 = .ok (.getfield 22, 3) := by decide +kernel
theorem dX6_just_49 : decode cX6_just 49 = .ok (.getfield 120, 3) := by decide +kernel
theorem dX6_just_52 : decode cX6_just 52 = .ok (.aload 5, 2) := by decide +kernel
theorem dX6_just_54 : decode cX6_just 54 = .ok (.iconst 1, 1) := by decide +kernel
theorem dX6_just_55 : decode cX6_just 55 = .ok (.invokevirtual 124, 3) := by decide +kernel
theorem dX6_just_58 : decode cX6_just 58 = .ok (.aload_n 0, 1) := by decide +kernel
theorem dX6_just_59 : decode cX6_just 59 = .ok (.iload_n 1, 1) := by decide +kernel
theorem dX6_just_60 : decode cX6_just 60 = .ok (.iload_n 3, 1) := by decide +kernel
theorem dX6_just_61 : decode cX6_just 61 = .ok (.iload 4, 2) := by decide +kernel
theorem dX6_just_63 : decode cX6_just 63 = .ok (.invokevirtual 181, 3) := by decide +kernel
theorem dX6_just_66 : decode cX6_just 66 = .ok (.ireturn, 1) := by decide +kernel
theorem dX6_lighter_0 : decode cX6_lighter 0 = .ok (.aload_n 0, 1) := by decide +kernel
theorem dX6_lighter_1 : decode cX6_lighter 1 = .ok (.iload_n 1, 1) := by decide +kernel
theorem dX6_lighter_2 : decode cX6_lighter 2 = .ok (.invokevirtual 81, 3) := by decide +kernel
theorem dX6_lighter_5 : decode cX6_lighter 5 = .ok (.astore_n 3, 1) := by decide +kernel
theorem dX6_lighter_6 : decode cX6_lighter 6 = .ok (.aload_n 0, 1) := by decide +kernel
theorem dX6_lighter_7 : decode cX6_lighter 7 = .ok (.iload_n 2, 1) := by decide +kernel
theorem dX6_lighter_8 : decode cX6_lighter 8 = .ok (.invokevirtual 81, 3) := by decide +kernel
theorem dX6_lighter_11 : decode cX6_lighter 11 = .ok (.astore 4, 2) := by decide +kernel
theorem dX6_lighter_13 : decode cX6_lighter 13 = .ok (.aload_n 3, 1) := by decide +kernel
theorem dX6_lighter_14 : decode cX6_lighter 14 = .ok (.ifnull 8, 3) := by decide +kernel
theorem dX6_lighter_17 : decode cX6_lighter 17 = .ok (.aload 4, 2) := by decide +kernel
theorem dX6_lighter_19 : decode cX6_lighter 19 = .ok (.ifnonnull 5, 3) := by decide +kernel
theorem dX6_lighter_22 : decode cX6_lighter 22 = .ok (.iconst 0, 1) := by decide +kernel
theorem dX6_lighter_23 : decode cX6_lighter 23 = .ok (.ireturn, 1) := by decide +kernel
theorem dX6_lighter_24 : decode cX6_lighter 24 = .ok (.iconst 0, 1) := by decide +kernel
theorem dX6_lighter_25 : decode cX6_lighter 25 = .ok (.istore 5, 2) := by decide +kernel
theorem dX6_lighter_27 : decode cX6_lighter 27 = .ok (.iload 5, 2) := by decide +kernel
theorem dX6_lighter_29 : decode cX6_lighter 29 = .ok (.bipush 20, 2) := by decide +kernel
theorem dX6_lighter_31 : decode cX6_lighter 31 = .ok (.if_icmp .gt 27, 3) := by decide +kernel
theorem dX6_lighter_34 : decode cX6_lighter 34 = .ok (.aload_n 3, 1) := by decide +kernel
theorem dX6_lighter_35 : decode cX6_lighter 35 = .ok (.iload 5, 2) := by decide +kernel
theorem dX6_lighter_37 : decode cX6_lighter 37 = .ok (.invokevirtual 91, 3) := by decide +kernel
theorem dX6_lighter_40 : decode cX6_lighter 40 = .ok (.aload 4, 2) := by decide +kernel
theorem dX6_lighter_42 : decode cX6_lighter 42 = .ok (.iload 5, 2) := by decide +kernel
theorem dX6_lighter_44 : decode cX6_lighter 44 = .ok (.invokevirtual 91, 3) := by decide +kernel
theorem dX6_lighter_47 : decode cX6_lighter 47 = .ok (.if_icmp .le 5, 3) := by decide +kernel
theorem dX6_lighter_50 : decode cX6_lighter 50 = .ok (.iconst 0, 1) := by decide +kernel
theorem dX6_lighter_51 : decode cX6_lighter 51 = .ok (.ireturn, 1) := by decide +kernel
theorem dX6_lighter_52 : decode cX6_lighter 52 = .ok (.iinc 5 1, 3) := by decide +kernel
theorem dX6_lighter_55 : decode cX6_lighter 55 = .ok (.goto (-28), 3) := by decide +kernel
theorem dX6_lighter_58 : decode cX6_lighter 58 = .ok (.iconst 1, 1) := by decide +kernel
theorem dX6_lighter_59 : decode cX6_lighter 59 = .ok (.ireturn, 1) := by decide +kernel
theorem dX6_isWithin_0 : decode cX6_isWithin 0 = .ok (.iload_n 0, 1) := by decide +kernel
theorem dX6_isWithin_1 : decode cX6_isWithin 1 = .ok (.iload_n 1, 1) := by decide +kernel
theorem dX6_isWithin_2 : decode cX6_isWithin 2 = .ok (.if_icmp .lt 12, 3) := by decide +kernel
theorem dX6_isWithin_5 : decode cX6_isWithin 5 = .ok (.iload_n 0, 1) := by decide +kernel
theorem dX6_isWithin_6 : decode cX6_isWithin 6 = .ok (.iload_n 2, 1) := by decide +kernel
theorem dX6_isWithin_7 : decode cX6_isWithin 7 = .ok (.if_icmp .gt 7, 3) := by decide +kernel
theorem dX6_isWithin_10 : decode cX6_isWithin 10 = .ok (.iconst 1, 1) := by decide +kernel
theorem dX6_isWithin_11 : decode cX6_isWithin 11 = .ok (.goto 4, 3) := by decide +kernel
theorem dX6_isWithin_14 : decode cX6_isWithin 14 = .ok (.iconst 0, 1) := by decide +kernel
theorem dX6_isWithin_15 : decode cX6_isWithin 15 = .ok (.ireturn, 1) := by decide +kernel
theorem dX6_findBook_0 : decode cX6_findBook 0 = .ok (.iload_n 1, 1) := by decide +kernel
theorem dX6_findBook_1 : decode cX6_findBook 1 = .ok (.ifCond .lt 21, 3) := by decide +kernel
theorem dX6_findBook_4 : decode cX6_findBook 4 = .ok (.iload_n 1, 1) := by decide +kernel
theorem dX6_findBook_5 : decode cX6_findBook 5 = .ok (.aload_n 0, 1) := by decide +kernel
theorem dX6_findBook_6 : decode cX6_findBook 6 = .ok (.getfield 11, 3) := by decide +kernel
theorem dX6_findBook_9 : decode cX6_findBook 9 = .ok (.arraylength, 1) := by decide +kernel
theorem dX6_findBook_10 : decode cX6_findBook 10 = .ok (.if_icmp .ge 12, 3) := by decide +kernel
theorem dX6_findBook_13 : decode cX6_findBook 13 = .ok (.aload_n 0, 1) := by decide +kernel
theorem dX6_findBook_14 : decode cX6_findBook 14 = .ok (.getfield 11, 3) := by decide +kernel
theorem dX6_findBook_17 : decode cX6_findBook 17 = .ok (.iload_n 1, 1) := by decide +kernel
theorem dX6_findBook_18 : decode cX6_findBook 18 = .ok (.aaload, 1) := by decide +kernel
theorem dX6_findBook_19 : decode cX6_findBook 19 = .ok (.goto 4, 3) := by decide +kernel
theorem dX6_findBook_22 : decode cX6_findBook 22 = .ok (.aconst_null, 1) := by decide +kernel
theorem dX6_findBook_23 : decode cX6_findBook 23 = .ok (.areturn, 1) := by decide +kernel
theorem dX6_findRight_0 : decode cX6_findRight 0 = .ok (.aload_n 0, 1) := by decide +kernel
theorem dX6_findRight_1 : decode cX6_findRight 1 = .ok (.iload_n 1, 1) := by decide +kernel
theorem dX6_findRight_2 : decode cX6_findRight 2 = .ok (.invokevirtual 66, 3) := by decide +kernel
theorem dX6_findRight_5 : decode cX6_findRight 5 = .ok (.astore_n 2, 1) := by decide +kernel
theorem dX6_findRight_6 : decode cX6_findRight 6 = .ok (.aload_n 2, 1) := by decide +kernel
theorem dX6_findRight_7 : decode cX6_findRight 7 = .ok (.ifnull 14, 3) := by decide +kernel
theorem dX6_findRight_10 : decode cX6_findRight 10 = .ok (.aload_n 2, 1) := by decide +kernel
theorem dX6_findRight_11 : decode cX6_findRight 11 = .ok (.invokevirtual 184, 3) := by decide +kernel
theorem dX6_findRight_14 : decode cX6_findRight 14 = .ok (.ifCond .eq 7, 3) := by decide +kernel
theorem dX6_findRight_17 : decode cX6_findRight 17 = .ok (.aload_n 2, 1) := by decide +kernel
theorem dX6_findRight_18 : decode cX6_findRight 18 = .ok (.goto 4, 3) := by decide +kernel
theorem dX6_findRight_21 : decode cX6_findRight 21 = .ok (.aconst_null, 1) := by decide +kernel
theorem dX6_findRight_22 : decode cX6_findRight 22 = .ok (.areturn, 1) := by decide +kernel
theorem dX6_move_0 : decode cX6_move 0 = .ok (.iload_n 1, 1) := by decide +kernel
theorem dX6_move_1 : decode cX6_move 1 = .ok (.ifCond .lt 22, 3) := by decide +kernel
theorem dX6_move_4 : decode cX6_move 4 = .ok (.iload_n 1, 1) := by decide +kernel
theorem dX6_move_5 : decode cX6_move 5 = .ok (.aload_n 0, 1) := by decide +kernel
theorem dX6_move_6 : decode cX6_move 6 = .ok (.getfield 15, 3) := by decide +kernel
theorem dX6_move_9 : decode cX6_move 9 = .ok (.arraylength, 1) := by decide +kernel
theorem dX6_move_10 : decode cX6_move 10 = .ok (.if_icmp .ge 13, 3) := by decide +kernel
theorem dX6_move_13 : decode cX6_move 13 = .ok (.aload_n 0, 1) := by decide +kernel
theorem dX6_move_14 : decode cX6_move 14 = .ok (.getfield 15, 3) := by decide +kernel
theorem dX6_move_17 : decode cX6_move 17 = .ok (.iload_n 1, 1) := by decide +kernel
theorem dX6_move_18 : decode cX6_move 18 = .ok (.dup2, 1) := by decide +kernel
theorem dX6_move_19 : decode cX6_move 19 = .ok (.iaload, 1) := by decide +kernel
theorem dX6_move_20 : decode cX6_move 20 = .ok (.iload_n 2, 1) := by decide +kernel
theorem dX6_move_21 : decode cX6_move 21 = .ok (.iadd, 1) := by decide +kernel
theorem dX6_move_22 : decode cX6_move 22 = .ok (.iastore, 1) := by decide +kernel
theorem dX6_move_23 : decode cX6_move 23 = .ok (.return_, 1) := by decide +kernel
theorem dX6_writeMoved_0 : decode cX6_writeMoved 0 = .ok (.iconst 0, 1) := by decide +kernel
theorem dX6_writeMoved_1 : decode cX6_writeMoved 1 = .ok (.istore_n 2, 1) := by decide +kernel
theorem dX6_writeMoved_2 : decode cX6_writeMoved 2 = .ok (.iload_n 2, 1) := by decide +kernel
theorem dX6_writeMoved_3 : decode cX6_writeMoved 3 = .ok (.aload_n 0, 1) := by decide +kernel
theorem dX6_writeMoved_4 : decode cX6_writeMoved 4 = .ok (.getfield 15, 3) := by decide +kernel
theorem dX6_writeMoved_7 : decode cX6_writeMoved 7 = .ok (.arraylength, 1) := by decide +kernel
theorem dX6_writeMoved_8 : decode cX6_writeMoved 8 = .ok (.if_icmp .ge 20, 3) := by decide +kernel
theorem dX6_writeMoved_11 : decode cX6_writeMoved 11 = .ok (.aload_n 1, 1) := by decide +kernel
theorem dX6_writeMoved_12 : decode cX6_writeMoved 12 = .ok (.iload_n 2, 1) := by decide +kernel
theorem dX6_writeMoved_13 : decode cX6_writeMoved 13 = .ok (.aload_n 0, 1) := by decide +kernel
theorem dX6_writeMoved_14 : decode cX6_writeMoved 14 = .ok (.getfield 15, 3) := by decide +kernel
theorem dX6_writeMoved_17 : decode cX6_writeMoved 17 = .ok (.iload_n 2, 1) := by decide +kernel
theorem dX6_writeMoved_18 : decode cX6_writeMoved 18 = .ok (.iaload, 1) := by decide +kernel
theorem dX6_writeMoved_19 : decode cX6_writeMoved 19 = .ok (.invokevirtual 74, 3) := by decide +kernel
theorem dX6_writeMoved_22 : decode cX6_writeMoved 22 = .ok (.iinc 2 1, 3) := by decide +kernel
theorem dX6_writeMoved_25 : decode cX6_writeMoved 25 = .ok (.goto (-23), 3) := by decide +kernel
theorem dX6_writeMoved_28 : decode cX6_writeMoved 28 = .ok (.return_, 1) := by decide +kernel
theorem dX6_startNumber_0 : decode cX6_startNumber 0 = .ok (.aload_n 0, 1) := by decide +kernel
theorem dX6_startNumber_1 : decode cX6_startNumber 1 = .ok (.getfield 45, 3) := by decide +kernel
theorem dX6_startNumber_4 : decode cX6_startNumber 4 = .ok (.invokevirtual 134, 3) := by decide +kernel
theorem dX6_startNumber_7 : decode cX6_startNumber 7 = .ok (.aload_n 0, 1) := by decide +kernel
theorem dX6_startNumber_8 : decode cX6_startNumber 8 = .ok (.getfield 45, 3) := by decide +kernel
theorem dX6_startNumber_11 : decode cX6_startNumber 11 = .ok (.iconst 0, 1) := by decide +kernel
theorem dX6_startNumber_12 : decode cX6_startNumber 12 = .ok (.lload_n 1, 1) := by decide +kernel
theorem dX6_startNumber_13 : decode cX6_startNumber 13 = .ok (.invokevirtual 188, 3) := by decide +kernel
theorem dX6_startNumber_16 : decode cX6_startNumber 16 = .ok (.aload_n 0, 1) := by decide +kernel
theorem dX6_startNumber_17 : decode cX6_startNumber 17 = .ok (.iconst 0, 1) := by decide +kernel
theorem dX6_startNumber_18 : decode cX6_startNumber 18 = .ok (.putfield 58, 3) := by decide +kernel
theorem dX6_startNumber_21 : decode cX6_startNumber 21 = .ok (.return_, 1) := by decide +kernel
theorem dX6_noteTick_0 : decode cX6_noteTick 0 = .ok (.iconst 1, 1) := by decide +kernel
theorem dX6_noteTick_1 : decode cX6_noteTick 1 = .ok (.istore_n 2, 1) := by decide +kernel
theorem dX6_noteTick_2 : decode cX6_noteTick 2 = .ok (.iload_n 2, 1) := by decide +kernel
theorem dX6_noteTick_3 : decode cX6_noteTick 3 = .ok (.bipush 20, 2) := by decide +kernel
theorem dX6_noteTick_5 : decode cX6_noteTick 5 = .ok (.if_icmp .gt 55, 3) := by decide +kernel
theorem dX6_noteTick_8 : decode cX6_noteTick 8 = .ok (.aload_n 0, 1) := by decide +kernel
theorem dX6_noteTick_9 : decode cX6_noteTick 9 = .ok (.getfield 22, 3) := by decide +kernel
theorem dX6_noteTick_12 : decode cX6_noteTick 12 = .ok (.iload_n 2, 1) := by decide +kernel
theorem dX6_noteTick_13 : decode cX6_noteTick 13 = .ok (.invokevirtual 192, 3) := by decide +kernel
theorem dX6_noteTick_16 : decode cX6_noteTick 16 = .ok (.aload_n 0, 1) := by decide +kernel
theorem dX6_noteTick_17 : decode cX6_noteTick 17 = .ok (.getfield 52, 3) := by decide +kernel
theorem dX6_noteTick_20 : decode cX6_noteTick 20 = .ok (.iload_n 1, 1) := by decide +kernel
theorem dX6_noteTick_21 : decode cX6_noteTick 21 = .ok (.lconst 1, 1) := by decide +kernel
theorem dX6_noteTick_22 : decode cX6_noteTick 22 = .ok (.aload_n 0, 1) := by decide +kernel
theorem dX6_noteTick_23 : decode cX6_noteTick 23 = .ok (.getfield 22, 3) := by decide +kernel
theorem dX6_noteTick_26 : decode cX6_noteTick 26 = .ok (.getfield 195, 3) := by decide +kernel
theorem dX6_noteTick_29 : decode cX6_noteTick 29 = .ok (.iconst 0, 1) := by decide +kernel
theorem dX6_noteTick_30 : decode cX6_noteTick 30 = .ok (.lconst 1, 1) := by decide +kernel
theorem dX6_noteTick_31 : decode cX6_noteTick 31 = .ok (.invokevirtual 198, 3) := by decide +kernel
theorem dX6_noteTick_34 : decode cX6_noteTick 34 = .ok (.aload_n 0, 1) := by decide +kernel
theorem dX6_noteTick_35 : decode cX6_noteTick 35 = .ok (.getfield 55, 3) := by decide +kernel
theorem dX6_noteTick_38 : decode cX6_noteTick 38 = .ok (.iload_n 2, 1) := by decide +kernel
theorem dX6_noteTick_39 : decode cX6_noteTick 39 = .ok (.ldc2_w 202, 3) := by decide +kernel
theorem dX6_noteTick_42 : decode cX6_noteTick 42 = .ok (.aload_n 0, 1) := by decide +kernel
theorem dX6_noteTick_43 : decode cX6_noteTick 43 = .ok (.getfield 22, 3) := by decide +kernel
theorem dX6_noteTick_46 : decode cX6_noteTick 46 = .ok (.getfield 195, 3) := by decide +kernel
theorem dX6_noteTick_49 : decode cX6_noteTick 49 = .ok (.iconst 0, 1) := by decide +kernel
theorem dX6_noteTick_50 : decode cX6_noteTick 50 = .ok (.lconst 1, 1) := by decide +kernel
theorem dX6_noteTick_51 : decode cX6_noteTick 51 = .ok (.invokevirtual 198, 3) := by decide +kernel
theorem dX6_noteTick_54 : decode cX6_noteTick 54 = .ok (.iinc 2 1, 3) := by decide +kernel
theorem dX6_noteTick_57 : decode cX6_noteTick 57 = .ok (.goto (-55), 3) := by decide +kernel
theorem dX6_noteTick_60 : decode cX6_noteTick 60 = .ok (.aload_n 0, 1) := by decide +kernel
theorem dX6_noteTick_61 : decode cX6_noteTick 61 = .ok (.getfield 45, 3) := by decide +kernel
theorem dX6_noteTick_64 : decode cX6_noteTick 64 = .ok (.iconst 0, 1) := by decide +kernel
theorem dX6_noteTick_65 : decode cX6_noteTick 65 = .ok (.ldc2_w 202, 3) := by decide +kernel
theorem dX6_noteTick_68 : decode cX6_noteTick 68 = .ok (.aload_n 0, 1) := by decide +kernel
theorem dX6_noteTick_69 : decode cX6_noteTick 69 = .ok (.getfield 52, 3) := by decide +kernel
theorem dX6_noteTick_72 : decode cX6_noteTick 72 = .ok (.iload_n 1, 1) := by decide +kernel
theorem dX6_noteTick_73 : decode cX6_noteTick 73 = .ok (.lconst 1, 1) := by decide +kernel
theorem dX6_noteTick_74 : decode cX6_noteTick 74 = .ok (.invokevirtual 198, 3) := by decide +kernel
theorem dX6_noteTick_77 : decode cX6_noteTick 77 = .ok (.return_, 1) := by decide +kernel
theorem dX6_stand_0 : decode cX6_stand 0 = .ok (.aload_n 0, 1) := by decide +kernel
theorem dX6_stand_1 : decode cX6_stand 1 = .ok (.getfield 22, 3) := by decide +kernel
theorem dX6_stand_4 : decode cX6_stand 4 = .ok (.iload_n 1, 1) := by decide +kernel
theorem dX6_stand_5 : decode cX6_stand 5 = .ok (.iload_n 2, 1) := by decide +kernel
theorem dX6_stand_6 : decode cX6_stand 6 = .ok (.iload_n 3, 1) := by decide +kernel
theorem dX6_stand_7 : decode cX6_stand 7 = .ok (.aload_n 0, 1) := by decide +kernel
theorem dX6_stand_8 : decode cX6_stand 8 = .ok (.getfield 45, 3) := by decide +kernel
theorem dX6_stand_11 : decode cX6_stand 11 = .ok (.aload_n 0, 1) := by decide +kernel
theorem dX6_stand_12 : decode cX6_stand 12 = .ok (.getfield 58, 3) := by decide +kernel
theorem dX6_stand_15 : decode cX6_stand 15 = .ok (.invokevirtual 130, 3) := by decide +kernel
theorem dX6_stand_18 : decode cX6_stand 18 = .ok (.aload_n 0, 1) := by decide +kernel
theorem dX6_stand_19 : decode cX6_stand 19 = .ok (.getfield 22, 3) := by decide +kernel
theorem dX6_stand_22 : decode cX6_stand 22 = .ok (.invokevirtual 204, 3) := by decide +kernel
theorem dX6_stand_25 : decode cX6_stand 25 = .ok (.iconst 0, 1) := by decide +kernel
theorem dX6_stand_26 : decode cX6_stand 26 = .ok (.istore 4, 2) := by decide +kernel
theorem dX6_stand_28 : decode cX6_stand 28 = .ok (.iload 4, 2) := by decide +kernel
theorem dX6_stand_30 : decode cX6_stand 30 = .ok (.iload_n 3, 1) := by decide +kernel
theorem dX6_stand_31 : decode cX6_stand 31 = .ok (.if_icmp .ge 28, 3) := by decide +kernel
theorem dX6_stand_34 : decode cX6_stand 34 = .ok (.aload_n 0, 1) := by decide +kernel
theorem dX6_stand_35 : decode cX6_stand 35 = .ok (.getfield 45, 3) := by decide +kernel
theorem dX6_stand_38 : decode cX6_stand 38 = .ok (.iconst 0, 1) := by decide +kernel
theorem dX6_stand_39 : decode cX6_stand 39 = .ok (.aload_n 0, 1) := by decide +kernel
theorem dX6_stand_40 : decode cX6_stand 40 = .ok (.getfield 22, 3) := by decide +kernel
theorem dX6_stand_43 : decode cX6_stand 43 = .ok (.getfield 120, 3) := by decide +kernel
theorem dX6_stand_46 : decode cX6_stand 46 = .ok (.getfield 207, 3) := by decide +kernel
theorem dX6_stand_49 : decode cX6_stand 49 = .ok (.lconst 0, 1) := by decide +kernel
theorem dX6_stand_50 : decode cX6_stand 50 = .ok (.invokevirtual 156, 3) := by decide +kernel
theorem dX6_stand_53 : decode cX6_stand 53 = .ok (.iinc 4 1, 3) := by decide +kernel
theorem dX6_stand_56 : decode cX6_stand 56 = .ok (.goto (-28), 3) := by decide +kernel
theorem dX6_stand_59 : decode cX6_stand 59 = .ok (.aload_n 0, 1) := by decide +kernel
theorem dX6_stand_60 : decode cX6_stand 60 = .ok (.getfield 45, 3) := by decide +kernel
theorem dX6_stand_63 : decode cX6_stand 63 = .ok (.iconst 0, 1) := by decide +kernel
theorem dX6_stand_64 : decode cX6_stand 64 = .ok (.lconst 1, 1) := by decide +kernel
theorem dX6_stand_65 : decode cX6_stand 65 = .ok (.aload_n 0, 1) := by decide +kernel
theorem dX6_stand_66 : decode cX6_stand 66 = .ok (.getfield 22, 3) := by decide +kernel
theorem dX6_stand_69 : decode cX6_stand 69 = .ok (.getfield 211, 3) := by decide +kernel
theorem dX6_stand_72 : decode cX6_stand 72 = .ok (.iconst 0, 1) := by decide +kernel
theorem dX6_stand_73 : decode cX6_stand 73 = .ok (.ldc2_w 214, 3) := by decide +kernel
theorem dX6_stand_76 : decode cX6_stand 76 = .ok (.invokevirtual 198, 3) := by decide +kernel
theorem dX6_stand_79 : decode cX6_stand 79 = .ok (.aload_n 0, 1) := by decide +kernel
theorem dX6_stand_80 : decode cX6_stand 80 = .ok (.dup, 1) := by decide +kernel
theorem dX6_stand_81 : decode cX6_stand 81 = .ok (.getfield 58, 3) := by decide +kernel
theorem dX6_stand_84 : decode cX6_stand 84 = .ok (.iload_n 3, 1) := by decide +kernel
theorem dX6_stand_85 : decode cX6_stand 85 = .ok (.aload_n 0, 1) := by decide +kernel
theorem dX6_stand_86 : decode cX6_stand 86 = .ok (.getfield 22, 3) := by decide +kernel
theorem dX6_stand_89 : decode cX6_stand 89 = .ok (.getfield 120, 3) := by decide +kernel
theorem dX6_stand_92 : decode cX6_stand 92 = .ok (.getfield 216, 3) := by decide +kernel
theorem dX6_stand_95 : decode cX6_stand 95 = .ok (.imul, 1) := by decide +kernel
theorem dX6_stand_96 : decode cX6_stand 96 = .ok (.iadd, 1) := by decide +kernel
theorem dX6_stand_97 : decode cX6_stand 97 = .ok (.putfield 58, 3) := by decide +kernel
theorem dX6_stand_100 : decode cX6_stand 100 = .ok (.return_, 1) := by decide +kernel
theorem dX6_findPremium_0 : decode cX6_findPremium 0 = .ok (.iconst 0, 1) := by decide +kernel
theorem dX6_findPremium_1 : decode cX6_findPremium 1 = .ok (.istore 4, 2) := by decide +kernel
theorem dX6_findPremium_3 : decode cX6_findPremium 3 = .ok (.bipush 20, 2) := by decide +kernel
theorem dX6_findPremium_5 : decode cX6_findPremium 5 = .ok (.istore 5, 2) := by decide +kernel
theorem dX6_findPremium_7 : decode cX6_findPremium 7 = .ok (.iconst 0, 1) := by decide +kernel
theorem dX6_findPremium_8 : decode cX6_findPremium 8 = .ok (.istore 6, 2) := by decide +kernel
theorem dX6_findPremium_10 : decode cX6_findPremium 10 = .ok (.iload 6, 2) := by decide +kernel
theorem dX6_findPremium_12 : decode cX6_findPremium 12 = .ok (.bipush 20, 2) := by decide +kernel
theorem dX6_findPremium_14 : decode cX6_findPremium 14 = .ok (.if_icmp .ge 50, 3) := by decide +kernel
theorem dX6_findPremium_17 : decode cX6_findPremium 17 = .ok (.iload 4, 2) := by decide +kernel
theorem dX6_findPremium_19 : decode cX6_findPremium 19 = .ok (.iload 5, 2) := by decide +kernel
theorem dX6_findPremium_21 : decode cX6_findPremium 21 = .ok (.if_icmp .ge 43, 3) := by decide +kernel
theorem dX6_findPremium_24 : decode cX6_findPremium 24 = .ok (.iload 4, 2) := by decide +kernel
theorem dX6_findPremium_26 : decode cX6_findPremium 26 = .ok (.iload 5, 2) := by decide +kernel
theorem dX6_findPremium_28 : decode cX6_findPremium 28 = .ok (.iadd, 1) := by decide +kernel
theorem dX6_findPremium_29 : decode cX6_findPremium 29 = .ok (.iconst 2, 1) := by decide +kernel
theorem dX6_findPremium_30 : decode cX6_findPremium 30 = .ok (.idiv, 1) := by decide +kernel
theorem dX6_findPremium_31 : decode cX6_findPremium 31 = .ok (.istore 7, 2) := by decide +kernel
theorem dX6_findPremium_33 : decode cX6_findPremium 33 = .ok (.aload_n 0, 1) := by decide +kernel
theorem dX6_findPremium_34 : decode cX6_findPremium 34 = .ok (.iload_n 1, 1) := by decide +kernel
theorem dX6_findPremium_35 : decode cX6_findPremium 35 = .ok (.iload 7, 2) := by decide +kernel
theorem dX6_findPremium_37 : decode cX6_findPremium 37 = .ok (.iload_n 2, 1) := by decide +kernel
theorem dX6_findPremium_38 : decode cX6_findPremium 38 = .ok (.iload_n 3, 1) := by decide +kernel
theorem dX6_findPremium_39 : decode cX6_findPremium 39 = .ok (.invokevirtual 219, 3) := by decide +kernel
theorem dX6_findPremium_42 : decode cX6_findPremium 42 = .ok (.ifCond .eq 10, 3) := by decide +kernel
theorem dX6_findPremium_45 : decode cX6_findPremium 45 = .ok (.iload 7, 2) := by decide +kernel
theorem dX6_findPremium_47 : decode cX6_findPremium 47 = .ok (.istore 5, 2) := by decide +kernel
theorem dX6_findPremium_49 : decode cX6_findPremium 49 = .ok (.goto 9, 3) := by decide +kernel
theorem dX6_findPremium_52 : decode cX6_findPremium 52 = .ok (.iload 7, 2) := by decide +kernel
theorem dX6_findPremium_54 : decode cX6_findPremium 54 = .ok (.iconst 1, 1) := by decide +kernel
theorem dX6_findPremium_55 : decode cX6_findPremium 55 = .ok (.iadd, 1) := by decide +kernel
theorem dX6_findPremium_56 : decode cX6_findPremium 56 = .ok (.istore 4, 2) := by decide +kernel
theorem dX6_findPremium_58 : decode cX6_findPremium 58 = .ok (.iinc 6 1, 3) := by decide +kernel
theorem dX6_findPremium_61 : decode cX6_findPremium 61 = .ok (.goto (-51), 3) := by decide +kernel
theorem dX6_findPremium_64 : decode cX6_findPremium 64 = .ok (.iload 5, 2) := by decide +kernel
theorem dX6_findPremium_66 : decode cX6_findPremium 66 = .ok (.ireturn, 1) := by decide +kernel
theorem dX6_isEnough_0 : decode cX6_isEnough 0 = .ok (.aload_n 0, 1) := by decide +kernel
theorem dX6_isEnough_1 : decode cX6_isEnough 1 = .ok (.getfield 49, 3) := by decide +kernel
theorem dX6_isEnough_4 : decode cX6_isEnough 4 = .ok (.invokevirtual 134, 3) := by decide +kernel
theorem dX6_isEnough_7 : decode cX6_isEnough 7 = .ok (.aload_n 0, 1) := by decide +kernel
theorem dX6_isEnough_8 : decode cX6_isEnough 8 = .ok (.getfield 49, 3) := by decide +kernel
theorem dX6_isEnough_11 : decode cX6_isEnough 11 = .ok (.iconst 0, 1) := by decide +kernel
theorem dX6_isEnough_12 : decode cX6_isEnough 12 = .ok (.lconst 1, 1) := by decide +kernel
theorem dX6_isEnough_13 : decode cX6_isEnough 13 = .ok (.invokevirtual 188, 3) := by decide +kernel
theorem dX6_isEnough_16 : decode cX6_isEnough 16 = .ok (.aload_n 0, 1) := by decide +kernel
theorem dX6_isEnough_17 : decode cX6_isEnough 17 = .ok (.getfield 22, 3) := by decide +kernel
theorem dX6_isEnough_20 : decode cX6_isEnough 20 = .ok (.iload_n 1, 1) := by decide +kernel
theorem dX6_isEnough_21 : decode cX6_isEnough 21 = .ok (.iload_n 2, 1) := by decide +kernel
theorem dX6_isEnough_22 : decode cX6_isEnough 22 = .ok (.iload_n 3, 1) := by decide +kernel
theorem dX6_isEnough_23 : decode cX6_isEnough 23 = .ok (.aload_n 0, 1) := by decide +kernel
theorem dX6_isEnough_24 : decode cX6_isEnough 24 = .ok (.getfield 49, 3) := by decide +kernel
theorem dX6_isEnough_27 : decode cX6_isEnough 27 = .ok (.iconst 0, 1) := by decide +kernel
theorem dX6_isEnough_28 : decode cX6_isEnough 28 = .ok (.invokevirtual 130, 3) := by decide +kernel
theorem dX6_isEnough_31 : decode cX6_isEnough 31 = .ok (.aload_n 0, 1) := by decide +kernel
theorem dX6_isEnough_32 : decode cX6_isEnough 32 = .ok (.getfield 22, 3) := by decide +kernel
theorem dX6_isEnough_35 : decode cX6_isEnough 35 = .ok (.invokevirtual 204, 3) := by decide +kernel
theorem dX6_isEnough_38 : decode cX6_isEnough 38 = .ok (.aload_n 0, 1) := by decide +kernel
theorem dX6_isEnough_39 : decode cX6_isEnough 39 = .ok (.getfield 49, 3) := by decide +kernel
theorem dX6_isEnough_42 : decode cX6_isEnough 42 = .ok (.iconst 0, 1) := by decide +kernel
theorem dX6_isEnough_43 : decode cX6_isEnough 43 = .ok (.iload 4, 2) := by decide +kernel
theorem dX6_isEnough_45 : decode cX6_isEnough 45 = .ok (.i2l, 1) := by decide +kernel
theorem dX6_isEnough_46 : decode cX6_isEnough 46 = .ok (.invokevirtual 188, 3) := by decide +kernel
theorem dX6_isEnough_49 : decode cX6_isEnough 49 = .ok (.iconst 0, 1) := by decide +kernel
theorem dX6_isEnough_50 : decode cX6_isEnough 50 = .ok (.istore 5, 2) := by decide +kernel
theorem dX6_isEnough_52 : decode cX6_isEnough 52 = .ok (.iload 5, 2) := by decide +kernel
theorem dX6_isEnough_54 : decode cX6_isEnough 54 = .ok (.iload_n 3, 1) := by decide +kernel
theorem dX6_isEnough_55 : decode cX6_isEnough 55 = .ok (.if_icmp .ge 21, 3) := by decide +kernel
theorem dX6_isEnough_58 : decode cX6_isEnough 58 = .ok (.aload_n 0, 1) := by decide +kernel
theorem dX6_isEnough_59 : decode cX6_isEnough 59 = .ok (.getfield 49, 3) := by decide +kernel
theorem dX6_isEnough_62 : decode cX6_isEnough 62 = .ok (.iconst 0, 1) := by decide +kernel
theorem dX6_isEnough_63 : decode cX6_isEnough 63 = .ok (.ldc2_w 202, 3) := by decide +kernel
theorem dX6_isEnough_66 : decode cX6_isEnough 66 = .ok (.lconst 0, 1) := by decide +kernel
theorem dX6_isEnough_67 : decode cX6_isEnough 67 = .ok (.invokevirtual 156, 3) := by decide +kernel
theorem dX6_isEnough_70 : decode cX6_isEnough 70 = .ok (.iinc 5 1, 3) := by decide +kernel
theorem dX6_isEnough_73 : decode cX6_isEnough 73 = .ok (.goto (-21), 3) := by decide +kernel
theorem dX6_isEnough_76 : decode cX6_isEnough 76 = .ok (.aload_n 0, 1) := by decide +kernel
theorem dX6_isEnough_77 : decode cX6_isEnough 77 = .ok (.getfield 22, 3) := by decide +kernel
theorem dX6_isEnough_80 : decode cX6_isEnough 80 = .ok (.getfield 211, 3) := by decide +kernel
theorem dX6_isEnough_83 : decode cX6_isEnough 83 = .ok (.iconst 0, 1) := by decide +kernel
theorem dX6_isEnough_84 : decode cX6_isEnough 84 = .ok (.ldc2_w 223, 3) := by decide +kernel
theorem dX6_isEnough_87 : decode cX6_isEnough 87 = .ok (.lconst 0, 1) := by decide +kernel
theorem dX6_isEnough_88 : decode cX6_isEnough 88 = .ok (.invokevirtual 156, 3) := by decide +kernel
theorem dX6_isEnough_91 : decode cX6_isEnough 91 = .ok (.aload_n 0, 1) := by decide +kernel
theorem dX6_isEnough_92 : decode cX6_isEnough 92 = .ok (.getfield 22, 3) := by decide +kernel
theorem dX6_isEnough_95 : decode cX6_isEnough 95 = .ok (.getfield 211, 3) := by decide +kernel
theorem dX6_isEnough_98 : decode cX6_isEnough 98 = .ok (.iconst 0, 1) := by decide +kernel
theorem dX6_isEnough_99 : decode cX6_isEnough 99 = .ok (.aload_n 0, 1) := by decide +kernel
theorem dX6_isEnough_100 : decode cX6_isEnough 100 = .ok (.getfield 49, 3) := by decide +kernel
theorem dX6_isEnough_103 : decode cX6_isEnough 103 = .ok (.iconst 0, 1) := by decide +kernel
theorem dX6_isEnough_104 : decode cX6_isEnough 104 = .ok (.invokevirtual 225, 3) := by decide +kernel
theorem dX6_isEnough_107 : decode cX6_isEnough 107 = .ok (.ifCond .gt 7, 3) := by decide +kernel
theorem dX6_isEnough_110 : decode cX6_isEnough 110 = .ok (.iconst 1, 1) := by decide +kernel
theorem dX6_isEnough_111 : decode cX6_isEnough 111 = .ok (.goto 4, 3) := by decide +kernel
theorem dX6_isEnough_114 : decode cX6_isEnough 114 = .ok (.iconst 0, 1) := by decide +kernel
theorem dX6_isEnough_115 : decode cX6_isEnough 115 = .ok (.ireturn, 1) := by decide +kernel
theorem dX7_init_0 : decode cX7_init 0 = .ok (.aload_n 0, 1) := by decide +kernel
theorem dX7_init_1 : decode cX7_init 1 = .ok (.invokespecial 3, 3) := by decide +kernel
theorem dX7_init_4 : decode cX7_init 4 = .ok (.aload_n 0, 1) := by decide +kernel
theorem dX7_init_5 : decode cX7_init 5 = .ok (.bipush 8, 2) := by decide +kernel
theorem dX7_init_7 : decode cX7_init 7 = .ok (.bipush 21, 2) := by decide +kernel
theorem dX7_init_9 : decode cX7_init 9 = .ok (.multianewarray 9 2, 4) := by decide +kernel
theorem dX7_init_13 : decode cX7_init 13 = .ok (.putfield 11, 3) := by decide +kernel
theorem dX7_init_16 : decode cX7_init 16 = .ok (.aload_n 0, 1) := by decide +kernel
theorem dX7_init_17 : decode cX7_init 17 = .ok (.bipush 72, 2) := by decide +kernel
theorem dX7_init_19 : decode cX7_init 19 = .ok (.newarray .int, 2) := by decide +kernel
theorem dX7_init_21 : decode cX7_init 21 = .ok (.putfield 14, 3) := by decide +kernel
theorem dX7_init_24 : decode cX7_init 24 = .ok (.aload_n 0, 1) := by decide +kernel
theorem dX7_init_25 : decode cX7_init 25 = .ok (.bipush 41, 2) := by decide +kernel
theorem dX7_init_27 : decode cX7_init 27 = .ok (.bipush 72, 2) := by decide +kernel
theorem dX7_init_29 : decode cX7_init 29 = .ok (.multianewarray 9 2, 4) := by decide +kernel
theorem dX7_init_33 : decode cX7_init 33 = .ok (.putfield 18, 3) := by decide +kernel
theorem dX7_init_36 : decode cX7_init 36 = .ok (.aload_n 0, 1) := by decide +kernel
theorem dX7_init_37 : decode cX7_init 37 = .ok (.bipush 21, 2) := by decide +kernel
theorem dX7_init_39 : decode cX7_init 39 = .ok (.bipush 72, 2) := by decide +kernel
theorem dX7_init_41 : decode cX7_init 41 = .ok (.multianewarray 9 2, 4) := by decide +kernel
theorem dX7_init_45 : decode cX7_init 45 = .ok (.putfield 21, 3) := by decide +kernel
theorem dX7_init_48 : decode cX7_init 48 = .ok (.aload_n 0, 1) := by decide +kernel
theorem dX7_init_49 : decode cX7_init 49 = .ok (.bipush 21, 2) := by decide +kernel
theorem dX7_init_51 : decode cX7_init 51 = .ok (.newarray .int, 2) := by decide +kernel
theorem dX7_init_53 : decode cX7_init 53 = .ok (.putfield 24, 3) := by decide +kernel
theorem dX7_init_56 : decode cX7_init 56 = .ok (.aload_n 0, 1) := by decide +kernel
theorem dX7_init_57 : decode cX7_init 57 = .ok (.bipush 72, 2) := by decide +kernel
theorem dX7_init_59 : decode cX7_init 59 = .ok (.putfield 27, 3) := by decide +kernel
theorem dX7_init_62 : decode cX7_init 62 = .ok (.aload_n 0, 1) := by decide +kernel
theorem dX7_init_63 : decode cX7_init 63 = .ok (.bipush 72, 2) := by decide +kernel
theorem dX7_init_65 : decode cX7_init 65 = .ok (.newarray .int, 2) := by decide +kernel
theorem dX7_init_67 : decode cX7_init 67 = .ok (.putfield 31, 3) := by decide +kernel
theorem dX7_init_70 : decode cX7_init 70 = .ok (.aload_n 0, 1) := by decide +kernel
theorem dX7_init_71 : decode cX7_init 71 = .ok (.sipush 901, 3) := by decide +kernel
theorem dX7_init_74 : decode cX7_init 74 = .ok (.bipush 72, 2) := by decide +kernel
theorem dX7_init_76 : decode cX7_init 76 = .ok (.multianewarray 9 2, 4) := by decide +kernel
theorem dX7_init_80 : decode cX7_init 80 = .ok (.putfield 34, 3) := by decide +kernel
theorem dX7_init_83 : decode cX7_init 83 = .ok (.aload_n 0, 1) := by decide +kernel
theorem dX7_init_84 : decode cX7_init 84 = .ok (.sipush 901, 3) := by decide +kernel
theorem dX7_init_87 : decode cX7_init 87 = .ok (.bipush 72, 2) := by decide +kernel
theorem dX7_init_89 : decode cX7_init 89 = .ok (.multianewarray 9 2, 4) := by decide +kernel
theorem dX7_init_93 : decode cX7_init 93 = .ok (.putfield 37, 3) := by decide +kernel
theorem dX7_init_96 : decode cX7_init 96 = .ok (.aload_n 0, 1) := by decide +kernel
theorem dX7_init_97 : decode cX7_init 97 = .ok (.bipush 41, 2) := by decide +kernel
theorem dX7_init_99 : decode cX7_init 99 = .ok (.bipush 72, 2) := by decide +kernel
theorem dX7_init_101 : decode cX7_init 101 = .ok (.multianewarray 9 2, 4) := by decide +kernel
theorem dX7_init_105 : decode cX7_init 105 = .ok (.putfield 40, 3) := by decide +kernel
theorem dX7_init_108 : decode cX7_init 108 = .ok (.aload_n 0, 1) := by decide +kernel
theorem dX7_init_109 : decode cX7_init 109 = .ok (.bipush 21, 2) := by decide +kernel
theorem dX7_init_111 : decode cX7_init 111 = .ok (.bipush 72, 2) := by decide +kernel
theorem dX7_init_113 : decode cX7_init 113 = .ok (.multianewarray 9 2, 4) := by decide +kernel
theorem dX7_init_117 : decode cX7_init 117 = .ok (.putfield 43, 3) := by decide +kernel
theorem dX7_init_120 : decode cX7_init 120 = .ok (.aload_n 0, 1) := by decide +kernel
theorem dX7_init_121 : decode cX7_init 121 = .ok (.bipush 72, 2) := by decide +kernel
theorem dX7_init_123 : decode cX7_init 123 = .ok (.newarray .int, 2) := by decide +kernel
theorem dX7_init_125 : decode cX7_init 125 = .ok (.putfield 46, 3) := by decide +kernel
theorem dX7_init_128 : decode cX7_init 128 = .ok (.aload_n 0, 1) := by decide +kernel
theorem dX7_init_129 : decode cX7_init 129 = .ok (.bipush 72, 2) := by decide +kernel
theorem dX7_init_131 : decode cX7_init 131 = .ok (.newarray .int, 2) := by decide +kernel
theorem dX7_init_133 : decode cX7_init 133 = .ok (.putfield 49, 3) := by decide +kernel
theorem dX7_init_136 : decode cX7_init 136 = .ok (.aload_n 0, 1) := by decide +kernel
theorem dX7_init_137 : decode cX7_init 137 = .ok (.bipush 64, 2) := by decide +kernel
theorem dX7_init_139 : decode cX7_init 139 = .ok (.bipush 72, 2) := by decide +kernel
theorem dX7_init_141 : decode cX7_init 141 = .ok (.multianewarray 9 2, 4) := by decide +kernel
theorem dX7_init_145 : decode cX7_init 145 = .ok (.putfield 52, 3) := by decide +kernel
theorem dX7_init_148 : decode cX7_init 148 = .ok (.aload_n 0, 1) := by decide +kernel
theorem dX7_init_149 : decode cX7_init 149 = .ok (.bipush 64, 2) := by decide +kernel
theorem dX7_init_151 : decode cX7_init 151 = .ok (.bipush 72, 2) := by decide +kernel
theorem dX7_init_153 : decode cX7_init 153 = .ok (.multianewarray 9 2, 4) := by decide +kernel
theorem dX7_init_157 : decode cX7_init 157 = .ok (.putfield 55, 3) := by decide +kernel
theorem dX7_init_160 : decode cX7_init 160 = .ok (.aload_n 0, 1) := by decide +kernel
theorem dX7_init_161 : decode cX7_init 161 = .ok (.bipush 72, 2) := by decide +kernel
theorem dX7_init_163 : decode cX7_init 163 = .ok (.newarray .int, 2) := by decide +kernel
theorem dX7_init_165 : decode cX7_init 165 = .ok (.putfield 58, 3) := by decide +kernel
theorem dX7_init_168 : decode cX7_init 168 = .ok (.aload_n 0, 1) := by decide +kernel
theorem dX7_init_169 : decode cX7_init 169 = .ok (.bipush 72, 2) := by decide +kernel
theorem dX7_init_171 : decode cX7_init 171 = .ok (.newarray .int, 2) := by decide +kernel
theorem dX7_init_173 : decode cX7_init 173 = .ok (.putfield 61, 3) := by decide +kernel
theorem dX7_init_176 : decode cX7_init 176 = .ok (.aload_n 0, 1) := by decide +kernel
theorem dX7_init_177 : decode cX7_init 177 = .ok (.sipush 181, 3) := by decide +kernel
theorem dX7_init_180 : decode cX7_init 180 = .ok (.bipush 72, 2) := by decide +kernel
theorem dX7_init_182 : decode cX7_init 182 = .ok (.multianewarray 9 2, 4) := by decide +kernel
theorem dX7_init_186 : decode cX7_init 186 = .ok (.putfield 64, 3) := by decide +kernel
theorem dX7_init_189 : decode cX7_init 189 = .ok (.aload_n 0, 1) := by decide +kernel
theorem dX7_init_190 : decode cX7_init 190 = .ok (.sipush 181, 3) := by decide +kernel
theorem dX7_init_193 : decode cX7_init 193 = .ok (.bipush 72, 2) := by decide +kernel
theorem dX7_init_195 : decode cX7_init 195 = .ok (.multianewarray 9 2, 4) := by decide +kernel
theorem dX7_init_199 : decode cX7_init 199 = .ok (.putfield 67, 3) := by decide +kernel
theorem dX7_init_202 : decode cX7_init 202 = .ok (.aload_n 0, 1) := by decide +kernel
theorem dX7_init_203 : decode cX7_init 203 = .ok (.bipush 72, 2) := by decide +kernel
theorem dX7_init_205 : decode cX7_init 205 = .ok (.newarray .int, 2) := by decide +kernel
theorem dX7_init_207 : decode cX7_init 207 = .ok (.putfield 70, 3) := by decide +kernel
theorem dX7_init_210 : decode cX7_init 210 = .ok (.aload_n 0, 1) := by decide +kernel
theorem dX7_init_211 : decode cX7_init 211 = .ok (.bipush 72, 2) := by decide +kernel
theorem dX7_init_213 : decode cX7_init 213 = .ok (.newarray .int, 2) := by decide +kernel
theorem dX7_init_215 : decode cX7_init 215 = .ok (.putfield 73, 3) := by decide +kernel
theorem dX7_init_218 : decode cX7_init 218 = .ok (.aload_n 0, 1) := by decide +kernel
theorem dX7_init_219 : decode cX7_init 219 = .ok (.sipush 3698, 3) := by decide +kernel
theorem dX7_init_222 : decode cX7_init 222 = .ok (.anewarray 76, 3) := by decide +kernel
theorem dX7_init_225 : decode cX7_init 225 = .ok (.putfield 77, 3) := by decide +kernel
theorem dX7_init_228 : decode cX7_init 228 = .ok (.return_, 1) := by decide +kernel
theorem dX7_in_0 : decode cX7_in 0 = .ok (.iload_n 0, 1) := by decide +kernel
theorem dX7_in_1 : decode cX7_in 1 = .ok (.iload_n 1, 1) := by decide +kernel
theorem dX7_in_2 : decode cX7_in 2 = .ok (.if_icmp .lt 12, 3) := by decide +kernel
theorem dX7_in_5 : decode cX7_in 5 = .ok (.iload_n 0, 1) := by decide +kernel
theorem dX7_in_6 : decode cX7_in 6 = .ok (.iload_n 2, 1) := by decide +kernel
theorem dX7_in_7 : decode cX7_in 7 = .ok (.if_icmp .gt 7, 3) := by decide +kernel
theorem dX7_in_10 : decode cX7_in 10 = .ok (.iconst 1, 1) := by decide +kernel
theorem dX7_in_11 : decode cX7_in 11 = .ok (.goto 4, 3) := by decide +kernel
theorem dX7_in_14 : decode cX7_in 14 = .ok (.iconst 0, 1) := by decide +kernel
theorem dX7_in_15 : decode cX7_in 15 = .ok (.ireturn, 1) := by decide +kernel
theorem dX7_isBook_0 : decode cX7_isBook 0 = .ok (.iload_n 0, 1) := by decide +kernel
theorem dX7_isBook_1 : decode cX7_isBook 1 = .ok (.iconst 0, 1) := by decide +kernel
theorem dX7_isBook_2 : decode cX7_isBook 2 = .ok (.bipush 7, 2) := by decide +kernel
theorem dX7_isBook_4 : decode cX7_isBook 4 = .ok (.invokestatic 80, 3) := by decide +kernel
theorem dX7_isBook_7 : decode cX7_isBook 7 = .ok (.ireturn, 1) := by decide +kernel
theorem dX7_isRight_0 : decode cX7_isRight 0 = .ok (.iload_n 1, 1) := by decide +kernel
theorem dX7_isRight_1 : decode cX7_isRight 1 = .ok (.invokestatic 84, 3) := by decide +kernel
theorem dX7_isRight_4 : decode cX7_isRight 4 = .ok (.ifCond .ne 5, 3) := by decide +kernel
theorem dX7_isRight_7 : decode cX7_isRight 7 = .ok (.iconst 0, 1) := by decide +kernel
theorem dX7_isRight_8 : decode cX7_isRight 8 = .ok (.ireturn, 1) := by decide +kernel
theorem dX7_isRight_9 : decode cX7_isRight 9 = .ok (.iconst 0, 1) := by decide +kernel
theorem dX7_isRight_10 : decode cX7_isRight 10 = .ok (.istore_n 2, 1) := by decide +kernel
theorem dX7_isRight_11 : decode cX7_isRight 11 = .ok (.iconst 0, 1) := by decide +kernel
theorem dX7_isRight_12 : decode cX7_isRight 12 = .ok (.istore_n 3, 1) := by decide +kernel
theorem dX7_isRight_13 : decode cX7_isRight 13 = .ok (.iload_n 3, 1) := by decide +kernel
theorem dX7_isRight_14 : decode cX7_isRight 14 = .ok (.bipush 21, 2) := by decide +kernel
theorem dX7_isRight_16 : decode cX7_isRight 16 = .ok (.if_icmp .ge 20, 3) := by decide +kernel
theorem dX7_isRight_19 : decode cX7_isRight 19 = .ok (.iload_n 2, 1) := by decide +kernel
theorem dX7_isRight_20 : decode cX7_isRight 20 = .ok (.aload_n 0, 1) := by decide +kernel
theorem dX7_isRight_21 : decode cX7_isRight 21 = .ok (.getfield 11, 3) := by decide +kernel
theorem dX7_isRight_24 : decode cX7_isRight 24 = .ok (.iload_n 1, 1) := by decide +kernel
theorem dX7_isRight_25 : decode cX7_isRight 25 = .ok (.aaload, 1) := by decide +kernel
theorem dX7_isRight_26 : decode cX7_isRight 26 = .ok (.iload_n 3, 1) := by decide +kernel
theorem dX7_isRight_27 : decode cX7_isRight 27 = .ok (.iaload, 1) := by decide +kernel
theorem dX7_isRight_28 : decode cX7_isRight 28 = .ok (.iadd, 1) := by decide +kernel
theorem dX7_isRight_29 : decode cX7_isRight 29 = .ok (.istore_n 2, 1) := by decide +kernel
theorem dX7_isRight_30 : decode cX7_isRight 30 = .ok (.iinc 3 1, 3) := by decide +kernel
theorem dX7_isRight_33 : decode cX7_isRight 33 = .ok (.goto (-20), 3) := by decide +kernel
theorem dX7_isRight_36 : decode cX7_isRight 36 = .ok (.iload_n 2, 1) := by decide +kernel
theorem dX7_isRight_37 : decode cX7_isRight 37 = .ok (.sipush 1000, 3) := by decide +kernel
theorem dX7_isRight_40 : decode cX7_isRight 40 = .ok (.if_icmp .ne 7, 3) := by decide +kernel
theorem dX7_isRight_43 : decode cX7_isRight 43 = .ok (.iconst 1, 1) := by decide +kernel
theorem dX7_isRight_44 : decode cX7_isRight 44 = .ok (.goto 4, 3) := by decide +kernel
theorem dX7_isRight_47 : decode cX7_isRight 47 = .ok (.iconst 0, 1) := by decide +kernel
theorem dX7_isRight_48 : decode cX7_isRight 48 = .ok (.ireturn, 1) := by decide +kernel
theorem dX7_set_0 : decode cX7_set 0 = .ok (.iload_n 1, 1) := by decide +kernel
theorem dX7_set_1 : decode cX7_set 1 = .ok (.invokestatic 84, 3) := by decide +kernel
theorem dX7_set_4 : decode cX7_set 4 = .ok (.ifCond .eq 24, 3) := by decide +kernel
theorem dX7_set_7 : decode cX7_set 7 = .ok (.iload_n 2, 1) := by decide +kernel
theorem dX7_set_8 : decode cX7_set 8 = .ok (.iconst 0, 1) := by decide +kernel
theorem dX7_set_9 : decode cX7_set 9 = .ok (.bipush 20, 2) := by decide +kernel
theorem dX7_set_11 : decode cX7_set 11 = .ok (.invokestatic 80, 3) := by decide +kernel
theorem dX7_set_14 : decode cX7_set 14 = .ok (.ifCond .eq 14, 3) := by decide +kernel
theorem dX7_set_17 : decode cX7_set 17 = .ok (.iload_n 3, 1) := by decide +kernel
theorem dX7_set_18 : decode cX7_set 18 = .ok (.iconst 0, 1) := by decide +kernel
theorem dX7_set_19 : decode cX7_set 19 = .ok (.sipush 1000, 3) := by decide +kernel
theorem dX7_set_22 : decode cX7_set 22 = .ok (.invokestatic 80, 3) := by decide +kernel
theorem dX7_set_25 : decode cX7_set 25 = .ok (.ifCond .ne 5, 3) := by decide +kernel
theorem dX7_set_28 : decode cX7_set 28 = .ok (.iconst 0, 1) := by decide +kernel
theorem dX7_set_29 : decode cX7_set 29 = .ok (.ireturn, 1) := by decide +kernel
theorem dX7_set_30 : decode cX7_set 30 = .ok (.aload_n 0, 1) := by decide +kernel
theorem dX7_set_31 : decode cX7_set 31 = .ok (.getfield 11, 3) := by decide +kernel
theorem dX7_set_34 : decode cX7_set 34 = .ok (.iload_n 1, 1) := by decide +kernel
theorem dX7_set_35 : decode cX7_set 35 = .ok (.aaload, 1) := by decide +kernel
theorem dX7_set_36 : decode cX7_set 36 = .ok (.iload_n 2, 1) := by decide +kernel
theorem dX7_set_37 : decode cX7_set 37 = .ok (.iload_n 3, 1) := by decide +kernel
theorem dX7_set_38 : decode cX7_set 38 = .ok (.iastore, 1) := by decide +kernel
theorem dX7_set_39 : decode cX7_set 39 = .ok (.iconst 1, 1) := by decide +kernel
theorem dX7_set_40 : decode cX7_set 40 = .ok (.ireturn, 1) := by decide +kernel
theorem dX7_parts_0 : decode cX7_parts 0 = .ok (.iload_n 1, 1) := by decide +kernel
theorem dX7_parts_1 : decode cX7_parts 1 = .ok (.invokestatic 84, 3) := by decide +kernel
theorem dX7_parts_4 : decode cX7_parts 4 = .ok (.ifCond .eq 24, 3) := by decide +kernel
theorem dX7_parts_7 : decode cX7_parts 7 = .ok (.iload_n 2, 1) := by decide +kernel
theorem dX7_parts_8 : decode cX7_parts 8 = .ok (.iconst 0, 1) := by decide +kernel
theorem dX7_parts_9 : decode cX7_parts 9 = .ok (.bipush 20, 2) := by decide +kernel
theorem dX7_parts_11 : decode cX7_parts 11 = .ok (.invokestatic 80, 3) := by decide +kernel
theorem dX7_parts_14 : decode cX7_parts 14 = .ok (.ifCond .eq 14, 3) := by decide +kernel
theorem dX7_parts_17 : decode cX7_parts 17 = .ok (.aload_n 0, 1) := by decide +kernel
theorem dX7_parts_18 : decode cX7_parts 18 = .ok (.getfield 11, 3) := by decide +kernel
theorem dX7_parts_21 : decode cX7_parts 21 = .ok (.iload_n 1, 1) := by decide +kernel
theorem dX7_parts_22 : decode cX7_parts 22 = .ok (.aaload, 1) := by decide +kernel
theorem dX7_parts_23 : decode cX7_parts 23 = .ok (.iload_n 2, 1) := by decide +kernel
theorem dX7_parts_24 : decode cX7_parts 24 = .ok (.iaload, 1) := by decide +kernel
theorem dX7_parts_25 : decode cX7_parts 25 = .ok (.goto 4, 3) := by decide +kernel
theorem dX7_parts_28 : decode cX7_parts 28 = .ok (.iconst (-1), 1) := by decide +kernel
theorem dX7_parts_29 : decode cX7_parts 29 = .ok (.ireturn, 1) := by decide +kernel
theorem dX7_right_0 : decode cX7_right 0 = .ok (.aload_n 0, 1) := by decide +kernel
theorem dX7_right_1 : decode cX7_right 1 = .ok (.iload_n 1, 1) := by decide +kernel
theorem dX7_right_2 : decode cX7_right 2 = .ok (.invokevirtual 88, 3) := by decide +kernel
theorem dX7_right_5 : decode cX7_right 5 = .ok (.ireturn, 1) := by decide +kernel
theorem dX7_mean_0 : decode cX7_mean 0 = .ok (.iconst 0, 1) := by decide +kernel
theorem dX7_mean_1 : decode cX7_mean 1 = .ok (.istore_n 2, 1) := by decide +kernel
theorem dX7_mean_2 : decode cX7_mean 2 = .ok (.iconst 0, 1) := by decide +kernel
theorem dX7_mean_3 : decode cX7_mean 3 = .ok (.istore_n 3, 1) := by decide +kernel
theorem dX7_mean_4 : decode cX7_mean 4 = .ok (.iload_n 3, 1) := by decide +kernel
theorem dX7_mean_5 : decode cX7_mean 5 = .ok (.bipush 21, 2) := by decide +kernel
theorem dX7_mean_7 : decode cX7_mean 7 = .ok (.if_icmp .ge 22, 3) := by decide +kernel
theorem dX7_mean_10 : decode cX7_mean 10 = .ok (.iload_n 2, 1) := by decide +kernel
theorem dX7_mean_11 : decode cX7_mean 11 = .ok (.iload_n 3, 1) := by decide +kernel
theorem dX7_mean_12 : decode cX7_mean 12 = .ok (.aload_n 0, 1) := by decide +kernel
theorem dX7_mean_13 : decode cX7_mean 13 = .ok (.getfield 11, 3) := by decide +kernel
theorem dX7_mean_16 : decode cX7_mean 16 = .ok (.iload_n 1, 1) := by decide +kernel
theorem dX7_mean_17 : decode cX7_mean 17 = .ok (.aaload, 1) := by decide +kernel
theorem dX7_mean_18 : decode cX7_mean 18 = .ok (.iload_n 3, 1) := by decide +kernel
theorem dX7_mean_19 : decode cX7_mean 19 = .ok (.iaload, 1) := by decide +kernel
theorem dX7_mean_20 : decode cX7_mean 20 = .ok (.imul, 1) := by decide +kernel
theorem dX7_mean_21 : decode cX7_mean 21 = .ok (.iadd, 1) := by decide +kernel
theorem dX7_mean_22 : decode cX7_mean 22 = .ok (.istore_n 2, 1) := by decide +kernel
theorem dX7_mean_23 : decode cX7_mean 23 = .ok (.iinc 3 1, 3) := by decide +kernel
theorem dX7_mean_26 : decode cX7_mean 26 = .ok (.goto (-22), 3) := by decide +kernel
theorem dX7_mean_29 : decode cX7_mean 29 = .ok (.iload_n 2, 1) := by decide +kernel
theorem dX7_mean_30 : decode cX7_mean 30 = .ok (.ireturn, 1) := by decide +kernel
theorem dX7_stop_0 : decode cX7_stop 0 = .ok (.iconst 0, 1) := by decide +kernel
theorem dX7_stop_1 : decode cX7_stop 1 = .ok (.istore_n 3, 1) := by decide +kernel
theorem dX7_stop_2 : decode cX7_stop 2 = .ok (.iload_n 2, 1) := by decide +kernel
theorem dX7_stop_3 : decode cX7_stop 3 = .ok (.iconst 1, 1) := by decide +kernel
theorem dX7_stop_4 : decode cX7_stop 4 = .ok (.iadd, 1) := by decide +kernel
theorem dX7_stop_5 : decode cX7_stop 5 = .ok (.istore 4, 2) := by decide +kernel
theorem dX7_stop_7 : decode cX7_stop 7 = .ok (.iload 4, 2) := by decide +kernel
theorem dX7_stop_9 : decode cX7_stop 9 = .ok (.bipush 21, 2) := by decide +kernel
theorem dX7_stop_11 : decode cX7_stop 11 = .ok (.if_icmp .ge 26, 3) := by decide +kernel
theorem dX7_stop_14 : decode cX7_stop 14 = .ok (.iload_n 3, 1) := by decide +kernel
theorem dX7_stop_15 : decode cX7_stop 15 = .ok (.iload 4, 2) := by decide +kernel
theorem dX7_stop_17 : decode cX7_stop 17 = .ok (.iload_n 2, 1) := by decide +kernel
theorem dX7_stop_18 : decode cX7_stop 18 = .ok (.isub, 1) := by decide +kernel
theorem dX7_stop_19 : decode cX7_stop 19 = .ok (.aload_n 0, 1) := by decide +kernel
theorem dX7_stop_20 : decode cX7_stop 20 = .ok (.getfield 11, 3) := by decide +kernel
theorem dX7_stop_23 : decode cX7_stop 23 = .ok (.iload_n 1, 1) := by decide +kernel
theorem dX7_stop_24 : decode cX7_stop 24 = .ok (.aaload, 1) := by decide +kernel
theorem dX7_stop_25 : decode cX7_stop 25 = .ok (.iload 4, 2) := by decide +kernel
theorem dX7_stop_27 : decode cX7_stop 27 = .ok (.iaload, 1) := by decide +kernel
theorem dX7_stop_28 : decode cX7_stop 28 = .ok (.imul, 1) := by decide +kernel
theorem dX7_stop_29 : decode cX7_stop 29 = .ok (.iadd, 1) := by decide +kernel
theorem dX7_stop_30 : decode cX7_stop 30 = .ok (.istore_n 3, 1) := by decide +kernel
theorem dX7_stop_31 : decode cX7_stop 31 = .ok (.iinc 4 1, 3) := by decide +kernel
theorem dX7_stop_34 : decode cX7_stop 34 = .ok (.goto (-27), 3) := by decide +kernel
theorem dX7_stop_37 : decode cX7_stop 37 = .ok (.iload_n 3, 1) := by decide +kernel
theorem dX7_stop_38 : decode cX7_stop 38 = .ok (.ireturn, 1) := by decide +kernel
theorem dX7_told_0 : decode cX7_told 0 = .ok (.aload_n 0, 1) := by decide +kernel
theorem dX7_told_1 : decode cX7_told 1 = .ok (.iload_n 1, 1) := by decide +kernel
theorem dX7_told_2 : decode cX7_told 2 = .ok (.invokevirtual 88, 3) := by decide +kernel
theorem dX7_told_5 : decode cX7_told 5 = .ok (.ifCond .ne 5, 3) := by decide +kernel
theorem dX7_told_8 : decode cX7_told 8 = .ok (.iconst (-1), 1) := by decide +kernel
theorem dX7_told_9 : decode cX7_told 9 = .ok (.ireturn, 1) := by decide +kernel
theorem dX7_told_10 : decode cX7_told 10 = .ok (.iload_n 2, 1) := by decide +kernel
theorem dX7_told_11 : decode cX7_told 11 = .ok (.ifCond .ne 9, 3) := by decide +kernel
theorem dX7_told_14 : decode cX7_told 14 = .ok (.aload_n 0, 1) := by decide +kernel
theorem dX7_told_15 : decode cX7_told 15 = .ok (.iload_n 1, 1) := by decide +kernel
theorem dX7_told_16 : decode cX7_told 16 = .ok (.invokevirtual 91, 3) := by decide +kernel
theorem dX7_told_19 : decode cX7_told 19 = .ok (.ireturn, 1) := by decide +kernel
theorem dX7_told_20 : decode cX7_told 20 = .ok (.iload_n 2, 1) := by decide +kernel
theorem dX7_told_21 : decode cX7_told 21 = .ok (.iconst 2, 1) := by decide +kernel
theorem dX7_told_22 : decode cX7_told 22 = .ok (.if_icmp .ne 24, 3) := by decide +kernel
theorem dX7_told_25 : decode cX7_told 25 = .ok (.iload_n 3, 1) := by decide +kernel
theorem dX7_told_26 : decode cX7_told 26 = .ok (.iconst 0, 1) := by decide +kernel
theorem dX7_told_27 : decode cX7_told 27 = .ok (.bipush 20, 2) := by decide +kernel
theorem dX7_told_29 : decode cX7_told 29 = .ok (.invokestatic 80, 3) := by decide +kernel
theorem dX7_told_32 : decode cX7_told 32 = .ok (.ifCond .eq 12, 3) := by decide +kernel
