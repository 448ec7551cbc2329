theorem dX9_init_0 : decode cX9_init 0 = .ok (.aload_n 0, 1) := by decide +kernel
theorem dX9_init_1 : decode cX9_init 1 = .ok (.invokespecial 1, 3) := by decide +kernel
theorem dX9_init_4 : decode cX9_init 4 = .ok (.aload_n 0, 1) := by decide +kernel
theorem dX9_init_5 : decode cX9_init 5 = .ok (.new 7, 3) := by decide +kernel
theorem dX9_init_8 : decode cX9_init 8 = .ok (.dup, 1) := by decide +kernel
theorem dX9_init_9 : decode cX9_init 9 = .ok (.invokespecial 9, 3) := by decide +kernel
theorem dX9_init_12 : decode cX9_init 12 = .ok (.putfield 10, 3) := by decide +kernel
theorem dX9_init_15 : decode cX9_init 15 = .ok (.aload_n 0, 1) := by decide +kernel
theorem dX9_init_16 : decode cX9_init 16 = .ok (.iconst 3, 1) := by decide +kernel
theorem dX9_init_17 : decode cX9_init 17 = .ok (.anewarray 16, 3) := by decide +kernel
theorem dX9_init_20 : decode cX9_init 20 = .ok (.putfield 18, 3) := by decide +kernel
theorem dX9_init_23 : decode cX9_init 23 = .ok (.iconst 0, 1) := by decide +kernel
theorem dX9_init_24 : decode cX9_init 24 = .ok (.istore_n 1, 1) := by decide +kernel
theorem dX9_init_25 : decode cX9_init 25 = .ok (.iload_n 1, 1) := by decide +kernel
theorem dX9_init_26 : decode cX9_init 26 = .ok (.iconst 3, 1) := by decide +kernel
theorem dX9_init_27 : decode cX9_init 27 = .ok (.if_icmp .ge 26, 3) := by decide +kernel
theorem dX9_init_30 : decode cX9_init 30 = .ok (.aload_n 0, 1) := by decide +kernel
theorem dX9_init_31 : decode cX9_init 31 = .ok (.getfield 18, 3) := by decide +kernel
theorem dX9_init_34 : decode cX9_init 34 = .ok (.iload_n 1, 1) := by decide +kernel
theorem dX9_init_35 : decode cX9_init 35 = .ok (.new 16, 3) := by decide +kernel
theorem dX9_init_38 : decode cX9_init 38 = .ok (.dup, 1) := by decide +kernel
theorem dX9_init_39 : decode cX9_init 39 = .ok (.aload_n 0, 1) := by decide +kernel
theorem dX9_init_40 : decode cX9_init 40 = .ok (.getfield 10, 3) := by decide +kernel
theorem dX9_init_43 : decode cX9_init 43 = .ok (.invokespecial 22, 3) := by decide +kernel
theorem dX9_init_46 : decode cX9_init 46 = .ok (.aastore, 1) := by decide +kernel
theorem dX9_init_47 : decode cX9_init 47 = .ok (.iinc 1 1, 3) := by decide +kernel
theorem dX9_init_50 : decode cX9_init 50 = .ok (.goto (-25), 3) := by decide +kernel
theorem dX9_init_53 : decode cX9_init 53 = .ok (.aload_n 0, 1) := by decide +kernel
theorem dX9_init_54 : decode cX9_init 54 = .ok (.new 16, 3) := by decide +kernel
theorem dX9_init_57 : decode cX9_init 57 = .ok (.dup, 1) := by decide +kernel
theorem dX9_init_58 : decode cX9_init 58 = .ok (.aload_n 0, 1) := by decide +kernel
theorem dX9_init_59 : decode cX9_init 59 = .ok (.getfield 10, 3) := by decide +kernel
theorem dX9_init_62 : decode cX9_init 62 = .ok (.invokespecial 22, 3) := by decide +kernel
theorem dX9_init_65 : decode cX9_init 65 = .ok (.putfield 25, 3) := by decide +kernel
theorem dX9_init_68 : decode cX9_init 68 = .ok (.aload_n 0, 1) := by decide +kernel
theorem dX9_init_69 : decode cX9_init 69 = .ok (.new 29, 3) := by decide +kernel
theorem dX9_init_72 : decode cX9_init 72 = .ok (.dup, 1) := by decide +kernel
theorem dX9_init_73 : decode cX9_init 73 = .ok (.invokespecial 31, 3) := by decide +kernel
theorem dX9_init_76 : decode cX9_init 76 = .ok (.putfield 32, 3) := by decide +kernel
theorem dX9_init_79 : decode cX9_init 79 = .ok (.aload_n 0, 1) := by decide +kernel
theorem dX9_init_80 : decode cX9_init 80 = .ok (.new 36, 3) := by decide +kernel
theorem dX9_init_83 : decode cX9_init 83 = .ok (.dup, 1) := by decide +kernel
theorem dX9_init_84 : decode cX9_init 84 = .ok (.invokespecial 38, 3) := by decide +kernel
theorem dX9_init_87 : decode cX9_init 87 = .ok (.putfield 39, 3) := by decide +kernel
theorem dX9_init_90 : decode cX9_init 90 = .ok (.aload_n 0, 1) := by decide +kernel
theorem dX9_init_91 : decode cX9_init 91 = .ok (.new 43, 3) := by decide +kernel
theorem dX9_init_94 : decode cX9_init 94 = .ok (.dup, 1) := by decide +kernel
theorem dX9_init_95 : decode cX9_init 95 = .ok (.invokespecial 45, 3) := by decide +kernel
theorem dX9_init_98 : decode cX9_init 98 = .ok (.putfield 46, 3) := by decide +kernel
theorem dX9_init_101 : decode cX9_init 101 = .ok (.aload_n 0, 1) := by decide +kernel
theorem dX9_init_102 : decode cX9_init 102 = .ok (.new 43, 3) := by decide +kernel
theorem dX9_init_105 : decode cX9_init 105 = .ok (.dup, 1) := by decide +kernel
theorem dX9_init_106 : decode cX9_init 106 = .ok (.invokespecial 45, 3) := by decide +kernel
theorem dX9_init_109 : decode cX9_init 109 = .ok (.putfield 50, 3) := by decide +kernel
theorem dX9_init_112 : decode cX9_init 112 = .ok (.aload_n 0, 1) := by decide +kernel
theorem dX9_init_113 : decode cX9_init 113 = .ok (.new 43, 3) := by decide +kernel
theorem dX9_init_116 : decode cX9_init 116 = .ok (.dup, 1) := by decide +kernel
theorem dX9_init_117 : decode cX9_init 117 = .ok (.invokespecial 45, 3) := by decide +kernel
theorem dX9_init_120 : decode cX9_init 120 = .ok (.putfield 53, 3) := by decide +kernel
theorem dX9_init_123 : decode cX9_init 123 = .ok (.aload_n 0, 1) := by decide +kernel
theorem dX9_init_124 : decode cX9_init 124 = .ok (.bipush 40, 2) := by decide +kernel
theorem dX9_init_126 : decode cX9_init 126 = .ok (.newarray .int, 2) := by decide +kernel
theorem dX9_init_128 : decode cX9_init 128 = .ok (.putfield 56, 3) := by decide +kernel
theorem dX9_init_131 : decode cX9_init 131 = .ok (.aload_n 0, 1) := by decide +kernel
theorem dX9_init_132 : decode cX9_init 132 = .ok (.bipush 40, 2) := by decide +kernel
theorem dX9_init_134 : decode cX9_init 134 = .ok (.newarray .int, 2) := by decide +kernel
theorem dX9_init_136 : decode cX9_init 136 = .ok (.putfield 60, 3) := by decide +kernel
theorem dX9_init_139 : decode cX9_init 139 = .ok (.aload_n 0, 1) := by decide +kernel
theorem dX9_init_140 : decode cX9_init 140 = .ok (.iconst (-1), 1) := by decide +kernel
theorem dX9_init_141 : decode cX9_init 141 = .ok (.putfield 63, 3) := by decide +kernel
theorem dX9_init_144 : decode cX9_init 144 = .ok (.return_, 1) := by decide +kernel
theorem dX9_row_0 : decode cX9_row 0 = .ok (.iload_n 1, 1) := by decide +kernel
theorem dX9_row_1 : decode cX9_row 1 = .ok (.invokestatic 67, 3) := by decide +kernel
theorem dX9_row_4 : decode cX9_row 4 = .ok (.ifCond .eq 12, 3) := by decide +kernel
theorem dX9_row_7 : decode cX9_row 7 = .ok (.iload_n 2, 1) := by decide +kernel
theorem dX9_row_8 : decode cX9_row 8 = .ok (.ifCond .lt 8, 3) := by decide +kernel
theorem dX9_row_11 : decode cX9_row 11 = .ok (.iload_n 2, 1) := by decide +kernel
theorem dX9_row_12 : decode cX9_row 12 = .ok (.iconst 4, 1) := by decide +kernel
theorem dX9_row_13 : decode cX9_row 13 = .ok (.if_icmp .lt 10, 3) := by decide +kernel
theorem dX9_row_16 : decode cX9_row 16 = .ok (.aload_n 0, 1) := by decide +kernel
theorem dX9_row_17 : decode cX9_row 17 = .ok (.bipush (-2), 2) := by decide +kernel
theorem dX9_row_19 : decode cX9_row 19 = .ok (.invokevirtual 71, 3) := by decide +kernel
theorem dX9_row_22 : decode cX9_row 22 = .ok (.ireturn, 1) := by decide +kernel
theorem dX9_row_23 : decode cX9_row 23 = .ok (.iload_n 3, 1) := by decide +kernel
theorem dX9_row_24 : decode cX9_row 24 = .ok (.iconst 4, 1) := by decide +kernel
theorem dX9_row_25 : decode cX9_row 25 = .ok (.if_icmp .le 10, 3) := by decide +kernel
theorem dX9_row_28 : decode cX9_row 28 = .ok (.aload_n 0, 1) := by decide +kernel
theorem dX9_row_29 : decode cX9_row 29 = .ok (.bipush (-3), 2) := by decide +kernel
theorem dX9_row_31 : decode cX9_row 31 = .ok (.invokevirtual 71, 3) := by decide +kernel
theorem dX9_row_34 : decode cX9_row 34 = .ok (.ireturn, 1) := by decide +kernel
theorem dX9_row_35 : decode cX9_row 35 = .ok (.iload_n 3, 1) := by decide +kernel
theorem dX9_row_36 : decode cX9_row 36 = .ok (.iconst (-1), 1) := by decide +kernel
theorem dX9_row_37 : decode cX9_row 37 = .ok (.if_icmp .ge 16, 3) := by decide +kernel
theorem dX9_row_40 : decode cX9_row 40 = .ok (.aload_n 0, 1) := by decide +kernel
theorem dX9_row_41 : decode cX9_row 41 = .ok (.aload_n 0, 1) := by decide +kernel
theorem dX9_row_42 : decode cX9_row 42 = .ok (.getfield 10, 3) := by decide +kernel
theorem dX9_row_45 : decode cX9_row 45 = .ok (.iconst 4, 1) := by decide +kernel
theorem dX9_row_46 : decode cX9_row 46 = .ok (.invokevirtual 75, 3) := by decide +kernel
theorem dX9_row_49 : decode cX9_row 49 = .ok (.invokevirtual 71, 3) := by decide +kernel
theorem dX9_row_52 : decode cX9_row 52 = .ok (.ireturn, 1) := by decide +kernel
theorem dX9_row_53 : decode cX9_row 53 = .ok (.aload_n 0, 1) := by decide +kernel
theorem dX9_row_54 : decode cX9_row 54 = .ok (.getfield 18, 3) := by decide +kernel
theorem dX9_row_57 : decode cX9_row 57 = .ok (.iload_n 1, 1) := by decide +kernel
theorem dX9_row_58 : decode cX9_row 58 = .ok (.aaload, 1) := by decide +kernel
theorem dX9_row_59 : decode cX9_row 59 = .ok (.iload_n 2, 1) := by decide +kernel
theorem dX9_row_60 : decode cX9_row 60 = .ok (.iload_n 3, 1) := by decide +kernel
theorem dX9_row_61 : decode cX9_row 61 = .ok (.invokevirtual 78, 3) := by decide +kernel
theorem dX9_row_64 : decode cX9_row 64 = .ok (.aload_n 0, 1) := by decide +kernel
theorem dX9_row_65 : decode cX9_row 65 = .ok (.iload_n 1, 1) := by decide +kernel
theorem dX9_row_66 : decode cX9_row 66 = .ok (.iconst 1, 1) := by decide +kernel
theorem dX9_row_67 : decode cX9_row 67 = .ok (.invokevirtual 82, 3) := by decide +kernel
theorem dX9_row_70 : decode cX9_row 70 = .ok (.ireturn, 1) := by decide +kernel
theorem dX9_part_0 : decode cX9_part 0 = .ok (.iload_n 1, 1) := by decide +kernel
theorem dX9_part_1 : decode cX9_part 1 = .ok (.invokestatic 67, 3) := by decide +kernel
theorem dX9_part_4 : decode cX9_part 4 = .ok (.ifCond .ne 10, 3) := by decide +kernel
theorem dX9_part_7 : decode cX9_part 7 = .ok (.aload_n 0, 1) := by decide +kernel
theorem dX9_part_8 : decode cX9_part 8 = .ok (.bipush (-2), 2) := by decide +kernel
theorem dX9_part_10 : decode cX9_part 10 = .ok (.invokevirtual 71, 3) := by decide +kernel
theorem dX9_part_13 : decode cX9_part 13 = .ok (.ireturn, 1) := by decide +kernel
theorem dX9_part_14 : decode cX9_part 14 = .ok (.iload_n 2, 1) := by decide +kernel
theorem dX9_part_15 : decode cX9_part 15 = .ok (.invokestatic 86, 3) := by decide +kernel
theorem dX9_part_18 : decode cX9_part 18 = .ok (.ifCond .eq 14, 3) := by decide +kernel
theorem dX9_part_21 : decode cX9_part 21 = .ok (.iload_n 3, 1) := by decide +kernel
theorem dX9_part_22 : decode cX9_part 22 = .ok (.iload 4, 2) := by decide +kernel
theorem dX9_part_24 : decode cX9_part 24 = .ok (.iload 5, 2) := by decide +kernel
theorem dX9_part_26 : decode cX9_part 26 = .ok (.invokestatic 89, 3) := by decide +kernel
theorem dX9_part_29 : decode cX9_part 29 = .ok (.ifCond .ne 10, 3) := by decide +kernel
theorem dX9_part_32 : decode cX9_part 32 = .ok (.aload_n 0, 1) := by decide +kernel
theorem dX9_part_33 : decode cX9_part 33 = .ok (.bipush (-3), 2) := by decide +kernel
theorem dX9_part_35 : decode cX9_part 35 = .ok (.invokevirtual 71, 3) := by decide +kernel
theorem dX9_part_38 : decode cX9_part 38 = .ok (.ireturn, 1) := by decide +kernel
theorem dX9_part_39 : decode cX9_part 39 = .ok (.aload_n 0, 1) := by decide +kernel
theorem dX9_part_40 : decode cX9_part 40 = .ok (.getfield 18, 3) := by decide +kernel
theorem dX9_part_43 : decode cX9_part 43 = .ok (.iload_n 1, 1) := by decide +kernel
theorem dX9_part_44 : decode cX9_part 44 = .ok (.aaload, 1) := by decide +kernel
theorem dX9_part_45 : decode cX9_part 45 = .ok (.astore 6, 2) := by decide +kernel
theorem dX9_part_47 : decode cX9_part 47 = .ok (.aload 6, 2) := by decide +kernel
theorem dX9_part_49 : decode cX9_part 49 = .ok (.iload_n 2, 1) := by decide +kernel
theorem dX9_part_50 : decode cX9_part 50 = .ok (.iconst 0, 1) := by decide +kernel
theorem dX9_part_51 : decode cX9_part 51 = .ok (.invokevirtual 93, 3) := by decide +kernel
theorem dX9_part_54 : decode cX9_part 54 = .ok (.istore 7, 2) := by decide +kernel
theorem dX9_part_56 : decode cX9_part 56 = .ok (.iload 7, 2) := by decide +kernel
theorem dX9_part_58 : decode cX9_part 58 = .ok (.ifCond .eq 17, 3) := by decide +kernel
theorem dX9_part_61 : decode cX9_part 61 = .ok (.aload_n 0, 1) := by decide +kernel
theorem dX9_part_62 : decode cX9_part 62 = .ok (.aload_n 0, 1) := by decide +kernel
theorem dX9_part_63 : decode cX9_part 63 = .ok (.getfield 10, 3) := by decide +kernel
theorem dX9_part_66 : decode cX9_part 66 = .ok (.iload 7, 2) := by decide +kernel
theorem dX9_part_68 : decode cX9_part 68 = .ok (.invokevirtual 75, 3) := by decide +kernel
theorem dX9_part_71 : decode cX9_part 71 = .ok (.invokevirtual 71, 3) := by decide +kernel
theorem dX9_part_74 : decode cX9_part 74 = .ok (.ireturn, 1) := by decide +kernel
theorem dX9_part_75 : decode cX9_part 75 = .ok (.aload 6, 2) := by decide +kernel
theorem dX9_part_77 : decode cX9_part 77 = .ok (.iload_n 2, 1) := by decide +kernel
theorem dX9_part_78 : decode cX9_part 78 = .ok (.iload 4, 2) := by decide +kernel
theorem dX9_part_80 : decode cX9_part 80 = .ok (.invokevirtual 97, 3) := by decide +kernel
theorem dX9_part_83 : decode cX9_part 83 = .ok (.sipush 1024, 3) := by decide +kernel
theorem dX9_part_86 : decode cX9_part 86 = .ok (.if_icmp .le 10, 3) := by decide +kernel
theorem dX9_part_89 : decode cX9_part 89 = .ok (.aload_n 0, 1) := by decide +kernel
theorem dX9_part_90 : decode cX9_part 90 = .ok (.bipush (-5), 2) := by decide +kernel
theorem dX9_part_92 : decode cX9_part 92 = .ok (.invokevirtual 71, 3) := by decide +kernel
theorem dX9_part_95 : decode cX9_part 95 = .ok (.ireturn, 1) := by decide +kernel
theorem dX9_part_96 : decode cX9_part 96 = .ok (.aload 6, 2) := by decide +kernel
theorem dX9_part_98 : decode cX9_part 98 = .ok (.iload_n 2, 1) := by decide +kernel
theorem dX9_part_99 : decode cX9_part 99 = .ok (.iload_n 3, 1) := by decide +kernel
theorem dX9_part_100 : decode cX9_part 100 = .ok (.iload 4, 2) := by decide +kernel
theorem dX9_part_102 : decode cX9_part 102 = .ok (.iload 5, 2) := by decide +kernel
theorem dX9_part_104 : decode cX9_part 104 = .ok (.invokevirtual 100, 3) := by decide +kernel
theorem dX9_part_107 : decode cX9_part 107 = .ok (.aload_n 0, 1) := by decide +kernel
theorem dX9_part_108 : decode cX9_part 108 = .ok (.iload_n 1, 1) := by decide +kernel
theorem dX9_part_109 : decode cX9_part 109 = .ok (.aload 6, 2) := by decide +kernel
theorem dX9_part_111 : decode cX9_part 111 = .ok (.getfield 104, 3) := by decide +kernel
theorem dX9_part_114 : decode cX9_part 114 = .ok (.invokevirtual 82, 3) := by decide +kernel
theorem dX9_part_117 : decode cX9_part 117 = .ok (.ireturn, 1) := by decide +kernel
theorem dX9_take_0 : decode cX9_take 0 = .ok (.aload_n 0, 1) := by decide +kernel
theorem dX9_take_1 : decode cX9_take 1 = .ok (.iload_n 1, 1) := by decide +kernel
theorem dX9_take_2 : decode cX9_take 2 = .ok (.iload_n 2, 1) := by decide +kernel
theorem dX9_take_3 : decode cX9_take 3 = .ok (.invokevirtual 107, 3) := by decide +kernel
theorem dX9_take_6 : decode cX9_take 6 = .ok (.istore_n 3, 1) := by decide +kernel
theorem dX9_take_7 : decode cX9_take 7 = .ok (.iload_n 3, 1) := by decide +kernel
theorem dX9_take_8 : decode cX9_take 8 = .ok (.ifCond .eq 9, 3) := by decide +kernel
theorem dX9_take_11 : decode cX9_take 11 = .ok (.aload_n 0, 1) := by decide +kernel
theorem dX9_take_12 : decode cX9_take 12 = .ok (.iload_n 3, 1) := by decide +kernel
theorem dX9_take_13 : decode cX9_take 13 = .ok (.invokevirtual 71, 3) := by decide +kernel
theorem dX9_take_16 : decode cX9_take 16 = .ok (.ireturn, 1) := by decide +kernel
theorem dX9_take_17 : decode cX9_take 17 = .ok (.aload_n 0, 1) := by decide +kernel
theorem dX9_take_18 : decode cX9_take 18 = .ok (.getfield 18, 3) := by decide +kernel
theorem dX9_take_21 : decode cX9_take 21 = .ok (.iload_n 1, 1) := by decide +kernel
theorem dX9_take_22 : decode cX9_take 22 = .ok (.aaload, 1) := by decide +kernel
theorem dX9_take_23 : decode cX9_take 23 = .ok (.iload_n 2, 1) := by decide +kernel
theorem dX9_take_24 : decode cX9_take 24 = .ok (.invokevirtual 110, 3) := by decide +kernel
theorem dX9_take_27 : decode cX9_take 27 = .ok (.aload_n 0, 1) := by decide +kernel
theorem dX9_take_28 : decode cX9_take 28 = .ok (.iload_n 1, 1) := by decide +kernel
theorem dX9_take_29 : decode cX9_take 29 = .ok (.aload_n 0, 1) := by decide +kernel
theorem dX9_take_30 : decode cX9_take 30 = .ok (.getfield 18, 3) := by decide +kernel
theorem dX9_take_33 : decode cX9_take 33 = .ok (.iload_n 1, 1) := by decide +kernel
theorem dX9_take_34 : decode cX9_take 34 = .ok (.aaload, 1) := by decide +kernel
theorem dX9_take_35 : decode cX9_take 35 = .ok (.getfield 104, 3) := by decide +kernel
theorem dX9_take_38 : decode cX9_take 38 = .ok (.invokevirtual 82, 3) := by decide +kernel
theorem dX9_take_41 : decode cX9_take 41 = .ok (.ireturn, 1) := by decide +kernel
theorem dX9_condition_0 : decode cX9_condition 0 = .ok (.iload_n 1, 1) := by decide +kernel
theorem dX9_condition_1 : decode cX9_condition 1 = .ok (.invokestatic 67, 3) := by decide +kernel
theorem dX9_condition_4 : decode cX9_condition 4 = .ok (.ifCond .ne 10, 3) := by decide +kernel
theorem dX9_condition_7 : decode cX9_condition 7 = .ok (.aload_n 0, 1) := by decide +kernel
theorem dX9_condition_8 : decode cX9_condition 8 = .ok (.bipush (-2), 2) := by decide +kernel
theorem dX9_condition_10 : decode cX9_condition 10 = .ok (.invokevirtual 71, 3) := by decide +kernel
theorem dX9_condition_13 : decode cX9_condition 13 = .ok (.ireturn, 1) := by decide +kernel
theorem dX9_condition_14 : decode cX9_condition 14 = .ok (.iload_n 2, 1) := by decide +kernel
theorem dX9_condition_15 : decode cX9_condition 15 = .ok (.iconst (-1), 1) := by decide +kernel
theorem dX9_condition_16 : decode cX9_condition 16 = .ok (.if_icmp .eq 10, 3) := by decide +kernel
theorem dX9_condition_19 : decode cX9_condition 19 = .ok (.iload_n 2, 1) := by decide +kernel
theorem dX9_condition_20 : decode cX9_condition 20 = .ok (.invokestatic 86, 3) := by decide +kernel
theorem dX9_condition_23 : decode cX9_condition 23 = .ok (.ifCond .eq 17, 3) := by decide +kernel
theorem dX9_condition_26 : decode cX9_condition 26 = .ok (.iload_n 3, 1) := by decide +kernel
theorem dX9_condition_27 : decode cX9_condition 27 = .ok (.invokestatic 86, 3) := by decide +kernel
theorem dX9_condition_30 : decode cX9_condition 30 = .ok (.ifCond .eq 10, 3) := by decide +kernel
theorem dX9_condition_33 : decode cX9_condition 33 = .ok (.iload 4, 2) := by decide +kernel
theorem dX9_condition_35 : decode cX9_condition 35 = .ok (.bipush 6, 2) := by decide +kernel
theorem dX9_condition_37 : decode cX9_condition 37 = .ok (.if_icmp .le 10, 3) := by decide +kernel
theorem dX9_condition_40 : decode cX9_condition 40 = .ok (.aload_n 0, 1) := by decide +kernel
theorem dX9_condition_41 : decode cX9_condition 41 = .ok (.bipush (-3), 2) := by decide +kernel
theorem dX9_condition_43 : decode cX9_condition 43 = .ok (.invokevirtual 71, 3) := by decide +kernel
theorem dX9_condition_46 : decode cX9_condition 46 = .ok (.ireturn, 1) := by decide +kernel
theorem dX9_condition_47 : decode cX9_condition 47 = .ok (.iload 4, 2) := by decide +kernel
theorem dX9_condition_49 : decode cX9_condition 49 = .ok (.iconst (-1), 1) := by decide +kernel
theorem dX9_condition_50 : decode cX9_condition 50 = .ok (.if_icmp .ge 16, 3) := by decide +kernel
theorem dX9_condition_53 : decode cX9_condition 53 = .ok (.aload_n 0, 1) := by decide +kernel
theorem dX9_condition_54 : decode cX9_condition 54 = .ok (.aload_n 0, 1) := by decide +kernel
theorem dX9_condition_55 : decode cX9_condition 55 = .ok (.getfield 10, 3) := by decide +kernel
theorem dX9_condition_58 : decode cX9_condition 58 = .ok (.iconst 4, 1) := by decide +kernel
theorem dX9_condition_59 : decode cX9_condition 59 = .ok (.invokevirtual 75, 3) := by decide +kernel
theorem dX9_condition_62 : decode cX9_condition 62 = .ok (.invokevirtual 71, 3) := by decide +kernel
theorem dX9_condition_65 : decode cX9_condition 65 = .ok (.ireturn, 1) := by decide +kernel
theorem dX9_condition_66 : decode cX9_condition 66 = .ok (.aload_n 0, 1) := by decide +kernel
theorem dX9_condition_67 : decode cX9_condition 67 = .ok (.getfield 18, 3) := by decide +kernel
theorem dX9_condition_70 : decode cX9_condition 70 = .ok (.iload_n 1, 1) := by decide +kernel
theorem dX9_condition_71 : decode cX9_condition 71 = .ok (.aaload, 1) := by decide +kernel
theorem dX9_condition_72 : decode cX9_condition 72 = .ok (.astore 5, 2) := by decide +kernel
theorem dX9_condition_74 : decode cX9_condition 74 = .ok (.aload 5, 2) := by decide +kernel
theorem dX9_condition_76 : decode cX9_condition 76 = .ok (.getfield 114, 3) := by decide +kernel
theorem dX9_condition_79 : decode cX9_condition 79 = .ok (.getfield 118, 3) := by decide +kernel
theorem dX9_condition_82 : decode cX9_condition 82 = .ok (.bipush 40, 2) := by decide +kernel
theorem dX9_condition_84 : decode cX9_condition 84 = .ok (.if_icmp .lt 10, 3) := by decide +kernel
theorem dX9_condition_87 : decode cX9_condition 87 = .ok (.aload_n 0, 1) := by decide +kernel
theorem dX9_condition_88 : decode cX9_condition 88 = .ok (.bipush (-5), 2) := by decide +kernel
theorem dX9_condition_90 : decode cX9_condition 90 = .ok (.invokevirtual 71, 3) := by decide +kernel
theorem dX9_condition_93 : decode cX9_condition 93 = .ok (.ireturn, 1) := by decide +kernel
theorem dX9_condition_94 : decode cX9_condition 94 = .ok (.aload_n 0, 1) := by decide +kernel
theorem dX9_condition_95 : decode cX9_condition 95 = .ok (.iload_n 1, 1) := by decide +kernel
theorem dX9_condition_96 : decode cX9_condition 96 = .ok (.aload 5, 2) := by decide +kernel
theorem dX9_condition_98 : decode cX9_condition 98 = .ok (.iload_n 2, 1) := by decide +kernel
theorem dX9_condition_99 : decode cX9_condition 99 = .ok (.iload_n 3, 1) := by decide +kernel
theorem dX9_condition_100 : decode cX9_condition 100 = .ok (.iload 4, 2) := by decide +kernel
theorem dX9_condition_102 : decode cX9_condition 102 = .ok (.invokevirtual 123, 3) := by decide +kernel
theorem dX9_condition_105 : decode cX9_condition 105 = .ok (.invokevirtual 82, 3) := by decide +kernel
theorem dX9_condition_108 : decode cX9_condition 108 = .ok (.ireturn, 1) := by decide +kernel
theorem dX9_truth_0 : decode cX9_truth 0 = .ok (.aload_n 0, 1) := by decide +kernel
theorem dX9_truth_1 : decode cX9_truth 1 = .ok (.iload_n 1, 1) := by decide +kernel
theorem dX9_truth_2 : decode cX9_truth 2 = .ok (.iload_n 2, 1) := by decide +kernel
theorem dX9_truth_3 : decode cX9_truth 3 = .ok (.invokevirtual 127, 3) := by decide +kernel
theorem dX9_truth_6 : decode cX9_truth 6 = .ok (.ifCond .ne 10, 3) := by decide +kernel
theorem dX9_truth_9 : decode cX9_truth 9 = .ok (.aload_n 0, 1) := by decide +kernel
theorem dX9_truth_10 : decode cX9_truth 10 = .ok (.bipush (-2), 2) := by decide +kernel
theorem dX9_truth_12 : decode cX9_truth 12 = .ok (.invokevirtual 71, 3) := by decide +kernel
theorem dX9_truth_15 : decode cX9_truth 15 = .ok (.ireturn, 1) := by decide +kernel
theorem dX9_truth_16 : decode cX9_truth 16 = .ok (.aload_n 0, 1) := by decide +kernel
theorem dX9_truth_17 : decode cX9_truth 17 = .ok (.getfield 18, 3) := by decide +kernel
theorem dX9_truth_20 : decode cX9_truth 20 = .ok (.iload_n 1, 1) := by decide +kernel
theorem dX9_truth_21 : decode cX9_truth 21 = .ok (.aaload, 1) := by decide +kernel
theorem dX9_truth_22 : decode cX9_truth 22 = .ok (.astore 5, 2) := by decide +kernel
theorem dX9_truth_24 : decode cX9_truth 24 = .ok (.aload 5, 2) := by decide +kernel
theorem dX9_truth_26 : decode cX9_truth 26 = .ok (.getfield 114, 3) := by decide +kernel
theorem dX9_truth_29 : decode cX9_truth 29 = .ok (.iload_n 2, 1) := by decide +kernel
theorem dX9_truth_30 : decode cX9_truth 30 = .ok (.iload_n 3, 1) := by decide +kernel
theorem dX9_truth_31 : decode cX9_truth 31 = .ok (.iconst 1, 1) := by decide +kernel
theorem dX9_truth_32 : decode cX9_truth 32 = .ok (.invokevirtual 131, 3) := by decide +kernel
theorem dX9_truth_35 : decode cX9_truth 35 = .ok (.istore 6, 2) := by decide +kernel
theorem dX9_truth_37 : decode cX9_truth 37 = .ok (.iload 6, 2) := by decide +kernel
theorem dX9_truth_39 : decode cX9_truth 39 = .ok (.ifCond .eq 17, 3) := by decide +kernel
theorem dX9_truth_42 : decode cX9_truth 42 = .ok (.aload_n 0, 1) := by decide +kernel
theorem dX9_truth_43 : decode cX9_truth 43 = .ok (.aload_n 0, 1) := by decide +kernel
theorem dX9_truth_44 : decode cX9_truth 44 = .ok (.getfield 10, 3) := by decide +kernel
theorem dX9_truth_47 : decode cX9_truth 47 = .ok (.iload 6, 2) := by decide +kernel
theorem dX9_truth_49 : decode cX9_truth 49 = .ok (.invokevirtual 75, 3) := by decide +kernel
theorem dX9_truth_52 : decode cX9_truth 52 = .ok (.invokevirtual 71, 3) := by decide +kernel
theorem dX9_truth_55 : decode cX9_truth 55 = .ok (.ireturn, 1) := by decide +kernel
theorem dX9_truth_56 : decode cX9_truth 56 = .ok (.aload 5, 2) := by decide +kernel
theorem dX9_truth_58 : decode cX9_truth 58 = .ok (.getfield 114, 3) := by decide +kernel
theorem dX9_truth_61 : decode cX9_truth 61 = .ok (.iload_n 2, 1) := by decide +kernel
theorem dX9_truth_62 : decode cX9_truth 62 = .ok (.iload_n 3, 1) := by decide +kernel
theorem dX9_truth_63 : decode cX9_truth 63 = .ok (.invokevirtual 134, 3) := by decide +kernel
theorem dX9_truth_66 : decode cX9_truth 66 = .ok (.istore 7, 2) := by decide +kernel
theorem dX9_truth_68 : decode cX9_truth 68 = .ok (.aload 5, 2) := by decide +kernel
theorem dX9_truth_70 : decode cX9_truth 70 = .ok (.iload_n 2, 1) := by decide +kernel
theorem dX9_truth_71 : decode cX9_truth 71 = .ok (.iload_n 3, 1) := by decide +kernel
theorem dX9_truth_72 : decode cX9_truth 72 = .ok (.iconst 1, 1) := by decide +kernel
theorem dX9_truth_73 : decode cX9_truth 73 = .ok (.iload 4, 2) := by decide +kernel
theorem dX9_truth_75 : decode cX9_truth 75 = .ok (.ifCond .eq 7, 3) := by decide +kernel
theorem dX9_truth_78 : decode cX9_truth 78 = .ok (.iconst 1, 1) := by decide +kernel
theorem dX9_truth_79 : decode cX9_truth 79 = .ok (.goto 4, 3) := by decide +kernel
theorem dX9_truth_82 : decode cX9_truth 82 = .ok (.iconst 0, 1) := by decide +kernel
theorem dX9_truth_83 : decode cX9_truth 83 = .ok (.invokevirtual 137, 3) := by decide +kernel
theorem dX9_truth_86 : decode cX9_truth 86 = .ok (.aload_n 0, 1) := by decide +kernel
theorem dX9_truth_87 : decode cX9_truth 87 = .ok (.iload_n 1, 1) := by decide +kernel
theorem dX9_truth_88 : decode cX9_truth 88 = .ok (.iload 7, 2) := by decide +kernel
theorem dX9_truth_90 : decode cX9_truth 90 = .ok (.invokevirtual 82, 3) := by decide +kernel
theorem dX9_truth_93 : decode cX9_truth 93 = .ok (.ireturn, 1) := by decide +kernel
theorem dX9_copyTruths_0 : decode cX9_copyTruths 0 = .ok (.aload_n 0, 1) := by decide +kernel
theorem dX9_copyTruths_1 : decode cX9_copyTruths 1 = .ok (.iload_n 1, 1) := by decide +kernel
theorem dX9_copyTruths_2 : decode cX9_copyTruths 2 = .ok (.iload_n 2, 1) := by decide +kernel
theorem dX9_copyTruths_3 : decode cX9_copyTruths 3 = .ok (.invokevirtual 127, 3) := by decide +kernel
theorem dX9_copyTruths_6 : decode cX9_copyTruths 6 = .ok (.ifCond .eq 13, 3) := by decide +kernel
theorem dX9_copyTruths_9 : decode cX9_copyTruths 9 = .ok (.aload_n 0, 1) := by decide +kernel
theorem dX9_copyTruths_10 : decode cX9_copyTruths 10 = .ok (.iload_n 1, 1) := by decide +kernel
theorem dX9_copyTruths_11 : decode cX9_copyTruths 11 = .ok (.iload 4, 2) := by decide +kernel
theorem dX9_copyTruths_13 : decode cX9_copyTruths 13 = .ok (.invokevirtual 127, 3) := by decide +kernel
theorem dX9_copyTruths_16 : decode cX9_copyTruths 16 = .ok (.ifCond .ne 10, 3) := by decide +kernel
theorem dX9_copyTruths_19 : decode cX9_copyTruths 19 = .ok (.aload_n 0, 1) := by decide +kernel
theorem dX9_copyTruths_20 : decode cX9_copyTruths 20 = .ok (.bipush (-2), 2) := by decide +kernel
theorem dX9_copyTruths_22 : decode cX9_copyTruths 22 = .ok (.invokevirtual 71, 3) := by decide +kernel
theorem dX9_copyTruths_25 : decode cX9_copyTruths 25 = .ok (.ireturn, 1) := by decide +kernel
theorem dX9_copyTruths_26 : decode cX9_copyTruths 26 = .ok (.aload_n 0, 1) := by decide +kernel
theorem dX9_copyTruths_27 : decode cX9_copyTruths 27 = .ok (.getfield 18, 3) := by decide +kernel
theorem dX9_copyTruths_30 : decode cX9_copyTruths 30 = .ok (.iload_n 1, 1) := by decide +kernel
theorem dX9_copyTruths_31 : decode cX9_copyTruths 31 = .ok (.aaload, 1) := by decide +kernel
theorem dX9_copyTruths_32 : decode cX9_copyTruths 32 = .ok (.astore 7, 2) := by decide +kernel
theorem dX9_copyTruths_34 : decode cX9_copyTruths 34 = .ok (.aload 7, 2) := by decide +kernel
theorem dX9_copyTruths_36 : decode cX9_copyTruths 36 = .ok (.getfield 114, 3) := by decide +kernel
theorem dX9_copyTruths_39 : decode cX9_copyTruths 39 = .ok (.getfield 140, 3) := by decide +kernel
theorem dX9_copyTruths_42 : decode cX9_copyTruths 42 = .ok (.iload_n 2, 1) := by decide +kernel
theorem dX9_copyTruths_43 : decode cX9_copyTruths 43 = .ok (.iaload, 1) := by decide +kernel
theorem dX9_copyTruths_44 : decode cX9_copyTruths 44 = .ok (.iconst (-1), 1) := by decide +kernel
theorem dX9_copyTruths_45 : decode cX9_copyTruths 45 = .ok (.if_icmp .eq 18, 3) := by decide +kernel
theorem dX9_copyTruths_48 : decode cX9_copyTruths 48 = .ok (.aload 7, 2) := by decide +kernel
theorem dX9_copyTruths_50 : decode cX9_copyTruths 50 = .ok (.getfield 114, 3) := by decide +kernel
theorem dX9_copyTruths_53 : decode cX9_copyTruths 53 = .ok (.getfield 140, 3) := by decide +kernel
theorem dX9_copyTruths_56 : decode cX9_copyTruths 56 = .ok (.iload 4, 2) := by decide +kernel
theorem dX9_copyTruths_58 : decode cX9_copyTruths 58 = .ok (.iaload, 1) := by decide +kernel
theorem dX9_copyTruths_59 : decode cX9_copyTruths 59 = .ok (.iconst (-1), 1) := by decide +kernel
theorem dX9_copyTruths_60 : decode cX9_copyTruths 60 = .ok (.if_icmp .ne 16, 3) := by decide +kernel
theorem dX9_copyTruths_63 : decode cX9_copyTruths 63 = .ok (.aload_n 0, 1) := by decide +kernel
theorem dX9_copyTruths_64 : decode cX9_copyTruths 64 = .ok (.aload_n 0, 1) := by decide +kernel
theorem dX9_copyTruths_65 : decode cX9_copyTruths 65 = .ok (.getfield 10, 3) := by decide +kernel
theorem dX9_copyTruths_68 : decode cX9_copyTruths 68 = .ok (.iconst 1, 1) := by decide +kernel
theorem dX9_copyTruths_69 : decode cX9_copyTruths 69 = .ok (.invokevirtual 75, 3) := by decide +kernel
theorem dX9_copyTruths_72 : decode cX9_copyTruths 72 = .ok (.invokevirtual 71, 3) := by decide +kernel
theorem dX9_copyTruths_75 : decode cX9_copyTruths 75 = .ok (.ireturn, 1) := by decide +kernel
theorem dX9_copyTruths_76 : decode cX9_copyTruths 76 = .ok (.aload 7, 2) := by decide +kernel
theorem dX9_copyTruths_78 : decode cX9_copyTruths 78 = .ok (.getfield 114, 3) := by decide +kernel
theorem dX9_copyTruths_81 : decode cX9_copyTruths 81 = .ok (.iload_n 2, 1) := by decide +kernel
theorem dX9_copyTruths_82 : decode cX9_copyTruths 82 = .ok (.iload_n 3, 1) := by decide +kernel
theorem dX9_copyTruths_83 : decode cX9_copyTruths 83 = .ok (.iload 6, 2) := by decide +kernel
theorem dX9_copyTruths_85 : decode cX9_copyTruths 85 = .ok (.invokevirtual 131, 3) := by decide +kernel
theorem dX9_copyTruths_88 : decode cX9_copyTruths 88 = .ok (.ifCond .ne 20, 3) := by decide +kernel
theorem dX9_copyTruths_91 : decode cX9_copyTruths 91 = .ok (.aload 7, 2) := by decide +kernel
theorem dX9_copyTruths_93 : decode cX9_copyTruths 93 = .ok (.getfield 114, 3) := by decide +kernel
theorem dX9_copyTruths_96 : decode cX9_copyTruths 96 = .ok (.iload 4, 2) := by decide +kernel
theorem dX9_copyTruths_98 : decode cX9_copyTruths 98 = .ok (.iload 5, 2) := by decide +kernel
theorem dX9_copyTruths_100 : decode cX9_copyTruths 100 = .ok (.iload 6, 2) := by decide +kernel
theorem dX9_copyTruths_102 : decode cX9_copyTruths 102 = .ok (.invokevirtual 131, 3) := by decide +kernel
theorem dX9_copyTruths_105 : decode cX9_copyTruths 105 = .ok (.ifCond .eq 16, 3) := by decide +kernel
theorem dX9_copyTruths_108 : decode cX9_copyTruths 108 = .ok (.aload_n 0, 1) := by decide +kernel
theorem dX9_copyTruths_109 : decode cX9_copyTruths 109 = .ok (.aload_n 0, 1) := by decide +kernel
theorem dX9_copyTruths_110 : decode cX9_copyTruths 110 = .ok (.getfield 10, 3) := by decide +kernel
theorem dX9_copyTruths_113 : decode cX9_copyTruths 113 = .ok (.iconst 2, 1) := by decide +kernel
theorem dX9_copyTruths_114 : decode cX9_copyTruths 114 = .ok (.invokevirtual 75, 3) := by decide +kernel
theorem dX9_copyTruths_117 : decode cX9_copyTruths 117 = .ok (.invokevirtual 71, 3) := by decide +kernel
theorem dX9_copyTruths_120 : decode cX9_copyTruths 120 = .ok (.ireturn, 1) := by decide +kernel
theorem dX9_copyTruths_121 : decode cX9_copyTruths 121 = .ok (.aload 7, 2) := by decide +kernel
theorem dX9_copyTruths_123 : decode cX9_copyTruths 123 = .ok (.iload_n 2, 1) := by decide +kernel
theorem dX9_copyTruths_124 : decode cX9_copyTruths 124 = .ok (.iload_n 3, 1) := by decide +kernel
theorem dX9_copyTruths_125 : decode cX9_copyTruths 125 = .ok (.iload 6, 2) := by decide +kernel
theorem dX9_copyTruths_127 : decode cX9_copyTruths 127 = .ok (.aload 7, 2) := by decide +kernel
theorem dX9_copyTruths_129 : decode cX9_copyTruths 129 = .ok (.getfield 114, 3) := by decide +kernel
theorem dX9_copyTruths_132 : decode cX9_copyTruths 132 = .ok (.getfield 143, 3) := by decide +kernel
theorem dX9_copyTruths_135 : decode cX9_copyTruths 135 = .ok (.iload 4, 2) := by decide +kernel
theorem dX9_copyTruths_137 : decode cX9_copyTruths 137 = .ok (.iaload, 1) := by decide +kernel
theorem dX9_copyTruths_138 : decode cX9_copyTruths 138 = .ok (.iload 5, 2) := by decide +kernel
theorem dX9_copyTruths_140 : decode cX9_copyTruths 140 = .ok (.ishr, 1) := by decide +kernel
theorem dX9_copyTruths_141 : decode cX9_copyTruths 141 = .ok (.invokevirtual 137, 3) := by decide +kernel
theorem dX9_copyTruths_144 : decode cX9_copyTruths 144 = .ok (.aload_n 0, 1) := by decide +kernel
theorem dX9_copyTruths_145 : decode cX9_copyTruths 145 = .ok (.iload_n 1, 1) := by decide +kernel
theorem dX9_copyTruths_146 : decode cX9_copyTruths 146 = .ok (.iload 6, 2) := by decide +kernel
theorem dX9_copyTruths_148 : decode cX9_copyTruths 148 = .ok (.invokevirtual 82, 3) := by decide +kernel
theorem dX9_copyTruths_151 : decode cX9_copyTruths 151 = .ok (.ireturn, 1) := by decide +kernel
theorem dX9_jam_0 : decode cX9_jam 0 = .ok (.iload_n 1, 1) := by decide +kernel
theorem dX9_jam_1 : decode cX9_jam 1 = .ok (.invokestatic 67, 3) := by decide +kernel
theorem dX9_jam_4 : decode cX9_jam 4 = .ok (.ifCond .ne 10, 3) := by decide +kernel
theorem dX9_jam_7 : decode cX9_jam 7 = .ok (.aload_n 0, 1) := by decide +kernel
theorem dX9_jam_8 : decode cX9_jam 8 = .ok (.bipush (-2), 2) := by decide +kernel
theorem dX9_jam_10 : decode cX9_jam 10 = .ok (.invokevirtual 71, 3) := by decide +kernel
theorem dX9_jam_13 : decode cX9_jam 13 = .ok (.ireturn, 1) := by decide +kernel
theorem dX9_jam_14 : decode cX9_jam 14 = .ok (.iload_n 2, 1) := by decide +kernel
theorem dX9_jam_15 : decode cX9_jam 15 = .ok (.ifCond .lt 21, 3) := by decide +kernel
theorem dX9_jam_18 : decode cX9_jam 18 = .ok (.iload_n 2, 1) := by decide +kernel
theorem dX9_jam_19 : decode cX9_jam 19 = .ok (.bipush 99, 2) := by decide +kernel
theorem dX9_jam_21 : decode cX9_jam 21 = .ok (.if_icmp .gt 15, 3) := by decide +kernel
theorem dX9_jam_24 : decode cX9_jam 24 = .ok (.iload_n 3, 1) := by decide +kernel
theorem dX9_jam_25 : decode cX9_jam 25 = .ok (.iconst (-1), 1) := by decide +kernel
theorem dX9_jam_26 : decode cX9_jam 26 = .ok (.if_icmp .eq 17, 3) := by decide +kernel
theorem dX9_jam_29 : decode cX9_jam 29 = .ok (.iload_n 3, 1) := by decide +kernel
theorem dX9_jam_30 : decode cX9_jam 30 = .ok (.invokestatic 86, 3) := by decide +kernel
theorem dX9_jam_33 : decode cX9_jam 33 = .ok (.ifCond .ne 10, 3) := by decide +kernel
theorem dX9_jam_36 : decode cX9_jam 36 = .ok (.aload_n 0, 1) := by decide +kernel
theorem dX9_jam_37 : decode cX9_jam 37 = .ok (.bipush (-3), 2) := by decide +kernel
theorem dX9_jam_39 : decode cX9_jam 39 = .ok (.invokevirtual 71, 3) := by decide +kernel
theorem dX9_jam_42 : decode cX9_jam 42 = .ok (.ireturn, 1) := by decide +kernel
theorem dX9_jam_43 : decode cX9_jam 43 = .ok (.aload_n 0, 1) := by decide +kernel
theorem dX9_jam_44 : decode cX9_jam 44 = .ok (.getfield 18, 3) := by decide +kernel
theorem dX9_jam_47 : decode cX9_jam 47 = .ok (.iload_n 1, 1) := by decide +kernel
theorem dX9_jam_48 : decode cX9_jam 48 = .ok (.aaload, 1) := by decide +kernel
theorem dX9_jam_49 : decode cX9_jam 49 = .ok (.astore 4, 2) := by decide +kernel
theorem dX9_jam_51 : decode cX9_jam 51 = .ok (.aload 4, 2) := by decide +kernel
theorem dX9_jam_53 : decode cX9_jam 53 = .ok (.getfield 146, 3) := by decide +kernel
theorem dX9_jam_56 : decode cX9_jam 56 = .ok (.istore 5, 2) := by decide +kernel
theorem dX9_jam_58 : decode cX9_jam 58 = .ok (.aload 4, 2) := by decide +kernel
theorem dX9_jam_60 : decode cX9_jam 60 = .ok (.iload_n 2, 1) := by decide +kernel
theorem dX9_jam_61 : decode cX9_jam 61 = .ok (.putfield 146, 3) := by decide +kernel
theorem dX9_jam_64 : decode cX9_jam 64 = .ok (.aload 4, 2) := by decide +kernel
theorem dX9_jam_66 : decode cX9_jam 66 = .ok (.iload_n 3, 1) := by decide +kernel
theorem dX9_jam_67 : decode cX9_jam 67 = .ok (.putfield 149, 3) := by decide +kernel
theorem dX9_jam_70 : decode cX9_jam 70 = .ok (.aload_n 0, 1) := by decide +kernel
theorem dX9_jam_71 : decode cX9_jam 71 = .ok (.iload 5, 2) := by decide +kernel
theorem dX9_jam_73 : decode cX9_jam 73 = .ok (.invokevirtual 152, 3) := by decide +kernel
theorem dX9_jam_76 : decode cX9_jam 76 = .ok (.ireturn, 1) := by decide +kernel
theorem dX9_clear_0 : decode cX9_clear 0 = .ok (.iload_n 1, 1) := by decide +kernel
theorem dX9_clear_1 : decode cX9_clear 1 = .ok (.invokestatic 67, 3) := by decide +kernel
theorem dX9_clear_4 : decode cX9_clear 4 = .ok (.ifCond .ne 10, 3) := by decide +kernel
theorem dX9_clear_7 : decode cX9_clear 7 = .ok (.aload_n 0, 1) := by decide +kernel
theorem dX9_clear_8 : decode cX9_clear 8 = .ok (.bipush (-2), 2) := by decide +kernel
theorem dX9_clear_10 : decode cX9_clear 10 = .ok (.invokevirtual 71, 3) := by decide +kernel
theorem dX9_clear_13 : decode cX9_clear 13 = .ok (.ireturn, 1) := by decide +kernel
theorem dX9_clear_14 : decode cX9_clear 14 = .ok (.aload_n 0, 1) := by decide +kernel
theorem dX9_clear_15 : decode cX9_clear 15 = .ok (.getfield 18, 3) := by decide +kernel
theorem dX9_clear_18 : decode cX9_clear 18 = .ok (.iload_n 1, 1) := by decide +kernel
theorem dX9_clear_19 : decode cX9_clear 19 = .ok (.aaload, 1) := by decide +kernel
theorem dX9_clear_20 : decode cX9_clear 20 = .ok (.astore_n 2, 1) := by decide +kernel
theorem dX9_clear_21 : decode cX9_clear 21 = .ok (.aload_n 2, 1) := by decide +kernel
theorem dX9_clear_22 : decode cX9_clear 22 = .ok (.getfield 104, 3) := by decide +kernel
theorem dX9_clear_25 : decode cX9_clear 25 = .ok (.istore_n 3, 1) := by decide +kernel
theorem dX9_clear_26 : decode cX9_clear 26 = .ok (.aload_n 2, 1) := by decide +kernel
theorem dX9_clear_27 : decode cX9_clear 27 = .ok (.invokevirtual 155, 3) := by decide +kernel
theorem dX9_clear_30 : decode cX9_clear 30 = .ok (.aload_n 2, 1) := by decide +kernel
theorem dX9_clear_31 : decode cX9_clear 31 = .ok (.iconst 0, 1) := by decide +kernel
theorem dX9_clear_32 : decode cX9_clear 32 = .ok (.putfield 146, 3) := by decide +kernel
theorem dX9_clear_35 : decode cX9_clear 35 = .ok (.aload_n 2, 1) := by decide +kernel
theorem dX9_clear_36 : decode cX9_clear 36 = .ok (.iconst (-1), 1) := by decide +kernel
theorem dX9_clear_37 : decode cX9_clear 37 = .ok (.putfield 149, 3) := by decide +kernel
theorem dX9_clear_40 : decode cX9_clear 40 = .ok (.aload_n 0, 1) := by decide +kernel
theorem dX9_clear_41 : decode cX9_clear 41 = .ok (.iload_n 1, 1) := by decide +kernel
theorem dX9_clear_42 : decode cX9_clear 42 = .ok (.iload_n 3, 1) := by decide +kernel
theorem dX9_clear_43 : decode cX9_clear 43 = .ok (.invokevirtual 82, 3) := by decide +kernel
theorem dX9_clear_46 : decode cX9_clear 46 = .ok (.ireturn, 1) := by decide +kernel
theorem dX9_copy_0 : decode cX9_copy 0 = .ok (.iload_n 1, 1) := by decide +kernel
theorem dX9_copy_1 : decode cX9_copy 1 = .ok (.invokestatic 67, 3) := by decide +kernel
theorem dX9_copy_4 : decode cX9_copy 4 = .ok (.ifCond .eq 10, 3) := by decide +kernel
theorem dX9_copy_7 : decode cX9_copy 7 = .ok (.iload_n 2, 1) := by decide +kernel
theorem dX9_copy_8 : decode cX9_copy 8 = .ok (.invokestatic 67, 3) := by decide +kernel
theorem dX9_copy_11 : decode cX9_copy 11 = .ok (.ifCond .ne 10, 3) := by decide +kernel
theorem dX9_copy_14 : decode cX9_copy 14 = .ok (.aload_n 0, 1) := by decide +kernel
theorem dX9_copy_15 : decode cX9_copy 15 = .ok (.bipush (-2), 2) := by decide +kernel
theorem dX9_copy_17 : decode cX9_copy 17 = .ok (.invokevirtual 71, 3) := by decide +kernel
theorem dX9_copy_20 : decode cX9_copy 20 = .ok (.ireturn, 1) := by decide +kernel
theorem dX9_copy_21 : decode cX9_copy 21 = .ok (.aload_n 0, 1) := by decide +kernel
theorem dX9_copy_22 : decode cX9_copy 22 = .ok (.getfield 18, 3) := by decide +kernel
theorem dX9_copy_25 : decode cX9_copy 25 = .ok (.iload_n 2, 1) := by decide +kernel
theorem dX9_copy_26 : decode cX9_copy 26 = .ok (.aaload, 1) := by decide +kernel
theorem dX9_copy_27 : decode cX9_copy 27 = .ok (.astore_n 3, 1) := by decide +kernel
theorem dX9_copy_28 : decode cX9_copy 28 = .ok (.aload_n 3, 1) := by decide +kernel
theorem dX9_copy_29 : decode cX9_copy 29 = .ok (.aload_n 0, 1) := by decide +kernel
theorem dX9_copy_30 : decode cX9_copy 30 = .ok (.getfield 18, 3) := by decide +kernel
theorem dX9_copy_33 : decode cX9_copy 33 = .ok (.iload_n 1, 1) := by decide +kernel
theorem dX9_copy_34 : decode cX9_copy 34 = .ok (.aaload, 1) := by decide +kernel
theorem dX9_copy_35 : decode cX9_copy 35 = .ok (.invokevirtual 158, 3) := by decide +kernel
theorem dX9_copy_38 : decode cX9_copy 38 = .ok (.aload_n 3, 1) := by decide +kernel
theorem dX9_copy_39 : decode cX9_copy 39 = .ok (.aload_n 0, 1) := by decide +kernel
theorem dX9_copy_40 : decode cX9_copy 40 = .ok (.getfield 18, 3) := by decide +kernel
theorem dX9_copy_43 : decode cX9_copy 43 = .ok (.iload_n 1, 1) := by decide +kernel
theorem dX9_copy_44 : decode cX9_copy 44 = .ok (.aaload, 1) := by decide +kernel
theorem dX9_copy_45 : decode cX9_copy 45 = .ok (.getfield 146, 3) := by decide +kernel
theorem dX9_copy_48 : decode cX9_copy 48 = .ok (.putfield 146, 3) := by decide +kernel
theorem dX9_copy_51 : decode cX9_copy 51 = .ok (.aload_n 3, 1) := by decide +kernel
theorem dX9_copy_52 : decode cX9_copy 52 = .ok (.aload_n 0, 1) := by decide +kernel
theorem dX9_copy_53 : decode cX9_copy 53 = .ok (.getfield 18, 3) := by decide +kernel
theorem dX9_copy_56 : decode cX9_copy 56 = .ok (.iload_n 1, 1) := by decide +kernel
theorem dX9_copy_57 : decode cX9_copy 57 = .ok (.aaload, 1) := by decide +kernel
theorem dX9_copy_58 : decode cX9_copy 58 = .ok (.getfield 149, 3) := by decide +kernel
theorem dX9_copy_61 : decode cX9_copy 61 = .ok (.putfield 149, 3) := by decide +kernel
theorem dX9_copy_64 : decode cX9_copy 64 = .ok (.aload_n 0, 1) := by decide +kernel
theorem dX9_copy_65 : decode cX9_copy 65 = .ok (.iload_n 2, 1) := by decide +kernel
theorem dX9_copy_66 : decode cX9_copy 66 = .ok (.aload_n 3, 1) := by decide +kernel
theorem dX9_copy_67 : decode cX9_copy 67 = .ok (.getfield 104, 3) := by decide +kernel
theorem dX9_copy_70 : decode cX9_copy 70 = .ok (.invokevirtual 82, 3) := by decide +kernel
theorem dX9_copy_73 : decode cX9_copy 73 = .ok (.ireturn, 1) := by decide +kernel
theorem dX9_make_0 : decode cX9_make 0 = .ok (.iload_n 1, 1) := by decide +kernel
theorem dX9_make_1 : decode cX9_make 1 = .ok (.invokestatic 67, 3) := by decide +kernel
theorem dX9_make_4 : decode cX9_make 4 = .ok (.ifCond .ne 10, 3) := by decide +kernel
theorem dX9_make_7 : decode cX9_make 7 = .ok (.aload_n 0, 1) := by decide +kernel
theorem dX9_make_8 : decode cX9_make 8 = .ok (.bipush (-2), 2) := by decide +kernel
theorem dX9_make_10 : decode cX9_make 10 = .ok (.invokevirtual 71, 3) := by decide +kernel
theorem dX9_make_13 : decode cX9_make 13 = .ok (.ireturn, 1) := by decide +kernel
theorem dX9_make_14 : decode cX9_make 14 = .ok (.iload_n 3, 1) := by decide +kernel
theorem dX9_make_15 : decode cX9_make 15 = .ok (.ifCond .lt 9, 3) := by decide +kernel
theorem dX9_make_18 : decode cX9_make 18 = .ok (.iload_n 3, 1) := by decide +kernel
theorem dX9_make_19 : decode cX9_make 19 = .ok (.bipush 40, 2) := by decide +kernel
theorem dX9_make_21 : decode cX9_make 21 = .ok (.if_icmp .le 10, 3) := by decide +kernel
theorem dX9_make_24 : decode cX9_make 24 = .ok (.aload_n 0, 1) := by decide +kernel
theorem dX9_make_25 : decode cX9_make 25 = .ok (.bipush (-3), 2) := by decide +kernel
theorem dX9_make_27 : decode cX9_make 27 = .ok (.invokevirtual 71, 3) := by decide +kernel
theorem dX9_make_30 : decode cX9_make 30 = .ok (.ireturn, 1) := by decide +kernel
theorem dX9_make_31 : decode cX9_make 31 = .ok (.aload_n 0, 1) := by decide +kernel
theorem dX9_make_32 : decode cX9_make 32 = .ok (.invokevirtual 162, 3) := by decide +kernel
theorem dX9_make_35 : decode cX9_make 35 = .ok (.astore 4, 2) := by decide +kernel
theorem dX9_make_37 : decode cX9_make 37 = .ok (.iconst (-1), 1) := by decide +kernel
theorem dX9_make_38 : decode cX9_make 38 = .ok (.istore 5, 2) := by decide +kernel
theorem dX9_make_40 : decode cX9_make 40 = .ok (.iconst 0, 1) := by decide +kernel
theorem dX9_make_41 : decode cX9_make 41 = .ok (.istore 6, 2) := by decide +kernel
theorem dX9_make_43 : decode cX9_make 43 = .ok (.iload 6, 2) := by decide +kernel
theorem dX9_make_45 : decode cX9_make 45 = .ok (.bipush 6, 2) := by decide +kernel
theorem dX9_make_47 : decode cX9_make 47 = .ok (.if_icmp .ge 61, 3) := by decide +kernel
theorem dX9_make_50 : decode cX9_make 50 = .ok (.iload 5, 2) := by decide +kernel
theorem dX9_make_52 : decode cX9_make 52 = .ok (.iconst (-1), 1) := by decide +kernel
theorem dX9_make_53 : decode cX9_make 53 = .ok (.if_icmp .ne 55, 3) := by decide +kernel
theorem dX9_make_56 : decode cX9_make 56 = .ok (.aload_n 0, 1) := by decide +kernel
theorem dX9_make_57 : decode cX9_make 57 = .ok (.getfield 32, 3) := by decide +kernel
theorem dX9_make_60 : decode cX9_make 60 = .ok (.aload_n 0, 1) := by decide +kernel
theorem dX9_make_61 : decode cX9_make 61 = .ok (.getfield 25, 3) := by decide +kernel
theorem dX9_make_64 : decode cX9_make 64 = .ok (.iload_n 2, 1) := by decide +kernel
theorem dX9_make_65 : decode cX9_make 65 = .ok (.iload 6, 2) := by decide +kernel
theorem dX9_make_67 : decode cX9_make 67 = .ok (.iadd, 1) := by decide +kernel
theorem dX9_make_68 : decode cX9_make 68 = .ok (.invokevirtual 166, 3) := by decide +kernel
theorem dX9_make_71 : decode cX9_make 71 = .ok (.aload 4, 2) := by decide +kernel
theorem dX9_make_73 : decode cX9_make 73 = .ok (.aload_n 0, 1) := by decide +kernel
theorem dX9_make_74 : decode cX9_make 74 = .ok (.getfield 25, 3) := by decide +kernel
theorem dX9_make_77 : decode cX9_make 77 = .ok (.iconst (-1), 1) := by decide +kernel
theorem dX9_make_78 : decode cX9_make 78 = .ok (.invokevirtual 170, 3) := by decide +kernel
theorem dX9_make_81 : decode cX9_make 81 = .ok (.aload 4, 2) := by decide +kernel
theorem dX9_make_83 : decode cX9_make 83 = .ok (.sipush 1024, 3) := by decide +kernel
theorem dX9_make_86 : decode cX9_make 86 = .ok (.invokevirtual 175, 3) := by decide +kernel
theorem dX9_make_89 : decode cX9_make 89 = .ok (.aload 4, 2) := by decide +kernel
theorem dX9_make_91 : decode cX9_make 91 = .ok (.invokevirtual 178, 3) := by decide +kernel
theorem dX9_make_94 : decode cX9_make 94 = .ok (.iload_n 3, 1) := by decide +kernel
theorem dX9_make_95 : decode cX9_make 95 = .ok (.if_icmp .ne 7, 3) := by decide +kernel
theorem dX9_make_98 : decode cX9_make 98 = .ok (.iload 6, 2) := by decide +kernel
theorem dX9_make_100 : decode cX9_make 100 = .ok (.istore 5, 2) := by decide +kernel
theorem dX9_make_102 : decode cX9_make 102 = .ok (.iinc 6 1, 3) := by decide +kernel
theorem dX9_make_105 : decode cX9_make 105 = .ok (.goto (-62), 3) := by decide +kernel
theorem dX9_make_108 : decode cX9_make 108 = .ok (.aload 4, 2) := by decide +kernel
theorem dX9_make_110 : decode cX9_make 110 = .ok (.iconst 0, 1) := by decide +kernel
theorem dX9_make_111 : decode cX9_make 111 = .ok (.putfield 182, 3) := by decide +kernel
theorem dX9_make_114 : decode cX9_make 114 = .ok (.iload 5, 2) := by decide +kernel
theorem dX9_make_116 : decode cX9_make 116 = .ok (.iconst (-1), 1) := by decide +kernel
theorem dX9_make_117 : decode cX9_make 117 = .ok (.if_icmp .ne 9, 3) := by decide +kernel
theorem dX9_make_120 : decode cX9_make 120 = .ok (.aload_n 0, 1) := by decide +kernel
theorem dX9_make_121 : decode cX9_make 121 = .ok (.iconst (-1), 1) := by decide +kernel
theorem dX9_make_122 : decode cX9_make 122 = .ok (.invokevirtual 152, 3) := by decide +kernel
theorem dX9_make_125 : decode cX9_make 125 = .ok (.ireturn, 1) := by decide +kernel
theorem dX9_make_126 : decode cX9_make 126 = .ok (.aload_n 0, 1) := by decide +kernel
theorem dX9_make_127 : decode cX9_make 127 = .ok (.getfield 18, 3) := by decide +kernel
theorem dX9_make_130 : decode cX9_make 130 = .ok (.iload_n 1, 1) := by decide +kernel
theorem dX9_make_131 : decode cX9_make 131 = .ok (.aaload, 1) := by decide +kernel
theorem dX9_make_132 : decode cX9_make 132 = .ok (.aload_n 0, 1) := by decide +kernel
theorem dX9_make_133 : decode cX9_make 133 = .ok (.getfield 25, 3) := by decide +kernel
theorem dX9_make_136 : decode cX9_make 136 = .ok (.invokevirtual 158, 3) := by decide +kernel
theorem dX9_make_139 : decode cX9_make 139 = .ok (.aload_n 0, 1) := by decide +kernel
theorem dX9_make_140 : decode cX9_make 140 = .ok (.iload_n 1, 1) := by decide +kernel
theorem dX9_make_141 : decode cX9_make 141 = .ok (.iload 5, 2) := by decide +kernel
theorem dX9_make_143 : decode cX9_make 143 = .ok (.invokevirtual 82, 3) := by decide +kernel
theorem dX9_make_146 : decode cX9_make 146 = .ok (.ireturn, 1) := by decide +kernel
theorem dX9_told_0 : decode cX9_told 0 = .ok (.iload_n 1, 1) := by decide +kernel
theorem dX9_told_1 : decode cX9_told 1 = .ok (.invokestatic 67, 3) := by decide +kernel
theorem dX9_told_4 : decode cX9_told 4 = .ok (.ifCond .eq 12, 3) := by decide +kernel
theorem dX9_told_7 : decode cX9_told 7 = .ok (.iload_n 3, 1) := by decide +kernel
theorem dX9_told_8 : decode cX9_told 8 = .ok (.ifCond .lt 8, 3) := by decide +kernel
theorem dX9_told_11 : decode cX9_told 11 = .ok (.iload_n 3, 1) := by decide +kernel
theorem dX9_told_12 : decode cX9_told 12 = .ok (.iconst 3, 1) := by decide +kernel
theorem dX9_told_13 : decode cX9_told 13 = .ok (.if_icmp .le 10, 3) := by decide +kernel
theorem dX9_told_16 : decode cX9_told 16 = .ok (.aload_n 0, 1) := by decide +kernel
theorem dX9_told_17 : decode cX9_told 17 = .ok (.bipush (-2), 2) := by decide +kernel
theorem dX9_told_19 : decode cX9_told 19 = .ok (.invokevirtual 71, 3) := by decide +kernel
theorem dX9_told_22 : decode cX9_told 22 = .ok (.ireturn, 1) := by decide +kernel
theorem dX9_told_23 : decode cX9_told 23 = .ok (.aload_n 0, 1) := by decide +kernel
theorem dX9_told_24 : decode cX9_told 24 = .ok (.iload_n 1, 1) := by decide +kernel
theorem dX9_told_25 : decode cX9_told 25 = .ok (.iload_n 2, 1) := by decide +kernel
theorem dX9_told_26 : decode cX9_told 26 = .ok (.invokevirtual 107, 3) := by decide +kernel
theorem dX9_told_29 : decode cX9_told 29 = .ok (.istore 4, 2) := by decide +kernel
theorem dX9_told_31 : decode cX9_told 31 = .ok (.iload 4, 2) := by decide +kernel
theorem dX9_told_33 : decode cX9_told 33 = .ok (.ifCond .eq 10, 3) := by decide +kernel
theorem dX9_told_36 : decode cX9_told 36 = .ok (.aload_n 0, 1) := by decide +kernel
theorem dX9_told_37 : decode cX9_told 37 = .ok (.iload 4, 2) := by decide +kernel
theorem dX9_told_39 : decode cX9_told 39 = .ok (.invokevirtual 71, 3) := by decide +kernel
theorem dX9_told_42 : decode cX9_told 42 = .ok (.ireturn, 1) := by decide +kernel
theorem dX9_told_43 : decode cX9_told 43 = .ok (.aload_n 0, 1) := by decide +kernel
theorem dX9_told_44 : decode cX9_told 44 = .ok (.getfield 18, 3) := by decide +kernel
theorem dX9_told_47 : decode cX9_told 47 = .ok (.iload_n 1, 1) := by decide +kernel
theorem dX9_told_48 : decode cX9_told 48 = .ok (.aaload, 1) := by decide +kernel
theorem dX9_told_49 : decode cX9_told 49 = .ok (.astore 5, 2) := by decide +kernel
theorem dX9_told_51 : decode cX9_told 51 = .ok (.iload_n 3, 1) := by decide +kernel
theorem dX9_told_52 : decode cX9_told 52 = .ok (.tableswitch 64 0 2 #[28, 40, 52], 28) := by decide +kernel
theorem dX9_told_80 : decode cX9_told 80 = .ok (.aload_n 0, 1) := by decide +kernel
theorem dX9_told_81 : decode cX9_told 81 = .ok (.aload 5, 2) := by decide +kernel
theorem dX9_told_83 : decode cX9_told 83 = .ok (.getfield 186, 3) := by decide +kernel
theorem dX9_told_86 : decode cX9_told 86 = .ok (.iload_n 2, 1) := by decide +kernel
theorem dX9_told_87 : decode cX9_told 87 = .ok (.iaload, 1) := by decide +kernel
theorem dX9_told_88 : decode cX9_told 88 = .ok (.invokevirtual 152, 3) := by decide +kernel
theorem dX9_told_91 : decode cX9_told 91 = .ok (.ireturn, 1) := by decide +kernel
theorem dX9_told_92 : decode cX9_told 92 = .ok (.aload_n 0, 1) := by decide +kernel
theorem dX9_told_93 : decode cX9_told 93 = .ok (.aload 5, 2) := by decide +kernel
theorem dX9_told_95 : decode cX9_told 95 = .ok (.getfield 189, 3) := by decide +kernel
theorem dX9_told_98 : decode cX9_told 98 = .ok (.iload_n 2, 1) := by decide +kernel
theorem dX9_told_99 : decode cX9_told 99 = .ok (.iaload, 1) := by decide +kernel
theorem dX9_told_100 : decode cX9_told 100 = .ok (.invokevirtual 152, 3) := by decide +kernel
theorem dX9_told_103 : decode cX9_told 103 = .ok (.ireturn, 1) := by decide +kernel
theorem dX9_told_104 : decode cX9_told 104 = .ok (.aload_n 0, 1) := by decide +kernel
theorem dX9_told_105 : decode cX9_told 105 = .ok (.aload 5, 2) := by decide +kernel
theorem dX9_told_107 : decode cX9_told 107 = .ok (.getfield 192, 3) := by decide +kernel
theorem dX9_told_110 : decode cX9_told 110 = .ok (.iload_n 2, 1) := by decide +kernel
theorem dX9_told_111 : decode cX9_told 111 = .ok (.iaload, 1) := by decide +kernel
theorem dX9_told_112 : decode cX9_told 112 = .ok (.invokevirtual 152, 3) := by decide +kernel
theorem dX9_told_115 : decode cX9_told 115 = .ok (.ireturn, 1) := by decide +kernel
theorem dX9_told_116 : decode cX9_told 116 = .ok (.aload_n 0, 1) := by decide +kernel
theorem dX9_told_117 : decode cX9_told 117 = .ok (.aload 5, 2) := by decide +kernel
theorem dX9_told_119 : decode cX9_told 119 = .ok (.getfield 195, 3) := by decide +kernel
theorem dX9_told_122 : decode cX9_told 122 = .ok (.iload_n 2, 1) := by decide +kernel
theorem dX9_told_123 : decode cX9_told 123 = .ok (.iaload, 1) := by decide +kernel
theorem dX9_told_124 : decode cX9_told 124 = .ok (.invokevirtual 152, 3) := by decide +kernel
theorem dX9_told_127 : decode cX9_told 127 = .ok (.ireturn, 1) := by decide +kernel
theorem dX9_tell_0 : decode cX9_tell 0 = .ok (.aload_n 0, 1) := by decide +kernel
theorem dX9_tell_1 : decode cX9_tell 1 = .ok (.getfield 10, 3) := by decide +kernel
theorem dX9_tell_4 : decode cX9_tell 4 = .ok (.invokevirtual 198, 3) := by decide +kernel
theorem dX9_tell_7 : decode cX9_tell 7 = .ok (.aload_n 0, 1) := by decide +kernel
theorem dX9_tell_8 : decode cX9_tell 8 = .ok (.iload_n 1, 1) := by decide +kernel
theorem dX9_tell_9 : decode cX9_tell 9 = .ok (.iload_n 2, 1) := by decide +kernel
theorem dX9_tell_10 : decode cX9_tell 10 = .ok (.invokevirtual 107, 3) := by decide +kernel
theorem dX9_tell_13 : decode cX9_tell 13 = .ok (.istore_n 3, 1) := by decide +kernel
theorem dX9_tell_14 : decode cX9_tell 14 = .ok (.iload_n 3, 1) := by decide +kernel
theorem dX9_tell_15 : decode cX9_tell 15 = .ok (.ifCond .eq 9, 3) := by decide +kernel
theorem dX9_tell_18 : decode cX9_tell 18 = .ok (.aload_n 0, 1) := by decide +kernel
theorem dX9_tell_19 : decode cX9_tell 19 = .ok (.iload_n 3, 1) := by decide +kernel
theorem dX9_tell_20 : decode cX9_tell 20 = .ok (.invokevirtual 71, 3) := by decide +kernel
theorem dX9_tell_23 : decode cX9_tell 23 = .ok (.ireturn, 1) := by decide +kernel
theorem dX9_tell_24 : decode cX9_tell 24 = .ok (.aload_n 0, 1) := by decide +kernel
theorem dX9_tell_25 : decode cX9_tell 25 = .ok (.getfield 18, 3) := by decide +kernel
theorem dX9_tell_28 : decode cX9_tell 28 = .ok (.iload_n 1, 1) := by decide +kernel
theorem dX9_tell_29 : decode cX9_tell 29 = .ok (.aaload, 1) := by decide +kernel
theorem dX9_tell_30 : decode cX9_tell 30 = .ok (.astore 4, 2) := by decide +kernel
theorem dX9_tell_32 : decode cX9_tell 32 = .ok (.aload 4, 2) := by decide +kernel
theorem dX9_tell_34 : decode cX9_tell 34 = .ok (.getfield 186, 3) := by decide +kernel
theorem dX9_tell_37 : decode cX9_tell 37 = .ok (.iload_n 2, 1) := by decide +kernel
theorem dX9_tell_38 : decode cX9_tell 38 = .ok (.iaload, 1) := by decide +kernel
theorem dX9_tell_39 : decode cX9_tell 39 = .ok (.iconst 5, 1) := by decide +kernel
theorem dX9_tell_40 : decode cX9_tell 40 = .ok (.if_icmp .ne 16, 3) := by decide +kernel
theorem dX9_tell_43 : decode cX9_tell 43 = .ok (.aload_n 0, 1) := by decide +kernel
theorem dX9_tell_44 : decode cX9_tell 44 = .ok (.aload_n 0, 1) := by decide +kernel
theorem dX9_tell_45 : decode cX9_tell 45 = .ok (.getfield 10, 3) := by decide +kernel
theorem dX9_tell_48 : decode cX9_tell 48 = .ok (.iconst 3, 1) := by decide +kernel
theorem dX9_tell_49 : decode cX9_tell 49 = .ok (.invokevirtual 75, 3) := by decide +kernel
theorem dX9_tell_52 : decode cX9_tell 52 = .ok (.invokevirtual 71, 3) := by decide +kernel
theorem dX9_tell_55 : decode cX9_tell 55 = .ok (.ireturn, 1) := by decide +kernel
theorem dX9_tell_56 : decode cX9_tell 56 = .ok (.aload_n 0, 1) := by decide +kernel
theorem dX9_tell_57 : decode cX9_tell 57 = .ok (.getfield 10, 3) := by decide +kernel
theorem dX9_tell_60 : decode cX9_tell 60 = .ok (.aload 4, 2) := by decide +kernel
theorem dX9_tell_62 : decode cX9_tell 62 = .ok (.getfield 186, 3) := by decide +kernel
theorem dX9_tell_65 : decode cX9_tell 65 = .ok (.iload_n 2, 1) := by decide +kernel
theorem dX9_tell_66 : decode cX9_tell 66 = .ok (.iaload, 1) := by decide +kernel
theorem dX9_tell_67 : decode cX9_tell 67 = .ok (.invokevirtual 201, 3) := by decide +kernel
theorem dX9_tell_70 : decode cX9_tell 70 = .ok (.aload_n 0, 1) := by decide +kernel
theorem dX9_tell_71 : decode cX9_tell 71 = .ok (.aload 4, 2) := by decide +kernel
theorem dX9_tell_73 : decode cX9_tell 73 = .ok (.getfield 186, 3) := by decide +kernel
theorem dX9_tell_76 : decode cX9_tell 76 = .ok (.iload_n 2, 1) := by decide +kernel
theorem dX9_tell_77 : decode cX9_tell 77 = .ok (.iaload, 1) := by decide +kernel
theorem dX9_tell_78 : decode cX9_tell 78 = .ok (.aload 4, 2) := by decide +kernel
theorem dX9_tell_80 : decode cX9_tell 80 = .ok (.getfield 189, 3) := by decide +kernel
theorem dX9_tell_83 : decode cX9_tell 83 = .ok (.iload_n 2, 1) := by decide +kernel
theorem dX9_tell_84 : decode cX9_tell 84 = .ok (.iaload, 1) := by decide +kernel
theorem dX9_tell_85 : decode cX9_tell 85 = .ok (.aload 4, 2) := by decide +kernel
theorem dX9_tell_87 : decode cX9_tell 87 = .ok (.getfield 192, 3) := by decide +kernel
theorem dX9_tell_90 : decode cX9_tell 90 = .ok (.iload_n 2, 1) := by decide +kernel
theorem dX9_tell_91 : decode cX9_tell 91 = .ok (.iaload, 1) := by decide +kernel
theorem dX9_tell_92 : decode cX9_tell 92 = .ok (.invokestatic 204, 3) := by decide +kernel
theorem dX9_tell_95 : decode cX9_tell 95 = .ok (.invokevirtual 152, 3) := by decide +kernel
theorem dX9_tell_98 : decode cX9_tell 98 = .ok (.ireturn, 1) := by decide +kernel
theorem dX9_conditionTold_0 : decode cX9_conditionTold 0 = .ok (.aload_n 0, 1) := by decide +kernel
theorem dX9_conditionTold_1 : decode cX9_conditionTold 1 = .ok (.iload_n 1, 1) := by decide +kernel
theorem dX9_conditionTold_2 : decode cX9_conditionTold 2 = .ok (.iload_n 2, 1) := by decide +kernel
theorem dX9_conditionTold_3 : decode cX9_conditionTold 3 = .ok (.invokevirtual 127, 3) := by decide +kernel
theorem dX9_conditionTold_6 : decode cX9_conditionTold 6 = .ok (.ifCond .eq 13, 3) := by decide +kernel
theorem dX9_conditionTold_9 : decode cX9_conditionTold 9 = .ok (.iload_n 3, 1) := by decide +kernel
theorem dX9_conditionTold_10 : decode cX9_conditionTold 10 = .ok (.ifCond .lt 9, 3) := by decide +kernel
theorem dX9_conditionTold_13 : decode cX9_conditionTold 13 = .ok (.iload_n 3, 1) := by decide +kernel
theorem dX9_conditionTold_14 : decode cX9_conditionTold 14 = .ok (.bipush 8, 2) := by decide +kernel
theorem dX9_conditionTold_16 : decode cX9_conditionTold 16 = .ok (.if_icmp .le 10, 3) := by decide +kernel
theorem dX9_conditionTold_19 : decode cX9_conditionTold 19 = .ok (.aload_n 0, 1) := by decide +kernel
theorem dX9_conditionTold_20 : decode cX9_conditionTold 20 = .ok (.bipush (-2), 2) := by decide +kernel
theorem dX9_conditionTold_22 : decode cX9_conditionTold 22 = .ok (.invokevirtual 71, 3) := by decide +kernel
theorem dX9_conditionTold_25 : decode cX9_conditionTold 25 = .ok (.ireturn, 1) := by decide +kernel
theorem dX9_conditionTold_26 : decode cX9_conditionTold 26 = .ok (.aload_n 0, 1) := by decide +kernel
theorem dX9_conditionTold_27 : decode cX9_conditionTold 27 = .ok (.getfield 18, 3) := by decide +kernel
theorem dX9_conditionTold_30 : decode cX9_conditionTold 30 = .ok (.iload_n 1, 1) := by decide +kernel
theorem dX9_conditionTold_31 : decode cX9_conditionTold 31 = .ok (.aaload, 1) := by decide +kernel
theorem dX9_conditionTold_32 : decode cX9_conditionTold 32 = .ok (.getfield 114, 3) := by decide +kernel
theorem dX9_conditionTold_35 : decode cX9_conditionTold 35 = .ok (.astore 4, 2) := by decide +kernel
theorem dX9_conditionTold_37 : decode cX9_conditionTold 37 = .ok (.iload_n 3, 1) := by decide +kernel
theorem dX9_conditionTold_38 : decode cX9_conditionTold 38 = .ok (.tableswitch 62 0 2 #[26, 38, 50], 26) := by decide +kernel
theorem dX9_conditionTold_64 : decode cX9_conditionTold 64 = .ok (.aload_n 0, 1) := by decide +kernel
theorem dX9_conditionTold_65 : decode cX9_conditionTold 65 = .ok (.aload 4, 2) := by decide +kernel
theorem dX9_conditionTold_67 : decode cX9_conditionTold 67 = .ok (.getfield 207, 3) := by decide +kernel
theorem dX9_conditionTold_70 : decode cX9_conditionTold 70 = .ok (.iload_n 2, 1) := by decide +kernel
theorem dX9_conditionTold_71 : decode cX9_conditionTold 71 = .ok (.iaload, 1) := by decide +kernel
theorem dX9_conditionTold_72 : decode cX9_conditionTold 72 = .ok (.invokevirtual 152, 3) := by decide +kernel
theorem dX9_conditionTold_75 : decode cX9_conditionTold 75 = .ok (.ireturn, 1) := by decide +kernel
theorem dX9_conditionTold_76 : decode cX9_conditionTold 76 = .ok (.aload_n 0, 1) := by decide +kernel
theorem dX9_conditionTold_77 : decode cX9_conditionTold 77 = .ok (.aload 4, 2) := by decide +kernel
theorem dX9_conditionTold_79 : decode cX9_conditionTold 79 = .ok (.getfield 210, 3) := by decide +kernel
theorem dX9_conditionTold_82 : decode cX9_conditionTold 82 = .ok (.iload_n 2, 1) := by decide +kernel
theorem dX9_conditionTold_83 : decode cX9_conditionTold 83 = .ok (.iaload, 1) := by decide +kernel
theorem dX9_conditionTold_84 : decode cX9_conditionTold 84 = .ok (.invokevirtual 152, 3) := by decide +kernel
theorem dX9_conditionTold_87 : decode cX9_conditionTold 87 = .ok (.ireturn, 1) := by decide +kernel
theorem dX9_conditionTold_88 : decode cX9_conditionTold 88 = .ok (.aload_n 0, 1) := by decide +kernel
theorem dX9_conditionTold_89 : decode cX9_conditionTold 89 = .ok (.aload 4, 2) := by decide +kernel
theorem dX9_conditionTold_91 : decode cX9_conditionTold 91 = .ok (.getfield 140, 3) := by decide +kernel
theorem dX9_conditionTold_94 : decode cX9_conditionTold 94 = .ok (.iload_n 2, 1) := by decide +kernel
theorem dX9_conditionTold_95 : decode cX9_conditionTold 95 = .ok (.iaload, 1) := by decide +kernel
theorem dX9_conditionTold_96 : decode cX9_conditionTold 96 = .ok (.invokevirtual 152, 3) := by decide +kernel
theorem dX9_conditionTold_99 : decode cX9_conditionTold 99 = .ok (.ireturn, 1) := by decide +kernel
theorem dX9_conditionTold_100 : decode cX9_conditionTold 100 = .ok (.aload_n 0, 1) := by decide +kernel
theorem dX9_conditionTold_101 : decode cX9_conditionTold 101 = .ok (.iload_n 3, 1) := by decide +kernel
theorem dX9_conditionTold_102 : decode cX9_conditionTold 102 = .ok (.iconst 3, 1) := by decide +kernel
theorem dX9_conditionTold_103 : decode cX9_conditionTold 103 = .ok (.isub, 1) := by decide +kernel
theorem dX9_conditionTold_104 : decode cX9_conditionTold 104 = .ok (.aload 4, 2) := by decide +kernel
theorem dX9_conditionTold_106 : decode cX9_conditionTold 106 = .ok (.getfield 140, 3) := by decide +kernel
theorem dX9_conditionTold_109 : decode cX9_conditionTold 109 = .ok (.iload_n 2, 1) := by decide +kernel
theorem dX9_conditionTold_110 : decode cX9_conditionTold 110 = .ok (.iaload, 1) := by decide +kernel
theorem dX9_conditionTold_111 : decode cX9_conditionTold 111 = .ok (.if_icmp .ge 15, 3) := by decide +kernel
theorem dX9_conditionTold_114 : decode cX9_conditionTold 114 = .ok (.aload 4, 2) := by decide +kernel
theorem dX9_conditionTold_116 : decode cX9_conditionTold 116 = .ok (.iload_n 2, 1) := by decide +kernel
theorem dX9_conditionTold_117 : decode cX9_conditionTold 117 = .ok (.iload_n 3, 1) := by decide +kernel
theorem dX9_conditionTold_118 : decode cX9_conditionTold 118 = .ok (.iconst 3, 1) := by decide +kernel
theorem dX9_conditionTold_119 : decode cX9_conditionTold 119 = .ok (.isub, 1) := by decide +kernel
theorem dX9_conditionTold_120 : decode cX9_conditionTold 120 = .ok (.invokevirtual 134, 3) := by decide +kernel
theorem dX9_conditionTold_123 : decode cX9_conditionTold 123 = .ok (.goto 4, 3) := by decide +kernel
theorem dX9_conditionTold_126 : decode cX9_conditionTold 126 = .ok (.iconst (-1), 1) := by decide +kernel
theorem dX9_conditionTold_127 : decode cX9_conditionTold 127 = .ok (.invokevirtual 152, 3) := by decide +kernel
theorem dX9_conditionTold_130 : decode cX9_conditionTold 130 = .ok (.ireturn, 1) := by decide +kernel
theorem dX9_holds_0 : decode cX9_holds 0 = .ok (.aload_n 0, 1) := by decide +kernel
theorem dX9_holds_1 : decode cX9_holds 1 = .ok (.iload_n 1, 1) := by decide +kernel
theorem dX9_holds_2 : decode cX9_holds 2 = .ok (.iload_n 2, 1) := by decide +kernel
theorem dX9_holds_3 : decode cX9_holds 3 = .ok (.invokevirtual 127, 3) := by decide +kernel
theorem dX9_holds_6 : decode cX9_holds 6 = .ok (.ifCond .ne 10, 3) := by decide +kernel
theorem dX9_holds_9 : decode cX9_holds 9 = .ok (.aload_n 0, 1) := by decide +kernel
theorem dX9_holds_10 : decode cX9_holds 10 = .ok (.bipush (-2), 2) := by decide +kernel
theorem dX9_holds_12 : decode cX9_holds 12 = .ok (.invokevirtual 71, 3) := by decide +kernel
theorem dX9_holds_15 : decode cX9_holds 15 = .ok (.ireturn, 1) := by decide +kernel
theorem dX9_holds_16 : decode cX9_holds 16 = .ok (.aload_n 0, 1) := by decide +kernel
theorem dX9_holds_17 : decode cX9_holds 17 = .ok (.getfield 18, 3) := by decide +kernel
theorem dX9_holds_20 : decode cX9_holds 20 = .ok (.iload_n 1, 1) := by decide +kernel
theorem dX9_holds_21 : decode cX9_holds 21 = .ok (.aaload, 1) := by decide +kernel
theorem dX9_holds_22 : decode cX9_holds 22 = .ok (.iload_n 2, 1) := by decide +kernel
theorem dX9_holds_23 : decode cX9_holds 23 = .ok (.iconst 0, 1) := by decide +kernel
theorem dX9_holds_24 : decode cX9_holds 24 = .ok (.invokevirtual 213, 3) := by decide +kernel
theorem dX9_holds_27 : decode cX9_holds 27 = .ok (.istore_n 3, 1) := by decide +kernel
theorem dX9_holds_28 : decode cX9_holds 28 = .ok (.iload_n 3, 1) := by decide +kernel
theorem dX9_holds_29 : decode cX9_holds 29 = .ok (.ifCond .ge 19, 3) := by decide +kernel
theorem dX9_holds_32 : decode cX9_holds 32 = .ok (.aload_n 0, 1) := by decide +kernel
theorem dX9_holds_33 : decode cX9_holds 33 = .ok (.aload_n 0, 1) := by decide +kernel
theorem dX9_holds_34 : decode cX9_holds 34 = .ok (.getfield 10, 3) := by decide +kernel
theorem dX9_holds_37 : decode cX9_holds 37 = .ok (.iload_n 3, 1) := by decide +kernel
theorem dX9_holds_38 : decode cX9_holds 38 = .ok (.ineg, 1) := by decide +kernel
theorem dX9_holds_39 : decode cX9_holds 39 = .ok (.invokevirtual 75, 3) := by decide +kernel
theorem dX9_holds_42 : decode cX9_holds 42 = .ok (.invokevirtual 71, 3) := by decide +kernel
theorem dX9_holds_45 : decode cX9_holds 45 = .ok (.goto 8, 3) := by decide +kernel
theorem dX9_holds_48 : decode cX9_holds 48 = .ok (.aload_n 0, 1) := by decide +kernel
theorem dX9_holds_49 : decode cX9_holds 49 = .ok (.iload_n 3, 1) := by decide +kernel
theorem dX9_holds_50 : decode cX9_holds 50 = .ok (.invokevirtual 152, 3) := by decide +kernel
theorem dX9_holds_53 : decode cX9_holds 53 = .ok (.ireturn, 1) := by decide +kernel
theorem dX9_may_0 : decode cX9_may 0 = .ok (.aload_n 0, 1) := by decide +kernel
theorem dX9_may_1 : decode cX9_may 1 = .ok (.getfield 10, 3) := by decide +kernel
theorem dX9_may_4 : decode cX9_may 4 = .ok (.invokevirtual 198, 3) := by decide +kernel
theorem dX9_may_7 : decode cX9_may 7 = .ok (.iload_n 1, 1) := by decide +kernel
theorem dX9_may_8 : decode cX9_may 8 = .ok (.invokestatic 67, 3) := by decide +kernel
theorem dX9_may_11 : decode cX9_may 11 = .ok (.ifCond .ne 10, 3) := by decide +kernel
theorem dX9_may_14 : decode cX9_may 14 = .ok (.aload_n 0, 1) := by decide +kernel
theorem dX9_may_15 : decode cX9_may 15 = .ok (.bipush (-2), 2) := by decide +kernel
theorem dX9_may_17 : decode cX9_may 17 = .ok (.invokevirtual 71, 3) := by decide +kernel
theorem dX9_may_20 : decode cX9_may 20 = .ok (.ireturn, 1) := by decide +kernel
theorem dX9_may_21 : decode cX9_may 21 = .ok (.iload_n 2, 1) := by decide +kernel
theorem dX9_may_22 : decode cX9_may 22 = .ok (.invokestatic 216, 3) := by decide +kernel
theorem dX9_may_25 : decode cX9_may 25 = .ok (.ifCond .ne 10, 3) := by decide +kernel
theorem dX9_may_28 : decode cX9_may 28 = .ok (.aload_n 0, 1) := by decide +kernel
theorem dX9_may_29 : decode cX9_may 29 = .ok (.bipush (-3), 2) := by decide +kernel
theorem dX9_may_31 : decode cX9_may 31 = .ok (.invokevirtual 71, 3) := by decide +kernel
theorem dX9_may_34 : decode cX9_may 34 = .ok (.ireturn, 1) := by decide +kernel
theorem dX9_may_35 : decode cX9_may 35 = .ok (.aload_n 0, 1) := by decide +kernel
theorem dX9_may_36 : decode cX9_may 36 = .ok (.aload_n 0, 1) := by decide +kernel
theorem dX9_may_37 : decode cX9_may 37 = .ok (.getfield 18, 3) := by decide +kernel
theorem dX9_may_40 : decode cX9_may 40 = .ok (.iload_n 1, 1) := by decide +kernel
theorem dX9_may_41 : decode cX9_may 41 = .ok (.aaload, 1) := by decide +kernel
theorem dX9_may_42 : decode cX9_may 42 = .ok (.iload_n 2, 1) := by decide +kernel
theorem dX9_may_43 : decode cX9_may 43 = .ok (.invokevirtual 219, 3) := by decide +kernel
theorem dX9_may_46 : decode cX9_may 46 = .ok (.iconst (-1), 1) := by decide +kernel
theorem dX9_may_47 : decode cX9_may 47 = .ok (.if_icmp .ne 7, 3) := by decide +kernel
theorem dX9_may_50 : decode cX9_may 50 = .ok (.iconst 1, 1) := by decide +kernel
theorem dX9_may_51 : decode cX9_may 51 = .ok (.goto 4, 3) := by decide +kernel
theorem dX9_may_54 : decode cX9_may 54 = .ok (.iconst 0, 1) := by decide +kernel
theorem dX9_may_55 : decode cX9_may 55 = .ok (.invokevirtual 152, 3) := by decide +kernel
theorem dX9_may_58 : decode cX9_may 58 = .ok (.ireturn, 1) := by decide +kernel
theorem dX9_barredBy_0 : decode cX9_barredBy 0 = .ok (.aload_n 0, 1) := by decide +kernel
theorem dX9_barredBy_1 : decode cX9_barredBy 1 = .ok (.getfield 10, 3) := by decide +kernel
theorem dX9_barredBy_4 : decode cX9_barredBy 4 = .ok (.invokevirtual 198, 3) := by decide +kernel
theorem dX9_barredBy_7 : decode cX9_barredBy 7 = .ok (.iload_n 1, 1) := by decide +kernel
theorem dX9_barredBy_8 : decode cX9_barredBy 8 = .ok (.invokestatic 67, 3) := by decide +kernel
theorem dX9_barredBy_11 : decode cX9_barredBy 11 = .ok (.ifCond .ne 10, 3) := by decide +kernel
theorem dX9_barredBy_14 : decode cX9_barredBy 14 = .ok (.aload_n 0, 1) := by decide +kernel
theorem dX9_barredBy_15 : decode cX9_barredBy 15 = .ok (.bipush (-2), 2) := by decide +kernel
theorem dX9_barredBy_17 : decode cX9_barredBy 17 = .ok (.invokevirtual 71, 3) := by decide +kernel
theorem dX9_barredBy_20 : decode cX9_barredBy 20 = .ok (.ireturn, 1) := by decide +kernel
theorem dX9_barredBy_21 : decode cX9_barredBy 21 = .ok (.iload_n 2, 1) := by decide +kernel
theorem dX9_barredBy_22 : decode cX9_barredBy 22 = .ok (.invokestatic 216, 3) := by decide +kernel
theorem dX9_barredBy_25 : decode cX9_barredBy 25 = .ok (.ifCond .ne 10, 3) := by decide +kernel
theorem dX9_barredBy_28 : decode cX9_barredBy 28 = .ok (.aload_n 0, 1) := by decide +kernel
theorem dX9_barredBy_29 : decode cX9_barredBy 29 = .ok (.bipush (-6), 2) := by decide +kernel
theorem dX9_barredBy_31 : decode cX9_barredBy 31 = .ok (.invokevirtual 71, 3) := by decide +kernel
theorem dX9_barredBy_34 : decode cX9_barredBy 34 = .ok (.ireturn, 1) := by decide +kernel
theorem dX9_barredBy_35 : decode cX9_barredBy 35 = .ok (.aload_n 0, 1) := by decide +kernel
theorem dX9_barredBy_36 : decode cX9_barredBy 36 = .ok (.getfield 18, 3) := by decide +kernel
theorem dX9_barredBy_39 : decode cX9_barredBy 39 = .ok (.iload_n 1, 1) := by decide +kernel
theorem dX9_barredBy_40 : decode cX9_barredBy 40 = .ok (.aaload, 1) := by decide +kernel
theorem dX9_barredBy_41 : decode cX9_barredBy 41 = .ok (.iload_n 2, 1) := by decide +kernel
theorem dX9_barredBy_42 : decode cX9_barredBy 42 = .ok (.invokevirtual 219, 3) := by decide +kernel
theorem dX9_barredBy_45 : decode cX9_barredBy 45 = .ok (.istore_n 3, 1) := by decide +kernel
theorem dX9_barredBy_46 : decode cX9_barredBy 46 = .ok (.iload_n 3, 1) := by decide +kernel
theorem dX9_barredBy_47 : decode cX9_barredBy 47 = .ok (.bipush (-10), 2) := by decide +kernel
theorem dX9_barredBy_49 : decode cX9_barredBy 49 = .ok (.if_icmp .ge 11, 3) := by decide +kernel
theorem dX9_barredBy_52 : decode cX9_barredBy 52 = .ok (.aload_n 0, 1) := by decide +kernel
theorem dX9_barredBy_53 : decode cX9_barredBy 53 = .ok (.iload_n 3, 1) := by decide +kernel
theorem dX9_barredBy_54 : decode cX9_barredBy 54 = .ok (.invokevirtual 71, 3) := by decide +kernel
theorem dX9_barredBy_57 : decode cX9_barredBy 57 = .ok (.goto 8, 3) := by decide +kernel
theorem dX9_barredBy_60 : decode cX9_barredBy 60 = .ok (.aload_n 0, 1) := by decide +kernel
theorem dX9_barredBy_61 : decode cX9_barredBy 61 = .ok (.iload_n 3, 1) := by decide +kernel
theorem dX9_barredBy_62 : decode cX9_barredBy 62 = .ok (.invokevirtual 152, 3) := by decide +kernel
theorem dX9_barredBy_65 : decode cX9_barredBy 65 = .ok (.ireturn, 1) := by decide +kernel
theorem dX9_isOpen_0 : decode cX9_isOpen 0 = .ok (.aload_n 0, 1) := by decide +kernel
theorem dX9_isOpen_1 : decode cX9_isOpen 1 = .ok (.getfield 10, 3) := by decide +kernel
theorem dX9_isOpen_4 : decode cX9_isOpen 4 = .ok (.invokevirtual 198, 3) := by decide +kernel
theorem dX9_isOpen_7 : decode cX9_isOpen 7 = .ok (.iload_n 1, 1) := by decide +kernel
theorem dX9_isOpen_8 : decode cX9_isOpen 8 = .ok (.invokestatic 67, 3) := by decide +kernel
theorem dX9_isOpen_11 : decode cX9_isOpen 11 = .ok (.ifCond .ne 10, 3) := by decide +kernel
theorem dX9_isOpen_14 : decode cX9_isOpen 14 = .ok (.aload_n 0, 1) := by decide +kernel
theorem dX9_isOpen_15 : decode cX9_isOpen 15 = .ok (.bipush (-2), 2) := by decide +kernel
theorem dX9_isOpen_17 : decode cX9_isOpen 17 = .ok (.invokevirtual 71, 3) := by decide +kernel
theorem dX9_isOpen_20 : decode cX9_isOpen 20 = .ok (.ireturn, 1) := by decide +kernel
theorem dX9_isOpen_21 : decode cX9_isOpen 21 = .ok (.aload_n 0, 1) := by decide +kernel
theorem dX9_isOpen_22 : decode cX9_isOpen 22 = .ok (.aload_n 0, 1) := by decide +kernel
theorem dX9_isOpen_23 : decode cX9_isOpen 23 = .ok (.getfield 18, 3) := by decide +kernel
theorem dX9_isOpen_26 : decode cX9_isOpen 26 = .ok (.iload_n 1, 1) := by decide +kernel
theorem dX9_isOpen_27 : decode cX9_isOpen 27 = .ok (.aaload, 1) := by decide +kernel
theorem dX9_isOpen_28 : decode cX9_isOpen 28 = .ok (.iconst 1, 1) := by decide +kernel
theorem dX9_isOpen_29 : decode cX9_isOpen 29 = .ok (.invokevirtual 222, 3) := by decide +kernel
theorem dX9_isOpen_32 : decode cX9_isOpen 32 = .ok (.ifCond .eq 7, 3) := by decide +kernel
theorem dX9_isOpen_35 : decode cX9_isOpen 35 = .ok (.iconst 1, 1) := by decide +kernel
theorem dX9_isOpen_36 : decode cX9_isOpen 36 = .ok (.goto 4, 3) := by decide +kernel
theorem dX9_isOpen_39 : decode cX9_isOpen 39 = .ok (.iconst 0, 1) := by decide +kernel
theorem dX9_isOpen_40 : decode cX9_isOpen 40 = .ok (.invokevirtual 152, 3) := by decide +kernel
theorem dX9_isOpen_43 : decode cX9_isOpen 43 = .ok (.ireturn, 1) := by decide +kernel
theorem dX9_product_0 : decode cX9_product 0 = .ok (.iload_n 1, 1) := by decide +kernel
theorem dX9_product_1 : decode cX9_product 1 = .ok (.invokestatic 67, 3) := by decide +kernel
theorem dX9_product_4 : decode cX9_product 4 = .ok (.ifCond .eq 19, 3) := by decide +kernel
theorem dX9_product_7 : decode cX9_product 7 = .ok (.aload_n 0, 1) := by decide +kernel
theorem dX9_product_8 : decode cX9_product 8 = .ok (.aload_n 0, 1) := by decide +kernel
theorem dX9_product_9 : decode cX9_product 9 = .ok (.getfield 18, 3) := by decide +kernel
theorem dX9_product_12 : decode cX9_product 12 = .ok (.iload_n 1, 1) := by decide +kernel
theorem dX9_product_13 : decode cX9_product 13 = .ok (.aaload, 1) := by decide +kernel
theorem dX9_product_14 : decode cX9_product 14 = .ok (.getfield 226, 3) := by decide +kernel
theorem dX9_product_17 : decode cX9_product 17 = .ok (.invokevirtual 152, 3) := by decide +kernel
theorem dX9_product_20 : decode cX9_product 20 = .ok (.goto 9, 3) := by decide +kernel
theorem dX9_product_23 : decode cX9_product 23 = .ok (.aload_n 0, 1) := by decide +kernel
theorem dX9_product_24 : decode cX9_product 24 = .ok (.bipush (-2), 2) := by decide +kernel
theorem dX9_product_26 : decode cX9_product 26 = .ok (.invokevirtual 71, 3) := by decide +kernel
theorem dX9_product_29 : decode cX9_product 29 = .ok (.ireturn, 1) := by decide +kernel
theorem dX9_state_0 : decode cX9_state 0 = .ok (.iload_n 1, 1) := by decide +kernel
theorem dX9_state_1 : decode cX9_state 1 = .ok (.invokestatic 67, 3) := by decide +kernel
theorem dX9_state_4 : decode cX9_state 4 = .ok (.ifCond .eq 19, 3) := by decide +kernel
theorem dX9_state_7 : decode cX9_state 7 = .ok (.aload_n 0, 1) := by decide +kernel
theorem dX9_state_8 : decode cX9_state 8 = .ok (.aload_n 0, 1) := by decide +kernel
theorem dX9_state_9 : decode cX9_state 9 = .ok (.getfield 18, 3) := by decide +kernel
theorem dX9_state_12 : decode cX9_state 12 = .ok (.iload_n 1, 1) := by decide +kernel
theorem dX9_state_13 : decode cX9_state 13 = .ok (.aaload, 1) := by decide +kernel
theorem dX9_state_14 : decode cX9_state 14 = .ok (.invokevirtual 229, 3) := by decide +kernel
theorem dX9_state_17 : decode cX9_state 17 = .ok (.invokevirtual 152, 3) := by decide +kernel
theorem dX9_state_20 : decode cX9_state 20 = .ok (.goto 9, 3) := by decide +kernel
theorem dX9_state_23 : decode cX9_state 23 = .ok (.aload_n 0, 1) := by decide +kernel
theorem dX9_state_24 : decode cX9_state 24 = .ok (.bipush (-2), 2) := by decide +kernel
theorem dX9_state_26 : decode cX9_state 26 = .ok (.invokevirtual 71, 3) := by decide +kernel
theorem dX9_state_29 : decode cX9_state 29 = .ok (.ireturn, 1) := by decide +kernel
theorem dX9_ofNumber_0 : decode cX9_ofNumber 0 = .ok (.iload_n 1, 1) := by decide +kernel
theorem dX9_ofNumber_1 : decode cX9_ofNumber 1 = .ok (.invokestatic 67, 3) := by decide +kernel
theorem dX9_ofNumber_4 : decode cX9_ofNumber 4 = .ok (.ifCond .ne 10, 3) := by decide +kernel
theorem dX9_ofNumber_7 : decode cX9_ofNumber 7 = .ok (.aload_n 0, 1) := by decide +kernel
theorem dX9_ofNumber_8 : decode cX9_ofNumber 8 = .ok (.bipush (-2), 2) := by decide +kernel
theorem dX9_ofNumber_10 : decode cX9_ofNumber 10 = .ok (.invokevirtual 71, 3) := by decide +kernel
theorem dX9_ofNumber_13 : decode cX9_ofNumber 13 = .ok (.ireturn, 1) := by decide +kernel
theorem dX9_ofNumber_14 : decode cX9_ofNumber 14 = .ok (.aload_n 0, 1) := by decide +kernel
theorem dX9_ofNumber_15 : decode cX9_ofNumber 15 = .ok (.getfield 18, 3) := by decide +kernel
theorem dX9_ofNumber_18 : decode cX9_ofNumber 18 = .ok (.iload_n 1, 1) := by decide +kernel
theorem dX9_ofNumber_19 : decode cX9_ofNumber 19 = .ok (.aaload, 1) := by decide +kernel
theorem dX9_ofNumber_20 : decode cX9_ofNumber 20 = .ok (.astore_n 3, 1) := by decide +kernel
theorem dX9_ofNumber_21 : decode cX9_ofNumber 21 = .ok (.iload_n 2, 1) := by decide +kernel
theorem dX9_ofNumber_22 : decode cX9_ofNumber 22 = .ok (.ifCond .lt 11, 3) := by decide +kernel
theorem dX9_ofNumber_25 : decode cX9_ofNumber 25 = .ok (.iload_n 2, 1) := by decide +kernel
theorem dX9_ofNumber_26 : decode cX9_ofNumber 26 = .ok (.aload_n 3, 1) := by decide +kernel
theorem dX9_ofNumber_27 : decode cX9_ofNumber 27 = .ok (.getfield 226, 3) := by decide +kernel
theorem dX9_ofNumber_30 : decode cX9_ofNumber 30 = .ok (.if_icmp .lt 10, 3) := by decide +kernel
theorem dX9_ofNumber_33 : decode cX9_ofNumber 33 = .ok (.aload_n 0, 1) := by decide +kernel
theorem dX9_ofNumber_34 : decode cX9_ofNumber 34 = .ok (.bipush (-3), 2) := by decide +kernel
theorem dX9_ofNumber_36 : decode cX9_ofNumber 36 = .ok (.invokevirtual 71, 3) := by decide +kernel
theorem dX9_ofNumber_39 : decode cX9_ofNumber 39 = .ok (.ireturn, 1) := by decide +kernel
theorem dX9_ofNumber_40 : decode cX9_ofNumber 40 = .ok (.aload_n 3, 1) := by decide +kernel
theorem dX9_ofNumber_41 : decode cX9_ofNumber 41 = .ok (.invokevirtual 229, 3) := by decide +kernel
theorem dX9_ofNumber_44 : decode cX9_ofNumber 44 = .ok (.istore 4, 2) := by decide +kernel
theorem dX9_ofNumber_46 : decode cX9_ofNumber 46 = .ok (.aload_n 3, 1) := by decide +kernel
theorem dX9_ofNumber_47 : decode cX9_ofNumber 47 = .ok (.iload_n 2, 1) := by decide +kernel
theorem dX9_ofNumber_48 : decode cX9_ofNumber 48 = .ok (.invokevirtual 231, 3) := by decide +kernel
theorem dX9_ofNumber_51 : decode cX9_ofNumber 51 = .ok (.aload_n 0, 1) := by decide +kernel
theorem dX9_ofNumber_52 : decode cX9_ofNumber 52 = .ok (.iload 4, 2) := by decide +kernel
theorem dX9_ofNumber_54 : decode cX9_ofNumber 54 = .ok (.invokevirtual 152, 3) := by decide +kernel
theorem dX9_ofNumber_57 : decode cX9_ofNumber 57 = .ok (.ireturn, 1) := by decide +kernel
theorem dX9_place_0 : decode cX9_place 0 = .ok (.aload_n 0, 1) := by decide +kernel
theorem dX9_place_1 : decode cX9_place 1 = .ok (.iload_n 1, 1) := by decide +kernel
theorem dX9_place_2 : decode cX9_place 2 = .ok (.iload_n 2, 1) := by decide +kernel
theorem dX9_place_3 : decode cX9_place 3 = .ok (.invokevirtual 107, 3) := by decide +kernel
theorem dX9_place_6 : decode cX9_place 6 = .ok (.istore 4, 2) := by decide +kernel
theorem dX9_place_8 : decode cX9_place 8 = .ok (.iload 4, 2) := by decide +kernel
theorem dX9_place_10 : decode cX9_place 10 = .ok (.ifCond .eq 10, 3) := by decide +kernel
theorem dX9_place_13 : decode cX9_place 13 = .ok (.aload_n 0, 1) := by decide +kernel
theorem dX9_place_14 : decode cX9_place 14 = .ok (.iload 4, 2) := by decide +kernel
theorem dX9_place_16 : decode cX9_place 16 = .ok (.invokevirtual 71, 3) := by decide +kernel
theorem dX9_place_19 : decode cX9_place 19 = .ok (.ireturn, 1) := by decide +kernel
theorem dX9_place_20 : decode cX9_place 20 = .ok (.aload_n 0, 1) := by decide +kernel
theorem dX9_place_21 : decode cX9_place 21 = .ok (.getfield 18, 3) := by decide +kernel
theorem dX9_place_24 : decode cX9_place 24 = .ok (.iload_n 1, 1) := by decide +kernel
theorem dX9_place_25 : decode cX9_place 25 = .ok (.aaload, 1) := by decide +kernel
theorem dX9_place_26 : decode cX9_place 26 = .ok (.astore 5, 2) := by decide +kernel
theorem dX9_place_28 : decode cX9_place 28 = .ok (.iload_n 3, 1) := by decide +kernel
theorem dX9_place_29 : decode cX9_place 29 = .ok (.ifCond .lt 14, 3) := by decide +kernel
theorem dX9_place_32 : decode cX9_place 32 = .ok (.iload_n 3, 1) := by decide +kernel
theorem dX9_place_33 : decode cX9_place 33 = .ok (.aload 5, 2) := by decide +kernel
theorem dX9_place_35 : decode cX9_place 35 = .ok (.getfield 189, 3) := by decide +kernel
theorem dX9_place_38 : decode cX9_place 38 = .ok (.iload_n 2, 1) := by decide +kernel
theorem dX9_place_39 : decode cX9_place 39 = .ok (.iaload, 1) := by decide +kernel
theorem dX9_place_40 : decode cX9_place 40 = .ok (.if_icmp .lt 16, 3) := by decide +kernel
theorem dX9_place_43 : decode cX9_place 43 = .ok (.aload_n 0, 1) := by decide +kernel
theorem dX9_place_44 : decode cX9_place 44 = .ok (.aload_n 0, 1) := by decide +kernel
theorem dX9_place_45 : decode cX9_place 45 = .ok (.getfield 10, 3) := by decide +kernel
theorem dX9_place_48 : decode cX9_place 48 = .ok (.iconst 2, 1) := by decide +kernel
theorem dX9_place_49 : decode cX9_place 49 = .ok (.invokevirtual 75, 3) := by decide +kernel
theorem dX9_place_52 : decode cX9_place 52 = .ok (.invokevirtual 71, 3) := by decide +kernel
theorem dX9_place_55 : decode cX9_place 55 = .ok (.ireturn, 1) := by decide +kernel
theorem dX9_place_56 : decode cX9_place 56 = .ok (.aload 5, 2) := by decide +kernel
theorem dX9_place_58 : decode cX9_place 58 = .ok (.getfield 192, 3) := by decide +kernel
theorem dX9_place_61 : decode cX9_place 61 = .ok (.iload_n 2, 1) := by decide +kernel
theorem dX9_place_62 : decode cX9_place 62 = .ok (.iaload, 1) := by decide +kernel
theorem dX9_place_63 : decode cX9_place 63 = .ok (.istore 6, 2) := by decide +kernel
theorem dX9_place_65 : decode cX9_place 65 = .ok (.aload 5, 2) := by decide +kernel
theorem dX9_place_67 : decode cX9_place 67 = .ok (.getfield 192, 3) := by decide +kernel
theorem dX9_place_70 : decode cX9_place 70 = .ok (.iload_n 2, 1) := by decide +kernel
theorem dX9_place_71 : decode cX9_place 71 = .ok (.iload_n 3, 1) := by decide +kernel
theorem dX9_place_72 : decode cX9_place 72 = .ok (.iastore, 1) := by decide +kernel
theorem dX9_place_73 : decode cX9_place 73 = .ok (.aload_n 0, 1) := by decide +kernel
theorem dX9_place_74 : decode cX9_place 74 = .ok (.iload 6, 2) := by decide +kernel
theorem dX9_place_76 : decode cX9_place 76 = .ok (.invokevirtual 152, 3) := by decide +kernel
theorem dX9_place_79 : decode cX9_place 79 = .ok (.ireturn, 1) := by decide +kernel
theorem dX9_move_0 : decode cX9_move 0 = .ok (.aload_n 0, 1) := by decide +kernel
theorem dX9_move_1 : decode cX9_move 1 = .ok (.getfield 10, 3) := by decide +kernel
theorem dX9_move_4 : decode cX9_move 4 = .ok (.invokevirtual 198, 3) := by decide +kernel
theorem dX9_move_7 : decode cX9_move 7 = .ok (.iload_n 1, 1) := by decide +kernel
theorem dX9_move_8 : decode cX9_move 8 = .ok (.invokestatic 67, 3) := by decide +kernel
theorem dX9_move_11 : decode cX9_move 11 = .ok (.ifCond .ne 10, 3) := by decide +kernel
theorem dX9_move_14 : decode cX9_move 14 = .ok (.aload_n 0, 1) := by decide +kernel
theorem dX9_move_15 : decode cX9_move 15 = .ok (.bipush (-2), 2) := by decide +kernel
theorem dX9_move_17 : decode cX9_move 17 = .ok (.invokevirtual 71, 3) := by decide +kernel
theorem dX9_move_20 : decode cX9_move 20 = .ok (.ireturn, 1) := by decide +kernel
theorem dX9_move_21 : decode cX9_move 21 = .ok (.iload_n 2, 1) := by decide +kernel
theorem dX9_move_22 : decode cX9_move 22 = .ok (.invokestatic 216, 3) := by decide +kernel
theorem dX9_move_25 : decode cX9_move 25 = .ok (.ifCond .ne 10, 3) := by decide +kernel
theorem dX9_move_28 : decode cX9_move 28 = .ok (.aload_n 0, 1) := by decide +kernel
theorem dX9_move_29 : decode cX9_move 29 = .ok (.bipush (-3), 2) := by decide +kernel
theorem dX9_move_31 : decode cX9_move 31 = .ok (.invokevirtual 71, 3) := by decide +kernel
theorem dX9_move_34 : decode cX9_move 34 = .ok (.ireturn, 1) := by decide +kernel
theorem dX9_move_35 : decode cX9_move 35 = .ok (.aload_n 0, 1) := by decide +kernel
theorem dX9_move_36 : decode cX9_move 36 = .ok (.getfield 18, 3) := by decide +kernel
theorem dX9_move_39 : decode cX9_move 39 = .ok (.iload_n 1, 1) := by decide +kernel
theorem dX9_move_40 : decode cX9_move 40 = .ok (.aaload, 1) := by decide +kernel
theorem dX9_move_41 : decode cX9_move 41 = .ok (.astore_n 3, 1) := by decide +kernel
theorem dX9_move_42 : decode cX9_move 42 = .ok (.aload_n 3, 1) := by decide +kernel
theorem dX9_move_43 : decode cX9_move 43 = .ok (.invokevirtual 229, 3) := by decide +kernel
theorem dX9_move_46 : decode cX9_move 46 = .ok (.istore 4, 2) := by decide +kernel
theorem dX9_move_48 : decode cX9_move 48 = .ok (.aload_n 3, 1) := by decide +kernel
theorem dX9_move_49 : decode cX9_move 49 = .ok (.iload_n 2, 1) := by decide +kernel
theorem dX9_move_50 : decode cX9_move 50 = .ok (.invokevirtual 234, 3) := by decide +kernel
theorem dX9_move_53 : decode cX9_move 53 = .ok (.istore 5, 2) := by decide +kernel
theorem dX9_move_55 : decode cX9_move 55 = .ok (.iload 5, 2) := by decide +kernel
theorem dX9_move_57 : decode cX9_move 57 = .ok (.iconst 1, 1) := by decide +kernel
theorem dX9_move_58 : decode cX9_move 58 = .ok (.if_icmp .ne 12, 3) := by decide +kernel
theorem dX9_move_61 : decode cX9_move 61 = .ok (.aload_n 3, 1) := by decide +kernel
theorem dX9_move_62 : decode cX9_move 62 = .ok (.getfield 237, 3) := by decide +kernel
theorem dX9_move_65 : decode cX9_move 65 = .ok (.iload 4, 2) := by decide +kernel
theorem dX9_move_67 : decode cX9_move 67 = .ok (.invokevirtual 241, 3) := by decide +kernel
theorem dX9_move_70 : decode cX9_move 70 = .ok (.iload 5, 2) := by decide +kernel
theorem dX9_move_72 : decode cX9_move 72 = .ok (.ifCond .ge 12, 3) := by decide +kernel
theorem dX9_move_75 : decode cX9_move 75 = .ok (.aload_n 0, 1) := by decide +kernel
theorem dX9_move_76 : decode cX9_move 76 = .ok (.iload 5, 2) := by decide +kernel
theorem dX9_move_78 : decode cX9_move 78 = .ok (.invokevirtual 71, 3) := by decide +kernel
theorem dX9_move_81 : decode cX9_move 81 = .ok (.goto 9, 3) := by decide +kernel
theorem dX9_move_84 : decode cX9_move 84 = .ok (.aload_n 0, 1) := by decide +kernel
theorem dX9_move_85 : decode cX9_move 85 = .ok (.iload 5, 2) := by decide +kernel
theorem dX9_move_87 : decode cX9_move 87 = .ok (.invokevirtual 152, 3) := by decide +kernel
theorem dX9_move_90 : decode cX9_move 90 = .ok (.ireturn, 1) := by decide +kernel
theorem dX9_type_0 : decode cX9_type 0 = .ok (.iload_n 1, 1) := by decide +kernel
theorem dX9_type_1 : decode cX9_type 1 = .ok (.invokestatic 216, 3) := by decide +kernel
theorem dX9_type_4 : decode cX9_type 4 = .ok (.ifCond .ne 10, 3) := by decide +kernel
theorem dX9_type_7 : decode cX9_type 7 = .ok (.aload_n 0, 1) := by decide +kernel
theorem dX9_type_8 : decode cX9_type 8 = .ok (.bipush (-3), 2) := by decide +kernel
theorem dX9_type_10 : decode cX9_type 10 = .ok (.invokevirtual 71, 3) := by decide +kernel
theorem dX9_type_13 : decode cX9_type 13 = .ok (.ireturn, 1) := by decide +kernel
theorem dX9_type_14 : decode cX9_type 14 = .ok (.aload_n 0, 1) := by decide +kernel
theorem dX9_type_15 : decode cX9_type 15 = .ok (.getfield 246, 3) := by decide +kernel
theorem dX9_type_18 : decode cX9_type 18 = .ok (.bipush 40, 2) := by decide +kernel
theorem dX9_type_20 : decode cX9_type 20 = .ok (.if_icmp .lt 10, 3) := by decide +kernel
theorem dX9_type_23 : decode cX9_type 23 = .ok (.aload_n 0, 1) := by decide +kernel
theorem dX9_type_24 : decode cX9_type 24 = .ok (.bipush (-5), 2) := by decide +kernel
theorem dX9_type_26 : decode cX9_type 26 = .ok (.invokevirtual 71, 3) := by decide +kernel
theorem dX9_type_29 : decode cX9_type 29 = .ok (.ireturn, 1) := by decide +kernel
theorem dX9_type_30 : decode cX9_type 30 = .ok (.aload_n 0, 1) := by decide +kernel
theorem dX9_type_31 : decode cX9_type 31 = .ok (.getfield 56, 3) := by decide +kernel
theorem dX9_type_34 : decode cX9_type 34 = .ok (.aload_n 0, 1) := by decide +kernel
theorem dX9_type_35 : decode cX9_type 35 = .ok (.getfield 246, 3) := by decide +kernel
theorem dX9_type_38 : decode cX9_type 38 = .ok (.iload_n 1, 1) := by decide +kernel
theorem dX9_type_39 : decode cX9_type 39 = .ok (.iastore, 1) := by decide +kernel
theorem dX9_type_40 : decode cX9_type 40 = .ok (.aload_n 0, 1) := by decide +kernel
theorem dX9_type_41 : decode cX9_type 41 = .ok (.dup, 1) := by decide +kernel
theorem dX9_type_42 : decode cX9_type 42 = .ok (.getfield 246, 3) := by decide +kernel
theorem dX9_type_45 : decode cX9_type 45 = .ok (.iconst 1, 1) := by decide +kernel
theorem dX9_type_46 : decode cX9_type 46 = .ok (.iadd, 1) := by decide +kernel
theorem dX9_type_47 : decode cX9_type 47 = .ok (.putfield 246, 3) := by decide +kernel
theorem dX9_type_50 : decode cX9_type 50 = .ok (.aload_n 0, 1) := by decide +kernel
theorem dX9_type_51 : decode cX9_type 51 = .ok (.aload_n 0, 1) := by decide +kernel
theorem dX9_type_52 : decode cX9_type 52 = .ok (.getfield 246, 3) := by decide +kernel
theorem dX9_type_55 : decode cX9_type 55 = .ok (.invokevirtual 152, 3) := by decide +kernel
theorem dX9_type_58 : decode cX9_type 58 = .ok (.ireturn, 1) := by decide +kernel
theorem dX9_untype_0 : decode cX9_untype 0 = .ok (.aload_n 0, 1) := by decide +kernel
theorem dX9_untype_1 : decode cX9_untype 1 = .ok (.getfield 246, 3) := by decide +kernel
theorem dX9_untype_4 : decode cX9_untype 4 = .ok (.istore_n 1, 1) := by decide +kernel
theorem dX9_untype_5 : decode cX9_untype 5 = .ok (.aload_n 0, 1) := by decide +kernel
theorem dX9_untype_6 : decode cX9_untype 6 = .ok (.iconst 0, 1) := by decide +kernel
theorem dX9_untype_7 : decode cX9_untype 7 = .ok (.putfield 246, 3) := by decide +kernel
theorem dX9_untype_10 : decode cX9_untype 10 = .ok (.aload_n 0, 1) := by decide +kernel
theorem dX9_untype_11 : decode cX9_untype 11 = .ok (.iload_n 1, 1) := by decide +kernel
theorem dX9_untype_12 : decode cX9_untype 12 = .ok (.invokevirtual 152, 3) := by decide +kernel
theorem dX9_untype_15 : decode cX9_untype 15 = .ok (.ireturn, 1) := by decide +kernel
theorem dX9_play_0 : decode cX9_play 0 = .ok (.aload_n 0, 1) := by decide +kernel
theorem dX9_play_1 : decode cX9_play 1 = .ok (.getfield 10, 3) := by decide +kernel
theorem dX9_play_4 : decode cX9_play 4 = .ok (.invokevirtual 198, 3) := by decide +kernel
theorem dX9_play_7 : decode cX9_play 7 = .ok (.iload_n 1, 1) := by decide +kernel
theorem dX9_play_8 : decode cX9_play 8 = .ok (.invokestatic 67, 3) := by decide +kernel
theorem dX9_play_11 : decode cX9_play 11 = .ok (.ifCond .ne 10, 3) := by decide +kernel
theorem dX9_play_14 : decode cX9_play 14 = .ok (.aload_n 0, 1) := by decide +kernel
theorem dX9_play_15 : decode cX9_play 15 = .ok (.bipush (-2), 2) := by decide +kernel
theorem dX9_play_17 : decode cX9_play 17 = .ok (.invokevirtual 71, 3) := by decide +kernel
theorem dX9_play_20 : decode cX9_play 20 = .ok (.ireturn, 1) := by decide +kernel
theorem dX9_play_21 : decode cX9_play 21 = .ok (.aload_n 0, 1) := by decide +kernel
theorem dX9_play_22 : decode cX9_play 22 = .ok (.aload_n 0, 1) := by decide +kernel
theorem dX9_play_23 : decode cX9_play 23 = .ok (.getfield 18, 3) := by decide +kernel
theorem dX9_play_26 : decode cX9_play 26 = .ok (.iload_n 1, 1) := by decide +kernel
theorem dX9_play_27 : decode cX9_play 27 = .ok (.aaload, 1) := by decide +kernel
theorem dX9_play_28 : decode cX9_play 28 = .ok (.invokevirtual 249, 3) := by decide +kernel
theorem dX9_play_31 : decode cX9_play 31 = .ok (.istore_n 2, 1) := by decide +kernel
theorem dX9_play_32 : decode cX9_play 32 = .ok (.aload_n 0, 1) := by decide +kernel
theorem dX9_play_33 : decode cX9_play 33 = .ok (.getfield 18, 3) := by decide +kernel
theorem dX9_play_36 : decode cX9_play 36 = .ok (.iload_n 1, 1) := by decide +kernel
theorem dX9_play_37 : decode cX9_play 37 = .ok (.aaload, 1) := by decide +kernel
theorem dX9_play_38 : decode cX9_play 38 = .ok (.getfield 237, 3) := by decide +kernel
theorem dX9_play_41 : decode cX9_play 41 = .ok (.aload_n 0, 1) := by decide +kernel
theorem dX9_play_42 : decode cX9_play 42 = .ok (.getfield 60, 3) := by decide +kernel
theorem dX9_play_45 : decode cX9_play 45 = .ok (.iload_n 2, 1) := by decide +kernel
theorem dX9_play_46 : decode cX9_play 46 = .ok (.invokevirtual 253, 3) := by decide +kernel
theorem dX9_play_49 : decode cX9_play 49 = .ok (.aload_n 0, 1) := by decide +kernel
theorem dX9_play_50 : decode cX9_play 50 = .ok (.iload_n 2, 1) := by decide +kernel
theorem dX9_play_51 : decode cX9_play 51 = .ok (.invokevirtual 152, 3) := by decide +kernel
theorem dX9_play_54 : decode cX9_play 54 = .ok (.ireturn, 1) := by decide +kernel
theorem dX9_attempt_0 : decode cX9_attempt 0 = .ok (.aload_n 0, 1) := by decide +kernel
theorem dX9_attempt_1 : decode cX9_attempt 1 = .ok (.getfield 10, 3) := by decide +kernel
theorem dX9_attempt_4 : decode cX9_attempt 4 = .ok (.invokevirtual 198, 3) := by decide +kernel
theorem dX9_attempt_7 : decode cX9_attempt 7 = .ok (.iload_n 1, 1) := by decide +kernel
theorem dX9_attempt_8 : decode cX9_attempt 8 = .ok (.invokestatic 67, 3) := by decide +kernel
theorem dX9_attempt_11 : decode cX9_attempt 11 = .ok (.ifCond .ne 10, 3) := by decide +kernel
theorem dX9_attempt_14 : decode cX9_attempt 14 = .ok (.aload_n 0, 1) := by decide +kernel
theorem dX9_attempt_15 : decode cX9_attempt 15 = .ok (.bipush (-2), 2) := by decide +kernel
theorem dX9_attempt_17 : decode cX9_attempt 17 = .ok (.invokevirtual 71, 3) := by decide +kernel
theorem dX9_attempt_20 : decode cX9_attempt 20 = .ok (.ireturn, 1) := by decide +kernel
theorem dX9_attempt_21 : decode cX9_attempt 21 = .ok (.aload_n 0, 1) := by decide +kernel
theorem dX9_attempt_22 : decode cX9_attempt 22 = .ok (.getfield 18, 3) := by decide +kernel
theorem dX9_attempt_25 : decode cX9_attempt 25 = .ok (.iload_n 1, 1) := by decide +kernel
theorem dX9_attempt_26 : decode cX9_attempt 26 = .ok (.aaload, 1) := by decide +kernel
theorem dX9_attempt_27 : decode cX9_attempt 27 = .ok (.astore_n 2, 1) := by decide +kernel
theorem dX9_attempt_28 : decode cX9_attempt 28 = .ok (.aload_n 2, 1) := by decide +kernel
theorem dX9_attempt_29 : decode cX9_attempt 29 = .ok (.invokevirtual 229, 3) := by decide +kernel
theorem dX9_attempt_32 : decode cX9_attempt 32 = .ok (.istore_n 3, 1) := by decide +kernel
theorem dX9_attempt_33 : decode cX9_attempt 33 = .ok (.aload_n 0, 1) := by decide +kernel
theorem dX9_attempt_34 : decode cX9_attempt 34 = .ok (.aload_n 2, 1) := by decide +kernel
theorem dX9_attempt_35 : decode cX9_attempt 35 = .ok (.invokevirtual 249, 3) := by decide +kernel
theorem dX9_attempt_38 : decode cX9_attempt 38 = .ok (.istore 4, 2) := by decide +kernel
theorem dX9_attempt_40 : decode cX9_attempt 40 = .ok (.aload_n 0, 1) := by decide +kernel
theorem dX9_attempt_41 : decode cX9_attempt 41 = .ok (.iload 4, 2) := by decide +kernel
theorem dX9_attempt_43 : decode cX9_attempt 43 = .ok (.putfield 257, 3) := by decide +kernel
theorem dX9_attempt_46 : decode cX9_attempt 46 = .ok (.aload_n 0, 1) := by decide +kernel
theorem dX9_attempt_47 : decode cX9_attempt 47 = .ok (.iload 4, 2) := by decide +kernel
theorem dX9_attempt_49 : decode cX9_attempt 49 = .ok (.aload_n 0, 1) := by decide +kernel
theorem dX9_attempt_50 : decode cX9_attempt 50 = .ok (.getfield 246, 3) := by decide +kernel
theorem dX9_attempt_53 : decode cX9_attempt 53 = .ok (.if_icmp .ge 13, 3) := by decide +kernel
theorem dX9_attempt_56 : decode cX9_attempt 56 = .ok (.aload_n 0, 1) := by decide +kernel
theorem dX9_attempt_57 : decode cX9_attempt 57 = .ok (.getfield 56, 3) := by decide +kernel
theorem dX9_attempt_60 : decode cX9_attempt 60 = .ok (.iload 4, 2) := by decide +kernel
theorem dX9_attempt_62 : decode cX9_attempt 62 = .ok (.iaload, 1) := by decide +kernel
theorem dX9_attempt_63 : decode cX9_attempt 63 = .ok (.goto 4, 3) := by decide +kernel
theorem dX9_attempt_66 : decode cX9_attempt 66 = .ok (.iconst (-1), 1) := by decide +kernel
theorem dX9_attempt_67 : decode cX9_attempt 67 = .ok (.putfield 63, 3) := by decide +kernel
theorem dX9_attempt_70 : decode cX9_attempt 70 = .ok (.aload_n 0, 1) := by decide +kernel
theorem dX9_attempt_71 : decode cX9_attempt 71 = .ok (.aload_n 0, 1) := by decide +kernel
theorem dX9_attempt_72 : decode cX9_attempt 72 = .ok (.getfield 260, 3) := by decide +kernel
theorem dX9_attempt_75 : decode cX9_attempt 75 = .ok (.ifCond .ge 13, 3) := by decide +kernel
theorem dX9_attempt_78 : decode cX9_attempt 78 = .ok (.bipush (-10), 2) := by decide +kernel
theorem dX9_attempt_80 : decode cX9_attempt 80 = .ok (.aload_n 0, 1) := by decide +kernel
theorem dX9_attempt_81 : decode cX9_attempt 81 = .ok (.getfield 260, 3) := by decide +kernel
theorem dX9_attempt_84 : decode cX9_attempt 84 = .ok (.isub, 1) := by decide +kernel
theorem dX9_attempt_85 : decode cX9_attempt 85 = .ok (.goto 4, 3) := by decide +kernel
theorem dX9_attempt_88 : decode cX9_attempt 88 = .ok (.iconst 0, 1) := by decide +kernel
theorem dX9_attempt_89 : decode cX9_attempt 89 = .ok (.putfield 263, 3) := by decide +kernel
theorem dX9_attempt_92 : decode cX9_attempt 92 = .ok (.iload 4, 2) := by decide +kernel
theorem dX9_attempt_94 : decode cX9_attempt 94 = .ok (.aload_n 0, 1) := by decide +kernel
theorem dX9_attempt_95 : decode cX9_attempt 95 = .ok (.getfield 246, 3) := by decide +kernel
theorem dX9_attempt_98 : decode cX9_attempt 98 = .ok (.if_icmp .lt 11, 3) := by decide +kernel
theorem dX9_attempt_101 : decode cX9_attempt 101 = .ok (.aload_n 2, 1) := by decide +kernel
theorem dX9_attempt_102 : decode cX9_attempt 102 = .ok (.iconst 1, 1) := by decide +kernel
theorem dX9_attempt_103 : decode cX9_attempt 103 = .ok (.invokevirtual 222, 3) := by decide +kernel
theorem dX9_attempt_106 : decode cX9_attempt 106 = .ok (.ifCond .ne 14, 3) := by decide +kernel
theorem dX9_attempt_109 : decode cX9_attempt 109 = .ok (.aload_n 2, 1) := by decide +kernel
theorem dX9_attempt_110 : decode cX9_attempt 110 = .ok (.iload_n 3, 1) := by decide +kernel
theorem dX9_attempt_111 : decode cX9_attempt 111 = .ok (.invokevirtual 231, 3) := by decide +kernel
theorem dX9_attempt_114 : decode cX9_attempt 114 = .ok (.aload_n 0, 1) := by decide +kernel
theorem dX9_attempt_115 : decode cX9_attempt 115 = .ok (.iconst 0, 1) := by decide +kernel
theorem dX9_attempt_116 : decode cX9_attempt 116 = .ok (.invokevirtual 152, 3) := by decide +kernel
theorem dX9_attempt_119 : decode cX9_attempt 119 = .ok (.ireturn, 1) := by decide +kernel
theorem dX9_attempt_120 : decode cX9_attempt 120 = .ok (.aload_n 2, 1) := by decide +kernel
theorem dX9_attempt_121 : decode cX9_attempt 121 = .ok (.getfield 237, 3) := by decide +kernel
theorem dX9_attempt_124 : decode cX9_attempt 124 = .ok (.aload_n 0, 1) := by decide +kernel
theorem dX9_attempt_125 : decode cX9_attempt 125 = .ok (.getfield 60, 3) := by decide +kernel
theorem dX9_attempt_128 : decode cX9_attempt 128 = .ok (.iload 4, 2) := by decide +kernel
theorem dX9_attempt_130 : decode cX9_attempt 130 = .ok (.invokevirtual 253, 3) := by decide +kernel
theorem dX9_attempt_133 : decode cX9_attempt 133 = .ok (.aload_n 0, 1) := by decide +kernel
theorem dX9_attempt_134 : decode cX9_attempt 134 = .ok (.iconst 1, 1) := by decide +kernel
theorem dX9_attempt_135 : decode cX9_attempt 135 = .ok (.invokevirtual 152, 3) := by decide +kernel
theorem dX9_attempt_138 : decode cX9_attempt 138 = .ok (.ireturn, 1) := by decide +kernel
theorem dX9_attempted_0 : decode cX9_attempted 0 = .ok (.iload_n 1, 1) := by decide +kernel
theorem dX9_attempted_1 : decode cX9_attempted 1 = .ok (.tableswitch 54 0 2 #[27, 36, 45], 27) := by decide +kernel
theorem dX9_attempted_28 : decode cX9_attempted 28 = .ok (.aload_n 0, 1) := by decide +kernel
theorem dX9_attempted_29 : decode cX9_attempted 29 = .ok (.aload_n 0, 1) := by decide +kernel
theorem dX9_attempted_30 : decode cX9_attempted 30 = .ok (.getfield 257, 3) := by decide +kernel
theorem dX9_attempted_33 : decode cX9_attempted 33 = .ok (.invokevirtual 152, 3) := by decide +kernel
theorem dX9_attempted_36 : decode cX9_attempted 36 = .ok (.ireturn, 1) := by decide +kernel
theorem dX9_attempted_37 : decode cX9_attempted 37 = .ok (.aload_n 0, 1) := by decide +kernel
theorem dX9_attempted_38 : decode cX9_attempted 38 = .ok (.aload_n 0, 1) := by decide +kernel
theorem dX9_attempted_39 : decode cX9_attempted 39 = .ok (.getfield 63, 3) := by decide +kernel
theorem dX9_attempted_42 : decode cX9_attempted 42 = .ok (.invokevirtual 152, 3) := by decide +kernel
theorem dX9_attempted_45 : decode cX9_attempted 45 = .ok (.ireturn, 1) := by decide +kernel
theorem dX9_attempted_46 : decode cX9_attempted 46 = .ok (.aload_n 0, 1) := by decide +kernel
theorem dX9_attempted_47 : decode cX9_attempted 47 = .ok (.aload_n 0, 1) := by decide +kernel
theorem dX9_attempted_48 : decode cX9_attempted 48 = .ok (.getfield 263, 3) := by decide +kernel
theorem dX9_attempted_51 : decode cX9_attempted 51 = .ok (.invokevirtual 152, 3) := by decide +kernel
theorem dX9_attempted_54 : decode cX9_attempted 54 = .ok (.ireturn, 1) := by decide +kernel
theorem dX9_attempted_55 : decode cX9_attempted 55 = .ok (.aload_n 0, 1) := by decide +kernel
theorem dX9_attempted_56 : decode cX9_attempted 56 = .ok (.bipush (-2), 2) := by decide +kernel
theorem dX9_attempted_58 : decode cX9_attempted 58 = .ok (.invokevirtual 71, 3) := by decide +kernel
theorem dX9_attempted_61 : decode cX9_attempted 61 = .ok (.ireturn, 1) := by decide +kernel
theorem dX9_back_0 : decode cX9_back 0 = .ok (.iload_n 1, 1) := by decide +kernel
theorem dX9_back_1 : decode cX9_back 1 = .ok (.invokestatic 67, 3) := by decide +kernel
theorem dX9_back_4 : decode cX9_back 4 = .ok (.ifCond .ne 10, 3) := by decide +kernel
theorem dX9_back_7 : decode cX9_back 7 = .ok (.aload_n 0, 1) := by decide +kernel
theorem dX9_back_8 : decode cX9_back 8 = .ok (.bipush (-2), 2) := by decide +kernel
theorem dX9_back_10 : decode cX9_back 10 = .ok (.invokevirtual 71, 3) := by decide +kernel
theorem dX9_back_13 : decode cX9_back 13 = .ok (.ireturn, 1) := by decide +kernel
theorem dX9_back_14 : decode cX9_back 14 = .ok (.aload_n 0, 1) := by decide +kernel
theorem dX9_back_15 : decode cX9_back 15 = .ok (.getfield 18, 3) := by decide +kernel
theorem dX9_back_18 : decode cX9_back 18 = .ok (.iload_n 1, 1) := by decide +kernel
theorem dX9_back_19 : decode cX9_back 19 = .ok (.aaload, 1) := by decide +kernel
theorem dX9_back_20 : decode cX9_back 20 = .ok (.astore_n 2, 1) := by decide +kernel
theorem dX9_back_21 : decode cX9_back 21 = .ok (.aload_n 2, 1) := by decide +kernel
theorem dX9_back_22 : decode cX9_back 22 = .ok (.getfield 237, 3) := by decide +kernel
theorem dX9_back_25 : decode cX9_back 25 = .ok (.getfield 266, 3) := by decide +kernel
theorem dX9_back_28 : decode cX9_back 28 = .ok (.ifCond .ne 10, 3) := by decide +kernel
theorem dX9_back_31 : decode cX9_back 31 = .ok (.aload_n 0, 1) := by decide +kernel
theorem dX9_back_32 : decode cX9_back 32 = .ok (.bipush (-4), 2) := by decide +kernel
theorem dX9_back_34 : decode cX9_back 34 = .ok (.invokevirtual 71, 3) := by decide +kernel
theorem dX9_back_37 : decode cX9_back 37 = .ok (.ireturn, 1) := by decide +kernel
theorem dX9_back_38 : decode cX9_back 38 = .ok (.aload_n 2, 1) := by decide +kernel
theorem dX9_back_39 : decode cX9_back 39 = .ok (.getfield 237, 3) := by decide +kernel
theorem dX9_back_42 : decode cX9_back 42 = .ok (.invokevirtual 269, 3) := by decide +kernel
theorem dX9_back_45 : decode cX9_back 45 = .ok (.istore_n 3, 1) := by decide +kernel
theorem dX9_back_46 : decode cX9_back 46 = .ok (.aload_n 2, 1) := by decide +kernel
theorem dX9_back_47 : decode cX9_back 47 = .ok (.iload_n 3, 1) := by decide +kernel
theorem dX9_back_48 : decode cX9_back 48 = .ok (.invokevirtual 231, 3) := by decide +kernel
theorem dX9_back_51 : decode cX9_back 51 = .ok (.aload_n 0, 1) := by decide +kernel
theorem dX9_back_52 : decode cX9_back 52 = .ok (.iload_n 3, 1) := by decide +kernel
theorem dX9_back_53 : decode cX9_back 53 = .ok (.invokevirtual 152, 3) := by decide +kernel
theorem dX9_back_56 : decode cX9_back 56 = .ok (.ireturn, 1) := by decide +kernel
theorem dX9_search_0 : decode cX9_search 0 = .ok (.iload_n 1, 1) := by decide +kernel
theorem dX9_search_1 : decode cX9_search 1 = .ok (.invokestatic 67, 3) := by decide +kernel
theorem dX9_search_4 : decode cX9_search 4 = .ok (.ifCond .ne 10, 3) := by decide +kernel
theorem dX9_search_7 : decode cX9_search 7 = .ok (.aload_n 0, 1) := by decide +kernel
theorem dX9_search_8 : decode cX9_search 8 = .ok (.bipush (-2), 2) := by decide +kernel
theorem dX9_search_10 : decode cX9_search 10 = .ok (.invokevirtual 71, 3) := by decide +kernel
theorem dX9_search_13 : decode cX9_search 13 = .ok (.ireturn, 1) := by decide +kernel
theorem dX9_search_14 : decode cX9_search 14 = .ok (.iload_n 2, 1) := by decide +kernel
theorem dX9_search_15 : decode cX9_search 15 = .ok (.iconst 1, 1) := by decide +kernel
theorem dX9_search_16 : decode cX9_search 16 = .ok (.if_icmp .lt 10, 3) := by decide +kernel
theorem dX9_search_19 : decode cX9_search 19 = .ok (.iload_n 2, 1) := by decide +kernel
theorem dX9_search_20 : decode cX9_search 20 = .ok (.sipush 1000, 3) := by decide +kernel
theorem dX9_search_23 : decode cX9_search 23 = .ok (.if_icmp .le 10, 3) := by decide +kernel
theorem dX9_search_26 : decode cX9_search 26 = .ok (.aload_n 0, 1) := by decide +kernel
theorem dX9_search_27 : decode cX9_search 27 = .ok (.bipush (-3), 2) := by decide +kernel
theorem dX9_search_29 : decode cX9_search 29 = .ok (.invokevirtual 71, 3) := by decide +kernel
theorem dX9_search_32 : decode cX9_search 32 = .ok (.ireturn, 1) := by decide +kernel
theorem dX9_search_33 : decode cX9_search 33 = .ok (.aload_n 0, 1) := by decide +kernel
theorem dX9_search_34 : decode cX9_search 34 = .ok (.invokevirtual 162, 3) := by decide +kernel
theorem dX9_search_37 : decode cX9_search 37 = .ok (.astore_n 3, 1) := by decide +kernel
theorem dX9_search_38 : decode cX9_search 38 = .ok (.aload_n 3, 1) := by decide +kernel
theorem dX9_search_39 : decode cX9_search 39 = .ok (.aload_n 0, 1) := by decide +kernel
theorem dX9_search_40 : decode cX9_search 40 = .ok (.getfield 18, 3) := by decide +kernel
theorem dX9_search_43 : decode cX9_search 43 = .ok (.iload_n 1, 1) := by decide +kernel
theorem dX9_search_44 : decode cX9_search 44 = .ok (.aaload, 1) := by decide +kernel
theorem dX9_search_45 : decode cX9_search 45 = .ok (.iload_n 1, 1) := by decide +kernel
theorem dX9_search_46 : decode cX9_search 46 = .ok (.invokevirtual 170, 3) := by decide +kernel
theorem dX9_search_49 : decode cX9_search 49 = .ok (.aload_n 3, 1) := by decide +kernel
theorem dX9_search_50 : decode cX9_search 50 = .ok (.iload_n 2, 1) := by decide +kernel
theorem dX9_search_51 : decode cX9_search 51 = .ok (.invokevirtual 175, 3) := by decide +kernel
theorem dX9_search_54 : decode cX9_search 54 = .ok (.aload_n 0, 1) := by decide +kernel
theorem dX9_search_55 : decode cX9_search 55 = .ok (.aload_n 3, 1) := by decide +kernel
theorem dX9_search_56 : decode cX9_search 56 = .ok (.invokevirtual 272, 3) := by decide +kernel
theorem dX9_search_59 : decode cX9_search 59 = .ok (.ifCond .eq 7, 3) := by decide +kernel
theorem dX9_search_62 : decode cX9_search 62 = .ok (.iconst 1, 1) := by decide +kernel
theorem dX9_search_63 : decode cX9_search 63 = .ok (.goto 4, 3) := by decide +kernel
theorem dX9_search_66 : decode cX9_search 66 = .ok (.iconst 0, 1) := by decide +kernel
theorem dX9_search_67 : decode cX9_search 67 = .ok (.invokevirtual 152, 3) := by decide +kernel
theorem dX9_search_70 : decode cX9_search 70 = .ok (.ireturn, 1) := by decide +kernel
theorem dX9_goOn_0 : decode cX9_goOn 0 = .ok (.iload_n 1, 1) := by decide +kernel
theorem dX9_goOn_1 : decode cX9_goOn 1 = .ok (.iconst 1, 1) := by decide +kernel
theorem dX9_goOn_2 : decode cX9_goOn 2 = .ok (.if_icmp .lt 10, 3) := by decide +kernel
theorem dX9_goOn_5 : decode cX9_goOn 5 = .ok (.iload_n 1, 1) := by decide +kernel
theorem dX9_goOn_6 : decode cX9_goOn 6 = .ok (.sipush 1000, 3) := by decide +kernel
theorem dX9_goOn_9 : decode cX9_goOn 9 = .ok (.if_icmp .le 10, 3) := by decide +kernel
theorem dX9_goOn_12 : decode cX9_goOn 12 = .ok (.aload_n 0, 1) := by decide +kernel
theorem dX9_goOn_13 : decode cX9_goOn 13 = .ok (.bipush (-3), 2) := by decide +kernel
theorem dX9_goOn_15 : decode cX9_goOn 15 = .ok (.invokevirtual 71, 3) := by decide +kernel
theorem dX9_goOn_18 : decode cX9_goOn 18 = .ok (.ireturn, 1) := by decide +kernel
theorem dX9_goOn_19 : decode cX9_goOn 19 = .ok (.aload_n 0, 1) := by decide +kernel
theorem dX9_goOn_20 : decode cX9_goOn 20 = .ok (.invokevirtual 276, 3) := by decide +kernel
theorem dX9_goOn_23 : decode cX9_goOn 23 = .ok (.astore_n 2, 1) := by decide +kernel
theorem dX9_goOn_24 : decode cX9_goOn 24 = .ok (.aload_n 2, 1) := by decide +kernel
theorem dX9_goOn_25 : decode cX9_goOn 25 = .ok (.ifnonnull 10, 3) := by decide +kernel
theorem dX9_goOn_28 : decode cX9_goOn 28 = .ok (.aload_n 0, 1) := by decide +kernel
theorem dX9_goOn_29 : decode cX9_goOn 29 = .ok (.bipush (-4), 2) := by decide +kernel
theorem dX9_goOn_31 : decode cX9_goOn 31 = .ok (.invokevirtual 71, 3) := by decide +kernel
theorem dX9_goOn_34 : decode cX9_goOn 34 = .ok (.ireturn, 1) := by decide +kernel
theorem dX9_goOn_35 : decode cX9_goOn 35 = .ok (.aload_n 2, 1) := by decide +kernel
theorem dX9_goOn_36 : decode cX9_goOn 36 = .ok (.iload_n 1, 1) := by decide +kernel
theorem dX9_goOn_37 : decode cX9_goOn 37 = .ok (.invokevirtual 175, 3) := by decide +kernel
theorem dX9_goOn_40 : decode cX9_goOn 40 = .ok (.aload_n 0, 1) := by decide +kernel
theorem dX9_goOn_41 : decode cX9_goOn 41 = .ok (.aload_n 2, 1) := by decide +kernel
theorem dX9_goOn_42 : decode cX9_goOn 42 = .ok (.invokevirtual 272, 3) := by decide +kernel
theorem dX9_goOn_45 : decode cX9_goOn 45 = .ok (.ifCond .eq 7, 3) := by decide +kernel
theorem dX9_goOn_48 : decode cX9_goOn 48 = .ok (.iconst 1, 1) := by decide +kernel
theorem dX9_goOn_49 : decode cX9_goOn 49 = .ok (.goto 4, 3) := by decide +kernel
theorem dX9_goOn_52 : decode cX9_goOn 52 = .ok (.iconst 0, 1) := by decide +kernel
theorem dX9_goOn_53 : decode cX9_goOn 53 = .ok (.invokevirtual 152, 3) := by decide +kernel
theorem dX9_goOn_56 : decode cX9_goOn 56 = .ok (.ireturn, 1) := by decide +kernel
theorem dX9_searched_0 : decode cX9_searched 0 = .ok (.iload_n 1, 1) := by decide +kernel
theorem dX9_searched_1 : decode cX9_searched 1 = .ok (.ifCond .lt 9, 3) := by decide +kernel
theorem dX9_searched_4 : decode cX9_searched 4 = .ok (.iload_n 1, 1) := by decide +kernel
theorem dX9_searched_5 : decode cX9_searched 5 = .ok (.bipush 6, 2) := by decide +kernel
theorem dX9_searched_7 : decode cX9_searched 7 = .ok (.if_icmp .le 10, 3) := by decide +kernel
theorem dX9_searched_10 : decode cX9_searched 10 = .ok (.aload_n 0, 1) := by decide +kernel
theorem dX9_searched_11 : decode cX9_searched 11 = .ok (.bipush (-2), 2) := by decide +kernel
theorem dX9_searched_13 : decode cX9_searched 13 = .ok (.invokevirtual 71, 3) := by decide +kernel
theorem dX9_searched_16 : decode cX9_searched 16 = .ok (.ireturn, 1) := by decide +kernel
theorem dX9_searched_17 : decode cX9_searched 17 = .ok (.aload_n 0, 1) := by decide +kernel
theorem dX9_searched_18 : decode cX9_searched 18 = .ok (.invokevirtual 279, 3) := by decide +kernel
theorem dX9_searched_21 : decode cX9_searched 21 = .ok (.astore_n 2, 1) := by decide +kernel
theorem dX9_searched_22 : decode cX9_searched 22 = .ok (.aload_n 0, 1) := by decide +kernel
theorem dX9_searched_23 : decode cX9_searched 23 = .ok (.aload_n 2, 1) := by decide +kernel
theorem dX9_searched_24 : decode cX9_searched 24 = .ok (.ifnonnull 7, 3) := by decide +kernel
theorem dX9_searched_27 : decode cX9_searched 27 = .ok (.iconst (-1), 1) := by decide +kernel
theorem dX9_searched_28 : decode cX9_searched 28 = .ok (.goto 8, 3) := by decide +kernel
theorem dX9_searched_31 : decode cX9_searched 31 = .ok (.aload_n 2, 1) := by decide +kernel
theorem dX9_searched_32 : decode cX9_searched 32 = .ok (.iload_n 1, 1) := by decide +kernel
theorem dX9_searched_33 : decode cX9_searched 33 = .ok (.invokevirtual 282, 3) := by decide +kernel
theorem dX9_searched_36 : decode cX9_searched 36 = .ok (.invokevirtual 152, 3) := by decide +kernel
theorem dX9_searched_39 : decode cX9_searched 39 = .ok (.ireturn, 1) := by decide +kernel
theorem dX9_ordered_0 : decode cX9_ordered 0 = .ok (.aload_n 0, 1) := by decide +kernel
theorem dX9_ordered_1 : decode cX9_ordered 1 = .ok (.invokevirtual 279, 3) := by decide +kernel
theorem dX9_ordered_4 : decode cX9_ordered 4 = .ok (.astore_n 2, 1) := by decide +kernel
theorem dX9_ordered_5 : decode cX9_ordered 5 = .ok (.aload_n 0, 1) := by decide +kernel
theorem dX9_ordered_6 : decode cX9_ordered 6 = .ok (.aload_n 2, 1) := by decide +kernel
theorem dX9_ordered_7 : decode cX9_ordered 7 = .ok (.ifnull 24, 3) := by decide +kernel
theorem dX9_ordered_10 : decode cX9_ordered 10 = .ok (.iload_n 1, 1) := by decide +kernel
theorem dX9_ordered_11 : decode cX9_ordered 11 = .ok (.ifCond .lt 20, 3) := by decide +kernel
theorem dX9_ordered_14 : decode cX9_ordered 14 = .ok (.iload_n 1, 1) := by decide +kernel
theorem dX9_ordered_15 : decode cX9_ordered 15 = .ok (.aload_n 2, 1) := by decide +kernel
theorem dX9_ordered_16 : decode cX9_ordered 16 = .ok (.getfield 285, 3) := by decide +kernel
theorem dX9_ordered_19 : decode cX9_ordered 19 = .ok (.if_icmp .ge 12, 3) := by decide +kernel
theorem dX9_ordered_22 : decode cX9_ordered 22 = .ok (.aload_n 2, 1) := by decide +kernel
theorem dX9_ordered_23 : decode cX9_ordered 23 = .ok (.getfield 288, 3) := by decide +kernel
theorem dX9_ordered_26 : decode cX9_ordered 26 = .ok (.iload_n 1, 1) := by decide +kernel
theorem dX9_ordered_27 : decode cX9_ordered 27 = .ok (.iaload, 1) := by decide +kernel
theorem dX9_ordered_28 : decode cX9_ordered 28 = .ok (.goto 4, 3) := by decide +kernel
theorem dX9_ordered_31 : decode cX9_ordered 31 = .ok (.iconst (-1), 1) := by decide +kernel
theorem dX9_ordered_32 : decode cX9_ordered 32 = .ok (.invokevirtual 152, 3) := by decide +kernel
theorem dX9_ordered_35 : decode cX9_ordered 35 = .ok (.ireturn, 1) := by decide +kernel
theorem dX9_layer_0 : decode cX9_layer 0 = .ok (.aload_n 0, 1) := by decide +kernel
theorem dX9_layer_1 : decode cX9_layer 1 = .ok (.invokevirtual 279, 3) := by decide +kernel
theorem dX9_layer_4 : decode cX9_layer 4 = .ok (.astore_n 2, 1) := by decide +kernel
theorem dX9_layer_5 : decode cX9_layer 5 = .ok (.aload_n 2, 1) := by decide +kernel
theorem dX9_layer_6 : decode cX9_layer 6 = .ok (.ifnonnull 9, 3) := by decide +kernel
theorem dX9_layer_9 : decode cX9_layer 9 = .ok (.aload_n 0, 1) := by decide +kernel
theorem dX9_layer_10 : decode cX9_layer 10 = .ok (.iconst (-1), 1) := by decide +kernel
theorem dX9_layer_11 : decode cX9_layer 11 = .ok (.invokevirtual 152, 3) := by decide +kernel
theorem dX9_layer_14 : decode cX9_layer 14 = .ok (.ireturn, 1) := by decide +kernel
theorem dX9_layer_15 : decode cX9_layer 15 = .ok (.aload_n 2, 1) := by decide +kernel
theorem dX9_layer_16 : decode cX9_layer 16 = .ok (.iload_n 1, 1) := by decide +kernel
theorem dX9_layer_17 : decode cX9_layer 17 = .ok (.invokevirtual 291, 3) := by decide +kernel
theorem dX9_layer_20 : decode cX9_layer 20 = .ok (.istore_n 3, 1) := by decide +kernel
theorem dX9_layer_21 : decode cX9_layer 21 = .ok (.aload_n 0, 1) := by decide +kernel
theorem dX9_layer_22 : decode cX9_layer 22 = .ok (.iload_n 3, 1) := by decide +kernel
theorem dX9_layer_23 : decode cX9_layer 23 = .ok (.iconst (-1), 1) := by decide +kernel
theorem dX9_layer_24 : decode cX9_layer 24 = .ok (.if_icmp .ne 7, 3) := by decide +kernel
theorem dX9_layer_27 : decode cX9_layer 27 = .ok (.iconst (-1), 1) := by decide +kernel
theorem dX9_layer_28 : decode cX9_layer 28 = .ok (.goto 9, 3) := by decide +kernel
theorem dX9_layer_31 : decode cX9_layer 31 = .ok (.aload_n 2, 1) := by decide +kernel
theorem dX9_layer_32 : decode cX9_layer 32 = .ok (.getfield 294, 3) := by decide +kernel
theorem dX9_layer_35 : decode cX9_layer 35 = .ok (.iload_n 3, 1) := by decide +kernel
theorem dX9_layer_36 : decode cX9_layer 36 = .ok (.iaload, 1) := by decide +kernel
theorem dX9_layer_37 : decode cX9_layer 37 = .ok (.invokevirtual 152, 3) := by decide +kernel
theorem dX9_layer_40 : decode cX9_layer 40 = .ok (.ireturn, 1) := by decide +kernel
theorem dX9_shortest_0 : decode cX9_shortest 0 = .ok (.aload_n 0, 1) := by decide +kernel
theorem dX9_shortest_1 : decode cX9_shortest 1 = .ok (.invokevirtual 276, 3) := by decide +kernel
theorem dX9_shortest_4 : decode cX9_shortest 4 = .ok (.astore_n 1, 1) := by decide +kernel
theorem dX9_shortest_5 : decode cX9_shortest 5 = .ok (.aload_n 1, 1) := by decide +kernel
theorem dX9_shortest_6 : decode cX9_shortest 6 = .ok (.ifnonnull 10, 3) := by decide +kernel
theorem dX9_shortest_9 : decode cX9_shortest 9 = .ok (.aload_n 0, 1) := by decide +kernel
theorem dX9_shortest_10 : decode cX9_shortest 10 = .ok (.bipush (-4), 2) := by decide +kernel
theorem dX9_shortest_12 : decode cX9_shortest 12 = .ok (.invokevirtual 71, 3) := by decide +kernel
theorem dX9_shortest_15 : decode cX9_shortest 15 = .ok (.ireturn, 1) := by decide +kernel
theorem dX9_shortest_16 : decode cX9_shortest 16 = .ok (.aload_n 1, 1) := by decide +kernel
theorem dX9_shortest_17 : decode cX9_shortest 17 = .ok (.invokevirtual 178, 3) := by decide +kernel
theorem dX9_shortest_20 : decode cX9_shortest 20 = .ok (.istore_n 2, 1) := by decide +kernel
theorem dX9_shortest_21 : decode cX9_shortest 21 = .ok (.aload_n 0, 1) := by decide +kernel
theorem dX9_shortest_22 : decode cX9_shortest 22 = .ok (.iload_n 2, 1) := by decide +kernel
theorem dX9_shortest_23 : decode cX9_shortest 23 = .ok (.iconst (-1), 1) := by decide +kernel
theorem dX9_shortest_24 : decode cX9_shortest 24 = .ok (.if_icmp .ne 15, 3) := by decide +kernel
theorem dX9_shortest_27 : decode cX9_shortest 27 = .ok (.aload_n 1, 1) := by decide +kernel
theorem dX9_shortest_28 : decode cX9_shortest 28 = .ok (.invokevirtual 272, 3) := by decide +kernel
theorem dX9_shortest_31 : decode cX9_shortest 31 = .ok (.ifCond .ne 8, 3) := by decide +kernel
theorem dX9_shortest_34 : decode cX9_shortest 34 = .ok (.bipush (-9), 2) := by decide +kernel
theorem dX9_shortest_36 : decode cX9_shortest 36 = .ok (.goto 4, 3) := by decide +kernel
theorem dX9_shortest_39 : decode cX9_shortest 39 = .ok (.iload_n 2, 1) := by decide +kernel
theorem dX9_shortest_40 : decode cX9_shortest 40 = .ok (.invokevirtual 152, 3) := by decide +kernel
theorem dX9_shortest_43 : decode cX9_shortest 43 = .ok (.ireturn, 1) := by decide +kernel
theorem dX9_way_0 : decode cX9_way 0 = .ok (.aload_n 0, 1) := by decide +kernel
theorem dX9_way_1 : decode cX9_way 1 = .ok (.invokevirtual 279, 3) := by decide +kernel
theorem dX9_way_4 : decode cX9_way 4 = .ok (.astore_n 2, 1) := by decide +kernel
theorem dX9_way_5 : decode cX9_way 5 = .ok (.aload_n 2, 1) := by decide +kernel
theorem dX9_way_6 : decode cX9_way 6 = .ok (.ifnull 15, 3) := by decide +kernel
theorem dX9_way_9 : decode cX9_way 9 = .ok (.iload_n 1, 1) := by decide +kernel
theorem dX9_way_10 : decode cX9_way 10 = .ok (.ifCond .lt 11, 3) := by decide +kernel
theorem dX9_way_13 : decode cX9_way 13 = .ok (.iload_n 1, 1) := by decide +kernel
theorem dX9_way_14 : decode cX9_way 14 = .ok (.aload_n 2, 1) := by decide +kernel
theorem dX9_way_15 : decode cX9_way 15 = .ok (.invokevirtual 178, 3) := by decide +kernel
theorem dX9_way_18 : decode cX9_way 18 = .ok (.if_icmp .lt 9, 3) := by decide +kernel
theorem dX9_way_21 : decode cX9_way 21 = .ok (.aload_n 0, 1) := by decide +kernel
theorem dX9_way_22 : decode cX9_way 22 = .ok (.iconst (-1), 1) := by decide +kernel
theorem dX9_way_23 : decode cX9_way 23 = .ok (.invokevirtual 152, 3) := by decide +kernel
theorem dX9_way_26 : decode cX9_way 26 = .ok (.ireturn, 1) := by decide +kernel
theorem dX9_way_27 : decode cX9_way 27 = .ok (.aload_n 0, 1) := by decide +kernel
theorem dX9_way_28 : decode cX9_way 28 = .ok (.aload_n 2, 1) := by decide +kernel
theorem dX9_way_29 : decode cX9_way 29 = .ok (.getfield 297, 3) := by decide +kernel
theorem dX9_way_32 : decode cX9_way 32 = .ok (.aload_n 2, 1) := by decide +kernel
theorem dX9_way_33 : decode cX9_way 33 = .ok (.iload_n 1, 1) := by decide +kernel
theorem dX9_way_34 : decode cX9_way 34 = .ok (.iconst 1, 1) := by decide +kernel
theorem dX9_way_35 : decode cX9_way 35 = .ok (.iadd, 1) := by decide +kernel
theorem dX9_way_36 : decode cX9_way 36 = .ok (.invokevirtual 300, 3) := by decide +kernel
theorem dX9_way_39 : decode cX9_way 39 = .ok (.iaload, 1) := by decide +kernel
theorem dX9_way_40 : decode cX9_way 40 = .ok (.invokevirtual 152, 3) := by decide +kernel
theorem dX9_way_43 : decode cX9_way 43 = .ok (.ireturn, 1) := by decide +kernel
theorem dX9_along_0 : decode cX9_along 0 = .ok (.aload_n 0, 1) := by decide +kernel
theorem dX9_along_1 : decode cX9_along 1 = .ok (.invokevirtual 279, 3) := by decide +kernel
theorem dX9_along_4 : decode cX9_along 4 = .ok (.astore_n 2, 1) := by decide +kernel
theorem dX9_along_5 : decode cX9_along 5 = .ok (.aload_n 2, 1) := by decide +kernel
theorem dX9_along_6 : decode cX9_along 6 = .ok (.ifnull 15, 3) := by decide +kernel
theorem dX9_along_9 : decode cX9_along 9 = .ok (.iload_n 1, 1) := by decide +kernel
theorem dX9_along_10 : decode cX9_along 10 = .ok (.ifCond .lt 11, 3) := by decide +kernel
theorem dX9_along_13 : decode cX9_along 13 = .ok (.iload_n 1, 1) := by decide +kernel
theorem dX9_along_14 : decode cX9_along 14 = .ok (.aload_n 2, 1) := by decide +kernel
theorem dX9_along_15 : decode cX9_along 15 = .ok (.invokevirtual 178, 3) := by decide +kernel
theorem dX9_along_18 : decode cX9_along 18 = .ok (.if_icmp .le 9, 3) := by decide +kernel
theorem dX9_along_21 : decode cX9_along 21 = .ok (.aload_n 0, 1) := by decide +kernel
theorem dX9_along_22 : decode cX9_along 22 = .ok (.iconst (-1), 1) := by decide +kernel
theorem dX9_along_23 : decode cX9_along 23 = .ok (.invokevirtual 152, 3) := by decide +kernel
theorem dX9_along_26 : decode cX9_along 26 = .ok (.ireturn, 1) := by decide +kernel
theorem dX9_along_27 : decode cX9_along 27 = .ok (.aload_n 0, 1) := by decide +kernel
theorem dX9_along_28 : decode cX9_along 28 = .ok (.aload_n 2, 1) := by decide +kernel
theorem dX9_along_29 : decode cX9_along 29 = .ok (.getfield 288, 3) := by decide +kernel
theorem dX9_along_32 : decode cX9_along 32 = .ok (.aload_n 2, 1) := by decide +kernel
theorem dX9_along_33 : decode cX9_along 33 = .ok (.iload_n 1, 1) := by decide +kernel
theorem dX9_along_34 : decode cX9_along 34 = .ok (.invokevirtual 300, 3) := by decide +kernel
theorem dX9_along_37 : decode cX9_along 37 = .ok (.iaload, 1) := by decide +kernel
theorem dX9_along_38 : decode cX9_along 38 = .ok (.invokevirtual 152, 3) := by decide +kernel
theorem dX9_along_41 : decode cX9_along 41 = .ok (.ireturn, 1) := by decide +kernel
theorem dX9_trap_0 : decode cX9_trap 0 = .ok (.aload_n 0, 1) := by decide +kernel
theorem dX9_trap_1 : decode cX9_trap 1 = .ok (.invokevirtual 303, 3) := by decide +kernel
theorem dX9_trap_4 : decode cX9_trap 4 = .ok (.astore_n 2, 1) := by decide +kernel
theorem dX9_trap_5 : decode cX9_trap 5 = .ok (.aload_n 2, 1) := by decide +kernel
theorem dX9_trap_6 : decode cX9_trap 6 = .ok (.ifnonnull 10, 3) := by decide +kernel
theorem dX9_trap_9 : decode cX9_trap 9 = .ok (.aload_n 0, 1) := by decide +kernel
theorem dX9_trap_10 : decode cX9_trap 10 = .ok (.bipush (-4), 2) := by decide +kernel
theorem dX9_trap_12 : decode cX9_trap 12 = .ok (.invokevirtual 71, 3) := by decide +kernel
theorem dX9_trap_15 : decode cX9_trap 15 = .ok (.ireturn, 1) := by decide +kernel
theorem dX9_trap_16 : decode cX9_trap 16 = .ok (.aload_n 2, 1) := by decide +kernel
theorem dX9_trap_17 : decode cX9_trap 17 = .ok (.iload_n 1, 1) := by decide +kernel
theorem dX9_trap_18 : decode cX9_trap 18 = .ok (.invokevirtual 291, 3) := by decide +kernel
theorem dX9_trap_21 : decode cX9_trap 21 = .ok (.istore_n 3, 1) := by decide +kernel
theorem dX9_trap_22 : decode cX9_trap 22 = .ok (.iload_n 3, 1) := by decide +kernel
theorem dX9_trap_23 : decode cX9_trap 23 = .ok (.iconst (-1), 1) := by decide +kernel
theorem dX9_trap_24 : decode cX9_trap 24 = .ok (.if_icmp .ne 9, 3) := by decide +kernel
theorem dX9_trap_27 : decode cX9_trap 27 = .ok (.aload_n 0, 1) := by decide +kernel
theorem dX9_trap_28 : decode cX9_trap 28 = .ok (.iconst (-1), 1) := by decide +kernel
theorem dX9_trap_29 : decode cX9_trap 29 = .ok (.invokevirtual 152, 3) := by decide +kernel
theorem dX9_trap_32 : decode cX9_trap 32 = .ok (.ireturn, 1) := by decide +kernel
theorem dX9_trap_33 : decode cX9_trap 33 = .ok (.aload_n 2, 1) := by decide +kernel
theorem dX9_trap_34 : decode cX9_trap 34 = .ok (.invokevirtual 306, 3) := by decide +kernel
theorem dX9_trap_37 : decode cX9_trap 37 = .ok (.aload_n 0, 1) := by decide +kernel
theorem dX9_trap_38 : decode cX9_trap 38 = .ok (.aload_n 2, 1) := by decide +kernel
theorem dX9_trap_39 : decode cX9_trap 39 = .ok (.getfield 309, 3) := by decide +kernel
theorem dX9_trap_42 : decode cX9_trap 42 = .ok (.iload_n 3, 1) := by decide +kernel
theorem dX9_trap_43 : decode cX9_trap 43 = .ok (.iaload, 1) := by decide +kernel
theorem dX9_trap_44 : decode cX9_trap 44 = .ok (.iconst (-1), 1) := by decide +kernel
theorem dX9_trap_45 : decode cX9_trap 45 = .ok (.if_icmp .ne 7, 3) := by decide +kernel
theorem dX9_trap_48 : decode cX9_trap 48 = .ok (.iconst 1, 1) := by decide +kernel
theorem dX9_trap_49 : decode cX9_trap 49 = .ok (.goto 4, 3) := by decide +kernel
theorem dX9_trap_52 : decode cX9_trap 52 = .ok (.iconst 0, 1) := by decide +kernel
theorem dX9_trap_53 : decode cX9_trap 53 = .ok (.invokevirtual 152, 3) := by decide +kernel
theorem dX9_trap_56 : decode cX9_trap 56 = .ok (.ireturn, 1) := by decide +kernel
theorem dX9_traps_0 : decode cX9_traps 0 = .ok (.aload_n 0, 1) := by decide +kernel
theorem dX9_traps_1 : decode cX9_traps 1 = .ok (.invokevirtual 303, 3) := by decide +kernel
theorem dX9_traps_4 : decode cX9_traps 4 = .ok (.astore_n 1, 1) := by decide +kernel
theorem dX9_traps_5 : decode cX9_traps 5 = .ok (.aload_n 1, 1) := by decide +kernel
theorem dX9_traps_6 : decode cX9_traps 6 = .ok (.ifnonnull 10, 3) := by decide +kernel
theorem dX9_traps_9 : decode cX9_traps 9 = .ok (.aload_n 0, 1) := by decide +kernel
theorem dX9_traps_10 : decode cX9_traps 10 = .ok (.bipush (-4), 2) := by decide +kernel
theorem dX9_traps_12 : decode cX9_traps 12 = .ok (.invokevirtual 71, 3) := by decide +kernel
theorem dX9_traps_15 : decode cX9_traps 15 = .ok (.ireturn, 1) := by decide +kernel
theorem dX9_traps_16 : decode cX9_traps 16 = .ok (.aload_n 1, 1) := by decide +kernel
theorem dX9_traps_17 : decode cX9_traps 17 = .ok (.invokevirtual 306, 3) := by decide +kernel
theorem dX9_traps_20 : decode cX9_traps 20 = .ok (.aload_n 0, 1) := by decide +kernel
theorem dX9_traps_21 : decode cX9_traps 21 = .ok (.aload_n 1, 1) := by decide +kernel
theorem dX9_traps_22 : decode cX9_traps 22 = .ok (.invokevirtual 312, 3) := by decide +kernel
theorem dX9_traps_25 : decode cX9_traps 25 = .ok (.invokevirtual 152, 3) := by decide +kernel
theorem dX9_traps_28 : decode cX9_traps 28 = .ok (.ireturn, 1) := by decide +kernel
theorem dX9_hint_0 : decode cX9_hint 0 = .ok (.iload_n 1, 1) := by decide +kernel
theorem dX9_hint_1 : decode cX9_hint 1 = .ok (.invokestatic 67, 3) := by decide +kernel
theorem dX9_hint_4 : decode cX9_hint 4 = .ok (.ifCond .ne 10, 3) := by decide +kernel
theorem dX9_hint_7 : decode cX9_hint 7 = .ok (.aload_n 0, 1) := by decide +kernel
theorem dX9_hint_8 : decode cX9_hint 8 = .ok (.bipush (-2), 2) := by decide +kernel
theorem dX9_hint_10 : decode cX9_hint 10 = .ok (.invokevirtual 71, 3) := by decide +kernel
theorem dX9_hint_13 : decode cX9_hint 13 = .ok (.ireturn, 1) := by decide +kernel
theorem dX9_hint_14 : decode cX9_hint 14 = .ok (.aload_n 0, 1) := by decide +kernel
theorem dX9_hint_15 : decode cX9_hint 15 = .ok (.invokevirtual 303, 3) := by decide +kernel
theorem dX9_hint_18 : decode cX9_hint 18 = .ok (.astore_n 2, 1) := by decide +kernel
theorem dX9_hint_19 : decode cX9_hint 19 = .ok (.aload_n 2, 1) := by decide +kernel
theorem dX9_hint_20 : decode cX9_hint 20 = .ok (.ifnull 11, 3) := by decide +kernel
theorem dX9_hint_23 : decode cX9_hint 23 = .ok (.aload_n 2, 1) := by decide +kernel
theorem dX9_hint_24 : decode cX9_hint 24 = .ok (.getfield 315, 3) := by decide +kernel
theorem dX9_hint_27 : decode cX9_hint 27 = .ok (.iload_n 1, 1) := by decide +kernel
theorem dX9_hint_28 : decode cX9_hint 28 = .ok (.if_icmp .eq 10, 3) := by decide +kernel
theorem dX9_hint_31 : decode cX9_hint 31 = .ok (.aload_n 0, 1) := by decide +kernel
theorem dX9_hint_32 : decode cX9_hint 32 = .ok (.bipush (-4), 2) := by decide +kernel
theorem dX9_hint_34 : decode cX9_hint 34 = .ok (.invokevirtual 71, 3) := by decide +kernel
theorem dX9_hint_37 : decode cX9_hint 37 = .ok (.ireturn, 1) := by decide +kernel
theorem dX9_hint_38 : decode cX9_hint 38 = .ok (.aload_n 2, 1) := by decide +kernel
theorem dX9_hint_39 : decode cX9_hint 39 = .ok (.invokevirtual 306, 3) := by decide +kernel
theorem dX9_hint_42 : decode cX9_hint 42 = .ok (.aload_n 0, 1) := by decide +kernel
theorem dX9_hint_43 : decode cX9_hint 43 = .ok (.aload_n 2, 1) := by decide +kernel
theorem dX9_hint_44 : decode cX9_hint 44 = .ok (.invokevirtual 318, 3) := by decide +kernel
theorem dX9_hint_47 : decode cX9_hint 47 = .ok (.invokevirtual 152, 3) := by decide +kernel
theorem dX9_hint_50 : decode cX9_hint 50 = .ok (.ireturn, 1) := by decide +kernel
theorem dX9_mark_0 : decode cX9_mark 0 = .ok (.iload_n 1, 1) := by decide +kernel
theorem dX9_mark_1 : decode cX9_mark 1 = .ok (.ifCond .lt 23, 3) := by decide +kernel
theorem dX9_mark_4 : decode cX9_mark 4 = .ok (.iload_n 1, 1) := by decide +kernel
theorem dX9_mark_5 : decode cX9_mark 5 = .ok (.sipush 1024, 3) := by decide +kernel
theorem dX9_mark_8 : decode cX9_mark 8 = .ok (.if_icmp .gt 16, 3) := by decide +kernel
theorem dX9_mark_11 : decode cX9_mark 11 = .ok (.iload_n 2, 1) := by decide +kernel
theorem dX9_mark_12 : decode cX9_mark 12 = .ok (.ifCond .lt 12, 3) := by decide +kernel
theorem dX9_mark_15 : decode cX9_mark 15 = .ok (.iload_n 2, 1) := by decide +kernel
theorem dX9_mark_16 : decode cX9_mark 16 = .ok (.sipush 1024, 3) := by decide +kernel
theorem dX9_mark_19 : decode cX9_mark 19 = .ok (.iload_n 1, 1) := by decide +kernel
theorem dX9_mark_20 : decode cX9_mark 20 = .ok (.isub, 1) := by decide +kernel
theorem dX9_mark_21 : decode cX9_mark 21 = .ok (.if_icmp .le 10, 3) := by decide +kernel
theorem dX9_mark_24 : decode cX9_mark 24 = .ok (.aload_n 0, 1) := by decide +kernel
theorem dX9_mark_25 : decode cX9_mark 25 = .ok (.bipush (-3), 2) := by decide +kernel
theorem dX9_mark_27 : decode cX9_mark 27 = .ok (.invokevirtual 71, 3) := by decide +kernel
theorem dX9_mark_30 : decode cX9_mark 30 = .ok (.ireturn, 1) := by decide +kernel
theorem dX9_mark_31 : decode cX9_mark 31 = .ok (.aload_n 0, 1) := by decide +kernel
theorem dX9_mark_32 : decode cX9_mark 32 = .ok (.aload_n 0, 1) := by decide +kernel
theorem dX9_mark_33 : decode cX9_mark 33 = .ok (.getfield 39, 3) := by decide +kernel
theorem dX9_mark_36 : decode cX9_mark 36 = .ok (.iload_n 1, 1) := by decide +kernel
theorem dX9_mark_37 : decode cX9_mark 37 = .ok (.iload_n 2, 1) := by decide +kernel
theorem dX9_mark_38 : decode cX9_mark 38 = .ok (.iload_n 3, 1) := by decide +kernel
theorem dX9_mark_39 : decode cX9_mark 39 = .ok (.invokevirtual 321, 3) := by decide +kernel
theorem dX9_mark_42 : decode cX9_mark 42 = .ok (.invokevirtual 152, 3) := by decide +kernel
theorem dX9_mark_45 : decode cX9_mark 45 = .ok (.ireturn, 1) := by decide +kernel
theorem dX9_markAll_0 : decode cX9_markAll 0 = .ok (.aload_n 0, 1) := by decide +kernel
theorem dX9_markAll_1 : decode cX9_markAll 1 = .ok (.invokevirtual 279, 3) := by decide +kernel
theorem dX9_markAll_4 : decode cX9_markAll 4 = .ok (.astore_n 1, 1) := by decide +kernel
theorem dX9_markAll_5 : decode cX9_markAll 5 = .ok (.aload_n 1, 1) := by decide +kernel
theorem dX9_markAll_6 : decode cX9_markAll 6 = .ok (.ifnonnull 10, 3) := by decide +kernel
theorem dX9_markAll_9 : decode cX9_markAll 9 = .ok (.aload_n 0, 1) := by decide +kernel
theorem dX9_markAll_10 : decode cX9_markAll 10 = .ok (.bipush (-4), 2) := by decide +kernel
theorem dX9_markAll_12 : decode cX9_markAll 12 = .ok (.invokevirtual 71, 3) := by decide +kernel
theorem dX9_markAll_15 : decode cX9_markAll 15 = .ok (.ireturn, 1) := by decide +kernel
theorem dX9_markAll_16 : decode cX9_markAll 16 = .ok (.aload_n 0, 1) := by decide +kernel
theorem dX9_markAll_17 : decode cX9_markAll 17 = .ok (.getfield 39, 3) := by decide +kernel
theorem dX9_markAll_20 : decode cX9_markAll 20 = .ok (.iconst 0, 1) := by decide +kernel
theorem dX9_markAll_21 : decode cX9_markAll 21 = .ok (.sipush 1024, 3) := by decide +kernel
theorem dX9_markAll_24 : decode cX9_markAll 24 = .ok (.iconst 0, 1) := by decide +kernel
theorem dX9_markAll_25 : decode cX9_markAll 25 = .ok (.invokevirtual 321, 3) := by decide +kernel
theorem dX9_markAll_28 : decode cX9_markAll 28 = .ok (.pop, 1) := by decide +kernel
theorem dX9_markAll_29 : decode cX9_markAll 29 = .ok (.iconst 0, 1) := by decide +kernel
theorem dX9_markAll_30 : decode cX9_markAll 30 = .ok (.istore_n 2, 1) := by decide +kernel
theorem dX9_markAll_31 : decode cX9_markAll 31 = .ok (.iload_n 2, 1) := by decide +kernel
theorem dX9_markAll_32 : decode cX9_markAll 32 = .ok (.aload_n 1, 1) := by decide +kernel
theorem dX9_markAll_33 : decode cX9_markAll 33 = .ok (.getfield 285, 3) := by decide +kernel
theorem dX9_markAll_36 : decode cX9_markAll 36 = .ok (.if_icmp .ge 24, 3) := by decide +kernel
theorem dX9_markAll_39 : decode cX9_markAll 39 = .ok (.aload_n 0, 1) := by decide +kernel
theorem dX9_markAll_40 : decode cX9_markAll 40 = .ok (.getfield 39, 3) := by decide +kernel
theorem dX9_markAll_43 : decode cX9_markAll 43 = .ok (.getfield 324, 3) := by decide +kernel
theorem dX9_markAll_46 : decode cX9_markAll 46 = .ok (.aload_n 1, 1) := by decide +kernel
theorem dX9_markAll_47 : decode cX9_markAll 47 = .ok (.getfield 288, 3) := by decide +kernel
theorem dX9_markAll_50 : decode cX9_markAll 50 = .ok (.iload_n 2, 1) := by decide +kernel
theorem dX9_markAll_51 : decode cX9_markAll 51 = .ok (.iaload, 1) := by decide +kernel
theorem dX9_markAll_52 : decode cX9_markAll 52 = .ok (.iconst 1, 1) := by decide +kernel
theorem dX9_markAll_53 : decode cX9_markAll 53 = .ok (.bastore, 1) := by decide +kernel
theorem dX9_markAll_54 : decode cX9_markAll 54 = .ok (.iinc 2 1, 3) := by decide +kernel
theorem dX9_markAll_57 : decode cX9_markAll 57 = .ok (.goto (-26), 3) := by decide +kernel
theorem dX9_markAll_60 : decode cX9_markAll 60 = .ok (.aload_n 0, 1) := by decide +kernel
theorem dX9_markAll_61 : decode cX9_markAll 61 = .ok (.aload_n 1, 1) := by decide +kernel
theorem dX9_markAll_62 : decode cX9_markAll 62 = .ok (.getfield 285, 3) := by decide +kernel
theorem dX9_markAll_65 : decode cX9_markAll 65 = .ok (.invokevirtual 152, 3) := by decide +kernel
theorem dX9_markAll_68 : decode cX9_markAll 68 = .ok (.ireturn, 1) := by decide +kernel
theorem dX9_marked_0 : decode cX9_marked 0 = .ok (.iload_n 1, 1) := by decide +kernel
theorem dX9_marked_1 : decode cX9_marked 1 = .ok (.ifCond .lt 10, 3) := by decide +kernel
theorem dX9_marked_4 : decode cX9_marked 4 = .ok (.iload_n 1, 1) := by decide +kernel
theorem dX9_marked_5 : decode cX9_marked 5 = .ok (.sipush 1024, 3) := by decide +kernel
theorem dX9_marked_8 : decode cX9_marked 8 = .ok (.if_icmp .lt 9, 3) := by decide +kernel
theorem dX9_marked_11 : decode cX9_marked 11 = .ok (.aload_n 0, 1) := by decide +kernel
theorem dX9_marked_12 : decode cX9_marked 12 = .ok (.iconst (-1), 1) := by decide +kernel
theorem dX9_marked_13 : decode cX9_marked 13 = .ok (.invokevirtual 152, 3) := by decide +kernel
theorem dX9_marked_16 : decode cX9_marked 16 = .ok (.ireturn, 1) := by decide +kernel
theorem dX9_marked_17 : decode cX9_marked 17 = .ok (.aload_n 0, 1) := by decide +kernel
theorem dX9_marked_18 : decode cX9_marked 18 = .ok (.aload_n 0, 1) := by decide +kernel
theorem dX9_marked_19 : decode cX9_marked 19 = .ok (.getfield 39, 3) := by decide +kernel
theorem dX9_marked_22 : decode cX9_marked 22 = .ok (.getfield 324, 3) := by decide +kernel
theorem dX9_marked_25 : decode cX9_marked 25 = .ok (.iload_n 1, 1) := by decide +kernel
theorem dX9_marked_26 : decode cX9_marked 26 = .ok (.baload, 1) := by decide +kernel
theorem dX9_marked_27 : decode cX9_marked 27 = .ok (.ifCond .eq 7, 3) := by decide +kernel
theorem dX9_marked_30 : decode cX9_marked 30 = .ok (.iconst 1, 1) := by decide +kernel
theorem dX9_marked_31 : decode cX9_marked 31 = .ok (.goto 4, 3) := by decide +kernel
theorem dX9_marked_34 : decode cX9_marked 34 = .ok (.iconst 0, 1) := by decide +kernel
theorem dX9_marked_35 : decode cX9_marked 35 = .ok (.invokevirtual 152, 3) := by decide +kernel
theorem dX9_marked_38 : decode cX9_marked 38 = .ok (.ireturn, 1) := by decide +kernel
theorem dX9_shows_0 : decode cX9_shows 0 = .ok (.iload_n 1, 1) := by decide +kernel
theorem dX9_shows_1 : decode cX9_shows 1 = .ok (.invokestatic 67, 3) := by decide +kernel
theorem dX9_shows_4 : decode cX9_shows 4 = .ok (.ifCond .ne 10, 3) := by decide +kernel
theorem dX9_shows_7 : decode cX9_shows 7 = .ok (.aload_n 0, 1) := by decide +kernel
theorem dX9_shows_8 : decode cX9_shows 8 = .ok (.bipush (-2), 2) := by decide +kernel
theorem dX9_shows_10 : decode cX9_shows 10 = .ok (.invokevirtual 71, 3) := by decide +kernel
theorem dX9_shows_13 : decode cX9_shows 13 = .ok (.ireturn, 1) := by decide +kernel
theorem dX9_shows_14 : decode cX9_shows 14 = .ok (.aload_n 0, 1) := by decide +kernel
theorem dX9_shows_15 : decode cX9_shows 15 = .ok (.aload_n 0, 1) := by decide +kernel
theorem dX9_shows_16 : decode cX9_shows 16 = .ok (.getfield 39, 3) := by decide +kernel
theorem dX9_shows_19 : decode cX9_shows 19 = .ok (.aload_n 0, 1) := by decide +kernel
theorem dX9_shows_20 : decode cX9_shows 20 = .ok (.getfield 18, 3) := by decide +kernel
theorem dX9_shows_23 : decode cX9_shows 23 = .ok (.iload_n 1, 1) := by decide +kernel
theorem dX9_shows_24 : decode cX9_shows 24 = .ok (.aaload, 1) := by decide +kernel
theorem dX9_shows_25 : decode cX9_shows 25 = .ok (.invokevirtual 328, 3) := by decide +kernel
theorem dX9_shows_28 : decode cX9_shows 28 = .ok (.ifCond .eq 7, 3) := by decide +kernel
theorem dX9_shows_31 : decode cX9_shows 31 = .ok (.iconst 1, 1) := by decide +kernel
theorem dX9_shows_32 : decode cX9_shows 32 = .ok (.goto 4, 3) := by decide +kernel
theorem dX9_shows_35 : decode cX9_shows 35 = .ok (.iconst 0, 1) := by decide +kernel
theorem dX9_shows_36 : decode cX9_shows 36 = .ok (.invokevirtual 152, 3) := by decide +kernel
theorem dX9_shows_39 : decode cX9_shows 39 = .ok (.ireturn, 1) := by decide +kernel
theorem dX9_shown_0 : decode cX9_shown 0 = .ok (.iload_n 1, 1) := by decide +kernel
theorem dX9_shown_1 : decode cX9_shown 1 = .ok (.tableswitch 63 0 2 #[27, 39, 51], 27) := by decide +kernel
theorem dX9_shown_28 : decode cX9_shown 28 = .ok (.aload_n 0, 1) := by decide +kernel
theorem dX9_shown_29 : decode cX9_shown 29 = .ok (.aload_n 0, 1) := by decide +kernel
theorem dX9_shown_30 : decode cX9_shown 30 = .ok (.getfield 39, 3) := by decide +kernel
theorem dX9_shown_33 : decode cX9_shown 33 = .ok (.getfield 332, 3) := by decide +kernel
theorem dX9_shown_36 : decode cX9_shown 36 = .ok (.invokevirtual 152, 3) := by decide +kernel
theorem dX9_shown_39 : decode cX9_shown 39 = .ok (.ireturn, 1) := by decide +kernel
theorem dX9_shown_40 : decode cX9_shown 40 = .ok (.aload_n 0, 1) := by decide +kernel
theorem dX9_shown_41 : decode cX9_shown 41 = .ok (.aload_n 0, 1) := by decide +kernel
theorem dX9_shown_42 : decode cX9_shown 42 = .ok (.getfield 39, 3) := by decide +kernel
theorem dX9_shown_45 : decode cX9_shown 45 = .ok (.getfield 335, 3) := by decide +kernel
theorem dX9_shown_48 : decode cX9_shown 48 = .ok (.invokevirtual 152, 3) := by decide +kernel
theorem dX9_shown_51 : decode cX9_shown 51 = .ok (.ireturn, 1) := by decide +kernel
theorem dX9_shown_52 : decode cX9_shown 52 = .ok (.aload_n 0, 1) := by decide +kernel
theorem dX9_shown_53 : decode cX9_shown 53 = .ok (.aload_n 0, 1) := by decide +kernel
theorem dX9_shown_54 : decode cX9_shown 54 = .ok (.getfield 39, 3) := by decide +kernel
theorem dX9_shown_57 : decode cX9_shown 57 = .ok (.getfield 338, 3) := by decide +kernel
theorem dX9_shown_60 : decode cX9_shown 60 = .ok (.invokevirtual 152, 3) := by decide +kernel
theorem dX9_shown_63 : decode cX9_shown 63 = .ok (.ireturn, 1) := by decide +kernel
theorem dX9_shown_64 : decode cX9_shown 64 = .ok (.aload_n 0, 1) := by decide +kernel
theorem dX9_shown_65 : decode cX9_shown 65 = .ok (.bipush (-2), 2) := by decide +kernel
theorem dX9_shown_67 : decode cX9_shown 67 = .ok (.invokevirtual 71, 3) := by decide +kernel
theorem dX9_shown_70 : decode cX9_shown 70 = .ok (.ireturn, 1) := by decide +kernel
theorem dX9_alike_0 : decode cX9_alike 0 = .ok (.iload_n 1, 1) := by decide +kernel
theorem dX9_alike_1 : decode cX9_alike 1 = .ok (.invokestatic 67, 3) := by decide +kernel
theorem dX9_alike_4 : decode cX9_alike 4 = .ok (.ifCond .eq 10, 3) := by decide +kernel
theorem dX9_alike_7 : decode cX9_alike 7 = .ok (.iload_n 2, 1) := by decide +kernel
theorem dX9_alike_8 : decode cX9_alike 8 = .ok (.invokestatic 67, 3) := by decide +kernel
theorem dX9_alike_11 : decode cX9_alike 11 = .ok (.ifCond .ne 6, 3) := by decide +kernel
theorem dX9_alike_14 : decode cX9_alike 14 = .ok (.bipush (-2), 2) := by decide +kernel
theorem dX9_alike_16 : decode cX9_alike 16 = .ok (.ireturn, 1) := by decide +kernel
theorem dX9_alike_17 : decode cX9_alike 17 = .ok (.aload_n 0, 1) := by decide +kernel
theorem dX9_alike_18 : decode cX9_alike 18 = .ok (.getfield 50, 3) := by decide +kernel
theorem dX9_alike_21 : decode cX9_alike 21 = .ok (.aload_n 0, 1) := by decide +kernel
theorem dX9_alike_22 : decode cX9_alike 22 = .ok (.getfield 18, 3) := by decide +kernel
theorem dX9_alike_25 : decode cX9_alike 25 = .ok (.iload_n 1, 1) := by decide +kernel
theorem dX9_alike_26 : decode cX9_alike 26 = .ok (.aaload, 1) := by decide +kernel
theorem dX9_alike_27 : decode cX9_alike 27 = .ok (.invokevirtual 341, 3) := by decide +kernel
theorem dX9_alike_30 : decode cX9_alike 30 = .ok (.aload_n 0, 1) := by decide +kernel
theorem dX9_alike_31 : decode cX9_alike 31 = .ok (.getfield 53, 3) := by decide +kernel
theorem dX9_alike_34 : decode cX9_alike 34 = .ok (.aload_n 0, 1) := by decide +kernel
theorem dX9_alike_35 : decode cX9_alike 35 = .ok (.getfield 18, 3) := by decide +kernel
theorem dX9_alike_38 : decode cX9_alike 38 = .ok (.iload_n 2, 1) := by decide +kernel
theorem dX9_alike_39 : decode cX9_alike 39 = .ok (.aaload, 1) := by decide +kernel
theorem dX9_alike_40 : decode cX9_alike 40 = .ok (.invokevirtual 341, 3) := by decide +kernel
theorem dX9_alike_43 : decode cX9_alike 43 = .ok (.aload_n 0, 1) := by decide +kernel
theorem dX9_alike_44 : decode cX9_alike 44 = .ok (.getfield 50, 3) := by decide +kernel
theorem dX9_alike_47 : decode cX9_alike 47 = .ok (.aload_n 0, 1) := by decide +kernel
theorem dX9_alike_48 : decode cX9_alike 48 = .ok (.getfield 53, 3) := by decide +kernel
theorem dX9_alike_51 : decode cX9_alike 51 = .ok (.invokevirtual 344, 3) := by decide +kernel
theorem dX9_alike_54 : decode cX9_alike 54 = .ok (.ifCond .eq 7, 3) := by decide +kernel
theorem dX9_alike_57 : decode cX9_alike 57 = .ok (.iconst 1, 1) := by decide +kernel
theorem dX9_alike_58 : decode cX9_alike 58 = .ok (.goto 4, 3) := by decide +kernel
theorem dX9_alike_61 : decode cX9_alike 61 = .ok (.iconst 0, 1) := by decide +kernel
theorem dX9_alike_62 : decode cX9_alike 62 = .ok (.ireturn, 1) := by decide +kernel
theorem dX9_export_0 : decode cX9_export 0 = .ok (.iload_n 1, 1) := by decide +kernel
theorem dX9_export_1 : decode cX9_export 1 = .ok (.invokestatic 67, 3) := by decide +kernel
theorem dX9_export_4 : decode cX9_export 4 = .ok (.ifCond .ne 6, 3) := by decide +kernel
theorem dX9_export_7 : decode cX9_export 7 = .ok (.bipush (-2), 2) := by decide +kernel
theorem dX9_export_9 : decode cX9_export 9 = .ok (.ireturn, 1) := by decide +kernel
theorem dX9_export_10 : decode cX9_export 10 = .ok (.aload_n 0, 1) := by decide +kernel
theorem dX9_export_11 : decode cX9_export 11 = .ok (.getfield 46, 3) := by decide +kernel
theorem dX9_export_14 : decode cX9_export 14 = .ok (.aload_n 0, 1) := by decide +kernel
theorem dX9_export_15 : decode cX9_export 15 = .ok (.getfield 18, 3) := by decide +kernel
theorem dX9_export_18 : decode cX9_export 18 = .ok (.iload_n 1, 1) := by decide +kernel
theorem dX9_export_19 : decode cX9_export 19 = .ok (.aaload, 1) := by decide +kernel
theorem dX9_export_20 : decode cX9_export 20 = .ok (.invokevirtual 341, 3) := by decide +kernel
theorem dX9_export_23 : decode cX9_export 23 = .ok (.aload_n 0, 1) := by decide +kernel
theorem dX9_export_24 : decode cX9_export 24 = .ok (.getfield 46, 3) := by decide +kernel
theorem dX9_export_27 : decode cX9_export 27 = .ok (.getfield 348, 3) := by decide +kernel
theorem dX9_export_30 : decode cX9_export 30 = .ok (.ireturn, 1) := by decide +kernel
theorem dX9_out_0 : decode cX9_out 0 = .ok (.iload_n 1, 1) := by decide +kernel
theorem dX9_out_1 : decode cX9_out 1 = .ok (.ifCond .lt 26, 3) := by decide +kernel
theorem dX9_out_4 : decode cX9_out 4 = .ok (.iload_n 1, 1) := by decide +kernel
theorem dX9_out_5 : decode cX9_out 5 = .ok (.aload_n 0, 1) := by decide +kernel
theorem dX9_out_6 : decode cX9_out 6 = .ok (.getfield 46, 3) := by decide +kernel
theorem dX9_out_9 : decode cX9_out 9 = .ok (.getfield 348, 3) := by decide +kernel
theorem dX9_out_12 : decode cX9_out 12 = .ok (.if_icmp .ge 15, 3) := by decide +kernel
theorem dX9_out_15 : decode cX9_out 15 = .ok (.aload_n 0, 1) := by decide +kernel
theorem dX9_out_16 : decode cX9_out 16 = .ok (.getfield 46, 3) := by decide +kernel
theorem dX9_out_19 : decode cX9_out 19 = .ok (.getfield 351, 3) := by decide +kernel
theorem dX9_out_22 : decode cX9_out 22 = .ok (.iload_n 1, 1) := by decide +kernel
theorem dX9_out_23 : decode cX9_out 23 = .ok (.iaload, 1) := by decide +kernel
theorem dX9_out_24 : decode cX9_out 24 = .ok (.goto 4, 3) := by decide +kernel
theorem dX9_out_27 : decode cX9_out 27 = .ok (.iconst (-1), 1) := by decide +kernel
theorem dX9_out_28 : decode cX9_out 28 = .ok (.ireturn, 1) := by decide +kernel
theorem dX9_digest_0 : decode cX9_digest 0 = .ok (.iload_n 1, 1) := by decide +kernel
theorem dX9_digest_1 : decode cX9_digest 1 = .ok (.invokestatic 67, 3) := by decide +kernel
theorem dX9_digest_4 : decode cX9_digest 4 = .ok (.ifCond .ne 5, 3) := by decide +kernel
theorem dX9_digest_7 : decode cX9_digest 7 = .ok (.lconst 0, 1) := by decide +kernel
theorem dX9_digest_8 : decode cX9_digest 8 = .ok (.lreturn, 1) := by decide +kernel
theorem dX9_digest_9 : decode cX9_digest 9 = .ok (.aload_n 0, 1) := by decide +kernel
theorem dX9_digest_10 : decode cX9_digest 10 = .ok (.getfield 50, 3) := by decide +kernel
theorem dX9_digest_13 : decode cX9_digest 13 = .ok (.aload_n 0, 1) := by decide +kernel
theorem dX9_digest_14 : decode cX9_digest 14 = .ok (.getfield 18, 3) := by decide +kernel
theorem dX9_digest_17 : decode cX9_digest 17 = .ok (.iload_n 1, 1) := by decide +kernel
theorem dX9_digest_18 : decode cX9_digest 18 = .ok (.aaload, 1) := by decide +kernel
theorem dX9_digest_19 : decode cX9_digest 19 = .ok (.invokevirtual 341, 3) := by decide +kernel
theorem dX9_digest_22 : decode cX9_digest 22 = .ok (.aload_n 0, 1) := by decide +kernel
theorem dX9_digest_23 : decode cX9_digest 23 = .ok (.getfield 50, 3) := by decide +kernel
theorem dX9_digest_26 : decode cX9_digest 26 = .ok (.invokevirtual 354, 3) := by decide +kernel
theorem dX9_digest_29 : decode cX9_digest 29 = .ok (.lreturn, 1) := by decide +kernel
theorem dX9_trace_0 : decode cX9_trace 0 = .ok (.aload_n 0, 1) := by decide +kernel
theorem dX9_trace_1 : decode cX9_trace 1 = .ok (.getfield 10, 3) := by decide +kernel
theorem dX9_trace_4 : decode cX9_trace 4 = .ok (.iload_n 1, 1) := by decide +kernel
theorem dX9_trace_5 : decode cX9_trace 5 = .ok (.invokevirtual 358, 3) := by decide +kernel
theorem dX9_trace_8 : decode cX9_trace 8 = .ok (.ireturn, 1) := by decide +kernel
theorem dX9_count_0 : decode cX9_count 0 = .ok (.iload_n 1, 1) := by decide +kernel
theorem dX9_count_1 : decode cX9_count 1 = .ok (.ifCond .lt 9, 3) := by decide +kernel
theorem dX9_count_4 : decode cX9_count 4 = .ok (.iload_n 1, 1) := by decide +kernel
theorem dX9_count_5 : decode cX9_count 5 = .ok (.bipush 13, 2) := by decide +kernel
theorem dX9_count_7 : decode cX9_count 7 = .ok (.if_icmp .le 6, 3) := by decide +kernel
theorem dX9_count_10 : decode cX9_count 10 = .ok (.bipush (-2), 2) := by decide +kernel
theorem dX9_count_12 : decode cX9_count 12 = .ok (.ireturn, 1) := by decide +kernel
theorem dX9_count_13 : decode cX9_count 13 = .ok (.iload_n 1, 1) := by decide +kernel
theorem dX9_count_14 : decode cX9_count 14 = .ok (.bipush 9, 2) := by decide +kernel
theorem dX9_count_16 : decode cX9_count 16 = .ok (.if_icmp .ge 18, 3) := by decide +kernel
theorem dX9_count_19 : decode cX9_count 19 = .ok (.aload_n 0, 1) := by decide +kernel
theorem dX9_count_20 : decode cX9_count 20 = .ok (.getfield 18, 3) := by decide +kernel
theorem dX9_count_23 : decode cX9_count 23 = .ok (.iload_n 1, 1) := by decide +kernel
theorem dX9_count_24 : decode cX9_count 24 = .ok (.iconst 3, 1) := by decide +kernel
theorem dX9_count_25 : decode cX9_count 25 = .ok (.irem, 1) := by decide +kernel
theorem dX9_count_26 : decode cX9_count 26 = .ok (.aaload, 1) := by decide +kernel
theorem dX9_count_27 : decode cX9_count 27 = .ok (.iload_n 1, 1) := by decide +kernel
theorem dX9_count_28 : decode cX9_count 28 = .ok (.iconst 3, 1) := by decide +kernel
theorem dX9_count_29 : decode cX9_count 29 = .ok (.idiv, 1) := by decide +kernel
theorem dX9_count_30 : decode cX9_count 30 = .ok (.invokestatic 361, 3) := by decide +kernel
theorem dX9_count_33 : decode cX9_count 33 = .ok (.ireturn, 1) := by decide +kernel
theorem dX9_count_34 : decode cX9_count 34 = .ok (.iload_n 1, 1) := by decide +kernel
theorem dX9_count_35 : decode cX9_count 35 = .ok (.tableswitch 58 9 12 #[29, 34, 42, 50], 29) := by decide +kernel
theorem dX9_count_64 : decode cX9_count 64 = .ok (.aload_n 0, 1) := by decide +kernel
theorem dX9_count_65 : decode cX9_count 65 = .ok (.getfield 246, 3) := by decide +kernel
theorem dX9_count_68 : decode cX9_count 68 = .ok (.ireturn, 1) := by decide +kernel
theorem dX9_count_69 : decode cX9_count 69 = .ok (.aload_n 0, 1) := by decide +kernel
theorem dX9_count_70 : decode cX9_count 70 = .ok (.getfield 10, 3) := by decide +kernel
theorem dX9_count_73 : decode cX9_count 73 = .ok (.getfield 365, 3) := by decide +kernel
theorem dX9_count_76 : decode cX9_count 76 = .ok (.ireturn, 1) := by decide +kernel
theorem dX9_count_77 : decode cX9_count 77 = .ok (.aload_n 0, 1) := by decide +kernel
theorem dX9_count_78 : decode cX9_count 78 = .ok (.getfield 10, 3) := by decide +kernel
theorem dX9_count_81 : decode cX9_count 81 = .ok (.getfield 368, 3) := by decide +kernel
theorem dX9_count_84 : decode cX9_count 84 = .ok (.ireturn, 1) := by decide +kernel
theorem dX9_count_85 : decode cX9_count 85 = .ok (.aload_n 0, 1) := by decide +kernel
theorem dX9_count_86 : decode cX9_count 86 = .ok (.getfield 10, 3) := by decide +kernel
theorem dX9_count_89 : decode cX9_count 89 = .ok (.getfield 371, 3) := by decide +kernel
theorem dX9_count_92 : decode cX9_count 92 = .ok (.ireturn, 1) := by decide +kernel
theorem dX9_count_93 : decode cX9_count 93 = .ok (.aload_n 0, 1) := by decide +kernel
theorem dX9_count_94 : decode cX9_count 94 = .ok (.getfield 39, 3) := by decide +kernel
theorem dX9_count_97 : decode cX9_count 97 = .ok (.invokevirtual 374, 3) := by decide +kernel
theorem dX9_count_100 : decode cX9_count 100 = .ok (.ireturn, 1) := by decide +kernel
theorem dX9_status_0 : decode cX9_status 0 = .ok (.aload_n 0, 1) := by decide +kernel
theorem dX9_status_1 : decode cX9_status 1 = .ok (.getfield 375, 3) := by decide +kernel
theorem dX9_status_4 : decode cX9_status 4 = .ok (.ireturn, 1) := by decide +kernel
theorem dX9_refused_0 : decode cX9_refused 0 = .ok (.aload_n 0, 1) := by decide +kernel
theorem dX9_refused_1 : decode cX9_refused 1 = .ok (.iload_n 1, 1) := by decide +kernel
theorem dX9_refused_2 : decode cX9_refused 2 = .ok (.putfield 375, 3) := by decide +kernel
theorem dX9_refused_5 : decode cX9_refused 5 = .ok (.iload_n 1, 1) := by decide +kernel
theorem dX9_refused_6 : decode cX9_refused 6 = .ok (.ireturn, 1) := by decide +kernel
theorem dX9_answered_0 : decode cX9_answered 0 = .ok (.aload_n 0, 1) := by decide +kernel
theorem dX9_answered_1 : decode cX9_answered 1 = .ok (.iconst 0, 1) := by decide +kernel
theorem dX9_answered_2 : decode cX9_answered 2 = .ok (.putfield 375, 3) := by decide +kernel
theorem dX9_answered_5 : decode cX9_answered 5 = .ok (.iload_n 1, 1) := by decide +kernel
theorem dX9_answered_6 : decode cX9_answered 6 = .ok (.ireturn, 1) := by decide +kernel
theorem dX9_built_0 : decode cX9_built 0 = .ok (.aload_n 0, 1) := by decide +kernel
theorem dX9_built_1 : decode cX9_built 1 = .ok (.getfield 18, 3) := by decide +kernel
theorem dX9_built_4 : decode cX9_built 4 = .ok (.iload_n 1, 1) := by decide +kernel
theorem dX9_built_5 : decode cX9_built 5 = .ok (.aaload, 1) := by decide +kernel
theorem dX9_built_6 : decode cX9_built 6 = .ok (.getfield 237, 3) := by decide +kernel
theorem dX9_built_9 : decode cX9_built 9 = .ok (.invokevirtual 378, 3) := by decide +kernel
theorem dX9_built_12 : decode cX9_built 12 = .ok (.aload_n 0, 1) := by decide +kernel
theorem dX9_built_13 : decode cX9_built 13 = .ok (.getfield 381, 3) := by decide +kernel
theorem dX9_built_16 : decode cX9_built 16 = .ok (.ifnull 22, 3) := by decide +kernel
theorem dX9_built_19 : decode cX9_built 19 = .ok (.aload_n 0, 1) := by decide +kernel
theorem dX9_built_20 : decode cX9_built 20 = .ok (.getfield 381, 3) := by decide +kernel
theorem dX9_built_23 : decode cX9_built 23 = .ok (.getfield 315, 3) := by decide +kernel
theorem dX9_built_26 : decode cX9_built 26 = .ok (.iload_n 1, 1) := by decide +kernel
theorem dX9_built_27 : decode cX9_built 27 = .ok (.if_icmp .ne 11, 3) := by decide +kernel
theorem dX9_built_30 : decode cX9_built 30 = .ok (.aload_n 0, 1) := by decide +kernel
theorem dX9_built_31 : decode cX9_built 31 = .ok (.getfield 381, 3) := by decide +kernel
theorem dX9_built_34 : decode cX9_built 34 = .ok (.iconst 1, 1) := by decide +kernel
theorem dX9_built_35 : decode cX9_built 35 = .ok (.putfield 385, 3) := by decide +kernel
theorem dX9_built_38 : decode cX9_built 38 = .ok (.aload_n 0, 1) := by decide +kernel
theorem dX9_built_39 : decode cX9_built 39 = .ok (.iload_n 2, 1) := by decide +kernel
theorem dX9_built_40 : decode cX9_built 40 = .ok (.invokevirtual 152, 3) := by decide +kernel
theorem dX9_built_43 : decode cX9_built 43 = .ok (.ireturn, 1) := by decide +kernel
theorem dX9_isChest_0 : decode cX9_isChest 0 = .ok (.iload_n 0, 1) := by decide +kernel
theorem dX9_isChest_1 : decode cX9_isChest 1 = .ok (.ifCond .lt 12, 3) := by decide +kernel
theorem dX9_isChest_4 : decode cX9_isChest 4 = .ok (.iload_n 0, 1) := by decide +kernel
theorem dX9_isChest_5 : decode cX9_isChest 5 = .ok (.iconst 3, 1) := by decide +kernel
theorem dX9_isChest_6 : decode cX9_isChest 6 = .ok (.if_icmp .ge 7, 3) := by decide +kernel
theorem dX9_isChest_9 : decode cX9_isChest 9 = .ok (.iconst 1, 1) := by decide +kernel
theorem dX9_isChest_10 : decode cX9_isChest 10 = .ok (.goto 4, 3) := by decide +kernel
theorem dX9_isChest_13 : decode cX9_isChest 13 = .ok (.iconst 0, 1) := by decide +kernel
theorem dX9_isChest_14 : decode cX9_isChest 14 = .ok (.ireturn, 1) := by decide +kernel
theorem dX9_isSeat_0 : decode cX9_isSeat 0 = .ok (.iload_n 0, 1) := by decide +kernel
theorem dX9_isSeat_1 : decode cX9_isSeat 1 = .ok (.ifCond .lt 13, 3) := by decide +kernel
theorem dX9_isSeat_4 : decode cX9_isSeat 4 = .ok (.iload_n 0, 1) := by decide +kernel
theorem dX9_isSeat_5 : decode cX9_isSeat 5 = .ok (.bipush 16, 2) := by decide +kernel
theorem dX9_isSeat_7 : decode cX9_isSeat 7 = .ok (.if_icmp .ge 7, 3) := by decide +kernel
theorem dX9_isSeat_10 : decode cX9_isSeat 10 = .ok (.iconst 1, 1) := by decide +kernel
theorem dX9_isSeat_11 : decode cX9_isSeat 11 = .ok (.goto 4, 3) := by decide +kernel
theorem dX9_isSeat_14 : decode cX9_isSeat 14 = .ok (.iconst 0, 1) := by decide +kernel
theorem dX9_isSeat_15 : decode cX9_isSeat 15 = .ok (.ireturn, 1) := by decide +kernel
theorem dX9_isMove_0 : decode cX9_isMove 0 = .ok (.iload_n 0, 1) := by decide +kernel
theorem dX9_isMove_1 : decode cX9_isMove 1 = .ok (.ifCond .lt 13, 3) := by decide +kernel
theorem dX9_isMove_4 : decode cX9_isMove 4 = .ok (.iload_n 0, 1) := by decide +kernel
theorem dX9_isMove_5 : decode cX9_isMove 5 = .ok (.bipush 38, 2) := by decide +kernel
theorem dX9_isMove_7 : decode cX9_isMove 7 = .ok (.if_icmp .ge 7, 3) := by decide +kernel
theorem dX9_isMove_10 : decode cX9_isMove 10 = .ok (.iconst 1, 1) := by decide +kernel
theorem dX9_isMove_11 : decode cX9_isMove 11 = .ok (.goto 4, 3) := by decide +kernel
theorem dX9_isMove_14 : decode cX9_isMove 14 = .ok (.iconst 0, 1) := by decide +kernel
theorem dX9_isMove_15 : decode cX9_isMove 15 = .ok (.ireturn, 1) := by decide +kernel
theorem dX9_isPart_0 : decode cX9_isPart 0 = .ok (.iload_n 0, 1) := by decide +kernel
theorem dX9_isPart_1 : decode cX9_isPart 1 = .ok (.ifCond .lt 42, 3) := by decide +kernel
theorem dX9_isPart_4 : decode cX9_isPart 4 = .ok (.iload_n 0, 1) := by decide +kernel
theorem dX9_isPart_5 : decode cX9_isPart 5 = .ok (.iconst 5, 1) := by decide +kernel
theorem dX9_isPart_6 : decode cX9_isPart 6 = .ok (.if_icmp .gt 37, 3) := by decide +kernel
theorem dX9_isPart_9 : decode cX9_isPart 9 = .ok (.iload_n 1, 1) := by decide +kernel
theorem dX9_isPart_10 : decode cX9_isPart 10 = .ok (.iconst 1, 1) := by decide +kernel
theorem dX9_isPart_11 : decode cX9_isPart 11 = .ok (.if_icmp .lt 32, 3) := by decide +kernel
theorem dX9_isPart_14 : decode cX9_isPart 14 = .ok (.iload_n 1, 1) := by decide +kernel
theorem dX9_isPart_15 : decode cX9_isPart 15 = .ok (.iload_n 0, 1) := by decide +kernel
theorem dX9_isPart_16 : decode cX9_isPart 16 = .ok (.iconst 5, 1) := by decide +kernel
theorem dX9_isPart_17 : decode cX9_isPart 17 = .ok (.if_icmp .ne 7, 3) := by decide +kernel
theorem dX9_isPart_20 : decode cX9_isPart 20 = .ok (.iconst 1, 1) := by decide +kernel
theorem dX9_isPart_21 : decode cX9_isPart 21 = .ok (.goto 5, 3) := by decide +kernel
theorem dX9_isPart_24 : decode cX9_isPart 24 = .ok (.bipush 6, 2) := by decide +kernel
theorem dX9_isPart_26 : decode cX9_isPart 26 = .ok (.if_icmp .gt 17, 3) := by decide +kernel
theorem dX9_isPart_29 : decode cX9_isPart 29 = .ok (.iload_n 2, 1) := by decide +kernel
theorem dX9_isPart_30 : decode cX9_isPart 30 = .ok (.ifCond .lt 13, 3) := by decide +kernel
theorem dX9_isPart_33 : decode cX9_isPart 33 = .ok (.iload_n 2, 1) := by decide +kernel
theorem dX9_isPart_34 : decode cX9_isPart 34 = .ok (.bipush 6, 2) := by decide +kernel
theorem dX9_isPart_36 : decode cX9_isPart 36 = .ok (.if_icmp .ge 7, 3) := by decide +kernel
theorem dX9_isPart_39 : decode cX9_isPart 39 = .ok (.iconst 1, 1) := by decide +kernel
theorem dX9_isPart_40 : decode cX9_isPart 40 = .ok (.goto 4, 3) := by decide +kernel
theorem dX9_isPart_43 : decode cX9_isPart 43 = .ok (.iconst 0, 1) := by decide +kernel
theorem dX9_isPart_44 : decode cX9_isPart 44 = .ok (.ireturn, 1) := by decide +kernel
theorem dX9_isCondition_0 : decode cX9_isCondition 0 = .ok (.iload_n 1, 1) := by decide +kernel
theorem dX9_isCondition_1 : decode cX9_isCondition 1 = .ok (.invokestatic 67, 3) := by decide +kernel
theorem dX9_isCondition_4 : decode cX9_isCondition 4 = .ok (.ifCond .eq 27, 3) := by decide +kernel
theorem dX9_isCondition_7 : decode cX9_isCondition 7 = .ok (.iload_n 2, 1) := by decide +kernel
theorem dX9_isCondition_8 : decode cX9_isCondition 8 = .ok (.ifCond .lt 23, 3) := by decide +kernel
theorem dX9_isCondition_11 : decode cX9_isCondition 11 = .ok (.iload_n 2, 1) := by decide +kernel
theorem dX9_isCondition_12 : decode cX9_isCondition 12 = .ok (.aload_n 0, 1) := by decide +kernel
theorem dX9_isCondition_13 : decode cX9_isCondition 13 = .ok (.getfield 18, 3) := by decide +kernel
theorem dX9_isCondition_16 : decode cX9_isCondition 16 = .ok (.iload_n 1, 1) := by decide +kernel
theorem dX9_isCondition_17 : decode cX9_isCondition 17 = .ok (.aaload, 1) := by decide +kernel
theorem dX9_isCondition_18 : decode cX9_isCondition 18 = .ok (.getfield 114, 3) := by decide +kernel
theorem dX9_isCondition_21 : decode cX9_isCondition 21 = .ok (.getfield 118, 3) := by decide +kernel
theorem dX9_isCondition_24 : decode cX9_isCondition 24 = .ok (.if_icmp .ge 7, 3) := by decide +kernel
theorem dX9_isCondition_27 : decode cX9_isCondition 27 = .ok (.iconst 1, 1) := by decide +kernel
theorem dX9_isCondition_28 : decode cX9_isCondition 28 = .ok (.goto 4, 3) := by decide +kernel
theorem dX9_isCondition_31 : decode cX9_isCondition 31 = .ok (.iconst 0, 1) := by decide +kernel
theorem dX9_isCondition_32 : decode cX9_isCondition 32 = .ok (.ireturn, 1) := by decide +kernel
theorem dX9_refusalOfPart_0 : decode cX9_refusalOfPart 0 = .ok (.iload_n 1, 1) := by decide +kernel
theorem dX9_refusalOfPart_1 : decode cX9_refusalOfPart 1 = .ok (.invokestatic 67, 3) := by decide +kernel
theorem dX9_refusalOfPart_4 : decode cX9_refusalOfPart 4 = .ok (.ifCond .ne 6, 3) := by decide +kernel
theorem dX9_refusalOfPart_7 : decode cX9_refusalOfPart 7 = .ok (.bipush (-2), 2) := by decide +kernel
theorem dX9_refusalOfPart_9 : decode cX9_refusalOfPart 9 = .ok (.ireturn, 1) := by decide +kernel
theorem dX9_refusalOfPart_10 : decode cX9_refusalOfPart 10 = .ok (.iload_n 2, 1) := by decide +kernel
theorem dX9_refusalOfPart_11 : decode cX9_refusalOfPart 11 = .ok (.invokestatic 86, 3) := by decide +kernel
theorem dX9_refusalOfPart_14 : decode cX9_refusalOfPart 14 = .ok (.ifCond .ne 6, 3) := by decide +kernel
theorem dX9_refusalOfPart_17 : decode cX9_refusalOfPart 17 = .ok (.bipush (-3), 2) := by decide +kernel
theorem dX9_refusalOfPart_19 : decode cX9_refusalOfPart 19 = .ok (.ireturn, 1) := by decide +kernel
theorem dX9_refusalOfPart_20 : decode cX9_refusalOfPart 20 = .ok (.aload_n 0, 1) := by decide +kernel
theorem dX9_refusalOfPart_21 : decode cX9_refusalOfPart 21 = .ok (.getfield 18, 3) := by decide +kernel
theorem dX9_refusalOfPart_24 : decode cX9_refusalOfPart 24 = .ok (.iload_n 1, 1) := by decide +kernel
theorem dX9_refusalOfPart_25 : decode cX9_refusalOfPart 25 = .ok (.aaload, 1) := by decide +kernel
theorem dX9_refusalOfPart_26 : decode cX9_refusalOfPart 26 = .ok (.iload_n 2, 1) := by decide +kernel
theorem dX9_refusalOfPart_27 : decode cX9_refusalOfPart 27 = .ok (.iconst 1, 1) := by decide +kernel
theorem dX9_refusalOfPart_28 : decode cX9_refusalOfPart 28 = .ok (.invokevirtual 93, 3) := by decide +kernel
theorem dX9_refusalOfPart_31 : decode cX9_refusalOfPart 31 = .ok (.istore_n 3, 1) := by decide +kernel
theorem dX9_refusalOfPart_32 : decode cX9_refusalOfPart 32 = .ok (.iload_n 3, 1) := by decide +kernel
theorem dX9_refusalOfPart_33 : decode cX9_refusalOfPart 33 = .ok (.ifCond .ne 7, 3) := by decide +kernel
theorem dX9_refusalOfPart_36 : decode cX9_refusalOfPart 36 = .ok (.iconst 0, 1) := by decide +kernel
theorem dX9_refusalOfPart_37 : decode cX9_refusalOfPart 37 = .ok (.goto 11, 3) := by decide +kernel
theorem dX9_refusalOfPart_40 : decode cX9_refusalOfPart 40 = .ok (.aload_n 0, 1) := by decide +kernel
theorem dX9_refusalOfPart_41 : decode cX9_refusalOfPart 41 = .ok (.getfield 10, 3) := by decide +kernel
theorem dX9_refusalOfPart_44 : decode cX9_refusalOfPart 44 = .ok (.iload_n 3, 1) := by decide +kernel
theorem dX9_refusalOfPart_45 : decode cX9_refusalOfPart 45 = .ok (.invokevirtual 75, 3) := by decide +kernel
theorem dX9_refusalOfPart_48 : decode cX9_refusalOfPart 48 = .ok (.ireturn, 1) := by decide +kernel
theorem dX9_countOfChest_0 : decode cX9_countOfChest 0 = .ok (.iload_n 1, 1) := by decide +kernel
theorem dX9_countOfChest_1 : decode cX9_countOfChest 1 = .ok (.lookupswitch 40 #[(0, 27), (1, 32)], 27) := by decide +kernel
theorem dX9_countOfChest_28 : decode cX9_countOfChest 28 = .ok (.aload_n 0, 1) := by decide +kernel
theorem dX9_countOfChest_29 : decode cX9_countOfChest 29 = .ok (.getfield 104, 3) := by decide +kernel
theorem dX9_countOfChest_32 : decode cX9_countOfChest 32 = .ok (.ireturn, 1) := by decide +kernel
theorem dX9_countOfChest_33 : decode cX9_countOfChest 33 = .ok (.aload_n 0, 1) := by decide +kernel
theorem dX9_countOfChest_34 : decode cX9_countOfChest 34 = .ok (.getfield 114, 3) := by decide +kernel
theorem dX9_countOfChest_37 : decode cX9_countOfChest 37 = .ok (.getfield 118, 3) := by decide +kernel
theorem dX9_countOfChest_40 : decode cX9_countOfChest 40 = .ok (.ireturn, 1) := by decide +kernel
theorem dX9_countOfChest_41 : decode cX9_countOfChest 41 = .ok (.aload_n 0, 1) := by decide +kernel
theorem dX9_countOfChest_42 : decode cX9_countOfChest 42 = .ok (.getfield 237, 3) := by decide +kernel
theorem dX9_countOfChest_45 : decode cX9_countOfChest 45 = .ok (.getfield 266, 3) := by decide +kernel
theorem dX9_countOfChest_48 : decode cX9_countOfChest 48 = .ok (.ireturn, 1) := by decide +kernel
theorem dX9_performTyped_0 : decode cX9_performTyped 0 = .ok (.aload_n 0, 1) := by decide +kernel
theorem dX9_performTyped_1 : decode cX9_performTyped 1 = .ok (.iconst 1, 1) := by decide +kernel
theorem dX9_performTyped_2 : decode cX9_performTyped 2 = .ok (.putfield 260, 3) := by decide +kernel
theorem dX9_performTyped_5 : decode cX9_performTyped 5 = .ok (.iconst 0, 1) := by decide +kernel
theorem dX9_performTyped_6 : decode cX9_performTyped 6 = .ok (.istore_n 2, 1) := by decide +kernel
theorem dX9_performTyped_7 : decode cX9_performTyped 7 = .ok (.iload_n 2, 1) := by decide +kernel
theorem dX9_performTyped_8 : decode cX9_performTyped 8 = .ok (.aload_n 0, 1) := by decide +kernel
theorem dX9_performTyped_9 : decode cX9_performTyped 9 = .ok (.getfield 246, 3) := by decide +kernel
theorem dX9_performTyped_12 : decode cX9_performTyped 12 = .ok (.if_icmp .ge 44, 3) := by decide +kernel
theorem dX9_performTyped_15 : decode cX9_performTyped 15 = .ok (.aload_n 0, 1) := by decide +kernel
theorem dX9_performTyped_16 : decode cX9_performTyped 16 = .ok (.getfield 60, 3) := by decide +kernel
theorem dX9_performTyped_19 : decode cX9_performTyped 19 = .ok (.iload_n 2, 1) := by decide +kernel
theorem dX9_performTyped_20 : decode cX9_performTyped 20 = .ok (.aload_n 1, 1) := by decide +kernel
theorem dX9_performTyped_21 : decode cX9_performTyped 21 = .ok (.invokevirtual 229, 3) := by decide +kernel
theorem dX9_performTyped_24 : decode cX9_performTyped 24 = .ok (.iastore, 1) := by decide +kernel
theorem dX9_performTyped_25 : decode cX9_performTyped 25 = .ok (.aload_n 0, 1) := by decide +kernel
theorem dX9_performTyped_26 : decode cX9_performTyped 26 = .ok (.aload_n 1, 1) := by decide +kernel
theorem dX9_performTyped_27 : decode cX9_performTyped 27 = .ok (.aload_n 0, 1) := by decide +kernel
theorem dX9_performTyped_28 : decode cX9_performTyped 28 = .ok (.getfield 56, 3) := by decide +kernel
theorem dX9_performTyped_31 : decode cX9_performTyped 31 = .ok (.iload_n 2, 1) := by decide +kernel
theorem dX9_performTyped_32 : decode cX9_performTyped 32 = .ok (.iaload, 1) := by decide +kernel
theorem dX9_performTyped_33 : decode cX9_performTyped 33 = .ok (.invokevirtual 234, 3) := by decide +kernel
theorem dX9_performTyped_36 : decode cX9_performTyped 36 = .ok (.putfield 260, 3) := by decide +kernel
theorem dX9_performTyped_39 : decode cX9_performTyped 39 = .ok (.aload_n 0, 1) := by decide +kernel
theorem dX9_performTyped_40 : decode cX9_performTyped 40 = .ok (.getfield 260, 3) := by decide +kernel
theorem dX9_performTyped_43 : decode cX9_performTyped 43 = .ok (.iconst 1, 1) := by decide +kernel
theorem dX9_performTyped_44 : decode cX9_performTyped 44 = .ok (.if_icmp .eq 6, 3) := by decide +kernel
theorem dX9_performTyped_47 : decode cX9_performTyped 47 = .ok (.goto 9, 3) := by decide +kernel
theorem dX9_performTyped_50 : decode cX9_performTyped 50 = .ok (.iinc 2 1, 3) := by decide +kernel
theorem dX9_performTyped_53 : decode cX9_performTyped 53 = .ok (.goto (-46), 3) := by decide +kernel
theorem dX9_performTyped_56 : decode cX9_performTyped 56 = .ok (.iload_n 2, 1) := by decide +kernel
theorem dX9_performTyped_57 : decode cX9_performTyped 57 = .ok (.ireturn, 1) := by decide +kernel
theorem dX9_searchToUse_0 : decode cX9_searchToUse 0 = .ok (.aload_n 0, 1) := by decide +kernel
theorem dX9_searchToUse_1 : decode cX9_searchToUse 1 = .ok (.getfield 381, 3) := by decide +kernel
theorem dX9_searchToUse_4 : decode cX9_searchToUse 4 = .ok (.ifnonnull 18, 3) := by decide +kernel
theorem dX9_searchToUse_7 : decode cX9_searchToUse 7 = .ok (.aload_n 0, 1) := by decide +kernel
theorem dX9_searchToUse_8 : decode cX9_searchToUse 8 = .ok (.new 171, 3) := by decide +kernel
theorem dX9_searchToUse_11 : decode cX9_searchToUse 11 = .ok (.dup, 1) := by decide +kernel
theorem dX9_searchToUse_12 : decode cX9_searchToUse 12 = .ok (.aload_n 0, 1) := by decide +kernel
theorem dX9_searchToUse_13 : decode cX9_searchToUse 13 = .ok (.getfield 25, 3) := by decide +kernel
theorem dX9_searchToUse_16 : decode cX9_searchToUse 16 = .ok (.invokespecial 388, 3) := by decide +kernel
theorem dX9_searchToUse_19 : decode cX9_searchToUse 19 = .ok (.putfield 381, 3) := by decide +kernel
theorem dX9_searchToUse_22 : decode cX9_searchToUse 22 = .ok (.aload_n 0, 1) := by decide +kernel
theorem dX9_searchToUse_23 : decode cX9_searchToUse 23 = .ok (.getfield 381, 3) := by decide +kernel
theorem dX9_searchToUse_26 : decode cX9_searchToUse 26 = .ok (.areturn, 1) := by decide +kernel
theorem dX9_searchThere_0 : decode cX9_searchThere 0 = .ok (.aload_n 0, 1) := by decide +kernel
theorem dX9_searchThere_1 : decode cX9_searchThere 1 = .ok (.getfield 381, 3) := by decide +kernel
theorem dX9_searchThere_4 : decode cX9_searchThere 4 = .ok (.ifnull 20, 3) := by decide +kernel
theorem dX9_searchThere_7 : decode cX9_searchThere 7 = .ok (.aload_n 0, 1) := by decide +kernel
theorem dX9_searchThere_8 : decode cX9_searchThere 8 = .ok (.getfield 381, 3) := by decide +kernel
theorem dX9_searchThere_11 : decode cX9_searchThere 11 = .ok (.getfield 182, 3) := by decide +kernel
theorem dX9_searchThere_14 : decode cX9_searchThere 14 = .ok (.ifCond .eq 10, 3) := by decide +kernel
theorem dX9_searchThere_17 : decode cX9_searchThere 17 = .ok (.aload_n 0, 1) := by decide +kernel
theorem dX9_searchThere_18 : decode cX9_searchThere 18 = .ok (.getfield 381, 3) := by decide +kernel
theorem dX9_searchThere_21 : decode cX9_searchThere 21 = .ok (.goto 4, 3) := by decide +kernel
theorem dX9_searchThere_24 : decode cX9_searchThere 24 = .ok (.aconst_null, 1) := by decide +kernel
theorem dX9_searchThere_25 : decode cX9_searchThere 25 = .ok (.areturn, 1) := by decide +kernel
theorem dX9_searchNotOver_0 : decode cX9_searchNotOver 0 = .ok (.aload_n 0, 1) := by decide +kernel
theorem dX9_searchNotOver_1 : decode cX9_searchNotOver 1 = .ok (.invokevirtual 279, 3) := by decide +kernel
theorem dX9_searchNotOver_4 : decode cX9_searchNotOver 4 = .ok (.astore_n 1, 1) := by decide +kernel
theorem dX9_searchNotOver_5 : decode cX9_searchNotOver 5 = .ok (.aload_n 1, 1) := by decide +kernel
theorem dX9_searchNotOver_6 : decode cX9_searchNotOver 6 = .ok (.ifnull 14, 3) := by decide +kernel
theorem dX9_searchNotOver_9 : decode cX9_searchNotOver 9 = .ok (.aload_n 1, 1) := by decide +kernel
theorem dX9_searchNotOver_10 : decode cX9_searchNotOver 10 = .ok (.getfield 385, 3) := by decide +kernel
theorem dX9_searchNotOver_13 : decode cX9_searchNotOver 13 = .ok (.ifCond .ne 7, 3) := by decide +kernel
theorem dX9_searchNotOver_16 : decode cX9_searchNotOver 16 = .ok (.aload_n 1, 1) := by decide +kernel
theorem dX9_searchNotOver_17 : decode cX9_searchNotOver 17 = .ok (.goto 4, 3) := by decide +kernel
theorem dX9_searchNotOver_20 : decode cX9_searchNotOver 20 = .ok (.aconst_null, 1) := by decide +kernel
theorem dX9_searchNotOver_21 : decode cX9_searchNotOver 21 = .ok (.areturn, 1) := by decide +kernel
theorem dX9_searchFinished_0 : decode cX9_searchFinished 0 = .ok (.aload_n 0, 1) := by decide +kernel
theorem dX9_searchFinished_1 : decode cX9_searchFinished 1 = .ok (.invokevirtual 276, 3) := by decide +kernel
theorem dX9_searchFinished_4 : decode cX9_searchFinished 4 = .ok (.astore_n 1, 1) := by decide +kernel
theorem dX9_searchFinished_5 : decode cX9_searchFinished 5 = .ok (.aload_n 1, 1) := by decide +kernel
theorem dX9_searchFinished_6 : decode cX9_searchFinished 6 = .ok (.ifnull 14, 3) := by decide +kernel
theorem dX9_searchFinished_9 : decode cX9_searchFinished 9 = .ok (.aload_n 1, 1) := by decide +kernel
theorem dX9_searchFinished_10 : decode cX9_searchFinished 10 = .ok (.invokevirtual 272, 3) := by decide +kernel
theorem dX9_searchFinished_13 : decode cX9_searchFinished 13 = .ok (.ifCond .eq 7, 3) := by decide +kernel
theorem dX9_searchFinished_16 : decode cX9_searchFinished 16 = .ok (.aload_n 1, 1) := by decide +kernel
theorem dX9_searchFinished_17 : decode cX9_searchFinished 17 = .ok (.goto 4, 3) := by decide +kernel
theorem dX9_searchFinished_20 : decode cX9_searchFinished 20 = .ok (.aconst_null, 1) := by decide +kernel
theorem dX9_searchFinished_21 : decode cX9_searchFinished 21 = .ok (.areturn, 1) := by decide +kernel
