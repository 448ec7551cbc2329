theorem dX1_init_0 : decode cX1_init 0 = .ok (.aload_n 0, 1) := by decide +kernel
theorem dX1_init_1 : decode cX1_init 1 = .ok (.invokespecial 3, 3) := by decide +kernel
theorem dX1_init_4 : decode cX1_init 4 = .ok (.aload_n 0, 1) := by decide +kernel
theorem dX1_init_5 : decode cX1_init 5 = .ok (.bipush 40, 2) := by decide +kernel
theorem dX1_init_7 : decode cX1_init 7 = .ok (.newarray .int, 2) := by decide +kernel
theorem dX1_init_9 : decode cX1_init 9 = .ok (.putfield 9, 3) := by decide +kernel
theorem dX1_init_12 : decode cX1_init 12 = .ok (.aload_n 0, 1) := by decide +kernel
theorem dX1_init_13 : decode cX1_init 13 = .ok (.bipush 40, 2) := by decide +kernel
theorem dX1_init_15 : decode cX1_init 15 = .ok (.newarray .int, 2) := by decide +kernel
theorem dX1_init_17 : decode cX1_init 17 = .ok (.putfield 15, 3) := by decide +kernel
theorem dX1_init_20 : decode cX1_init 20 = .ok (.aload_n 0, 1) := by decide +kernel
theorem dX1_init_21 : decode cX1_init 21 = .ok (.bipush 40, 2) := by decide +kernel
theorem dX1_init_23 : decode cX1_init 23 = .ok (.newarray .int, 2) := by decide +kernel
theorem dX1_init_25 : decode cX1_init 25 = .ok (.putfield 18, 3) := by decide +kernel
theorem dX1_init_28 : decode cX1_init 28 = .ok (.aload_n 0, 1) := by decide +kernel
theorem dX1_init_29 : decode cX1_init 29 = .ok (.bipush 40, 2) := by decide +kernel
theorem dX1_init_31 : decode cX1_init 31 = .ok (.newarray .int, 2) := by decide +kernel
theorem dX1_init_33 : decode cX1_init 33 = .ok (.putfield 21, 3) := by decide +kernel
theorem dX1_init_36 : decode cX1_init 36 = .ok (.aload_n 0, 1) := by decide +kernel
theorem dX1_init_37 : decode cX1_init 37 = .ok (.bipush 40, 2) := by decide +kernel
theorem dX1_init_39 : decode cX1_init 39 = .ok (.newarray .int, 2) := by decide +kernel
theorem dX1_init_41 : decode cX1_init 41 = .ok (.putfield 24, 3) := by decide +kernel
theorem dX1_init_44 : decode cX1_init 44 = .ok (.aload_n 0, 1) := by decide +kernel
theorem dX1_init_45 : decode cX1_init 45 = .ok (.bipush 40, 2) := by decide +kernel
theorem dX1_init_47 : decode cX1_init 47 = .ok (.newarray .int, 2) := by decide +kernel
theorem dX1_init_49 : decode cX1_init 49 = .ok (.putfield 27, 3) := by decide +kernel
theorem dX1_init_52 : decode cX1_init 52 = .ok (.aload_n 0, 1) := by decide +kernel
theorem dX1_init_53 : decode cX1_init 53 = .ok (.bipush 18, 2) := by decide +kernel
theorem dX1_init_55 : decode cX1_init 55 = .ok (.newarray .int, 2) := by decide +kernel
theorem dX1_init_57 : decode cX1_init 57 = .ok (.putfield 30, 3) := by decide +kernel
theorem dX1_init_60 : decode cX1_init 60 = .ok (.return_, 1) := by decide +kernel
theorem dX1_add_0 : decode cX1_add 0 = .ok (.aload_n 0, 1) := by decide +kernel
theorem dX1_add_1 : decode cX1_add 1 = .ok (.getfield 33, 3) := by decide +kernel
theorem dX1_add_4 : decode cX1_add 4 = .ok (.bipush 40, 2) := by decide +kernel
theorem dX1_add_6 : decode cX1_add 6 = .ok (.if_icmp .lt 4, 3) := by decide +kernel
theorem dX1_add_9 : decode cX1_add 9 = .ok (.return_, 1) := by decide +kernel
theorem dX1_add_10 : decode cX1_add 10 = .ok (.aload_n 0, 1) := by decide +kernel
theorem dX1_add_11 : decode cX1_add 11 = .ok (.getfield 9, 3) := by decide +kernel
theorem dX1_add_14 : decode cX1_add 14 = .ok (.aload_n 0, 1) := by decide +kernel
theorem dX1_add_15 : decode cX1_add 15 = .ok (.getfield 33, 3) := by decide +kernel
theorem dX1_add_18 : decode cX1_add 18 = .ok (.iload_n 1, 1) := by decide +kernel
theorem dX1_add_19 : decode cX1_add 19 = .ok (.iastore, 1) := by decide +kernel
theorem dX1_add_20 : decode cX1_add 20 = .ok (.aload_n 0, 1) := by decide +kernel
theorem dX1_add_21 : decode cX1_add 21 = .ok (.getfield 15, 3) := by decide +kernel
theorem dX1_add_24 : decode cX1_add 24 = .ok (.aload_n 0, 1) := by decide +kernel
theorem dX1_add_25 : decode cX1_add 25 = .ok (.getfield 33, 3) := by decide +kernel
theorem dX1_add_28 : decode cX1_add 28 = .ok (.iload_n 2, 1) := by decide +kernel
theorem dX1_add_29 : decode cX1_add 29 = .ok (.iastore, 1) := by decide +kernel
theorem dX1_add_30 : decode cX1_add 30 = .ok (.aload_n 0, 1) := by decide +kernel
theorem dX1_add_31 : decode cX1_add 31 = .ok (.getfield 18, 3) := by decide +kernel
theorem dX1_add_34 : decode cX1_add 34 = .ok (.aload_n 0, 1) := by decide +kernel
theorem dX1_add_35 : decode cX1_add 35 = .ok (.getfield 33, 3) := by decide +kernel
theorem dX1_add_38 : decode cX1_add 38 = .ok (.iload_n 3, 1) := by decide +kernel
theorem dX1_add_39 : decode cX1_add 39 = .ok (.iastore, 1) := by decide +kernel
theorem dX1_add_40 : decode cX1_add 40 = .ok (.aload_n 0, 1) := by decide +kernel
theorem dX1_add_41 : decode cX1_add 41 = .ok (.getfield 21, 3) := by decide +kernel
theorem dX1_add_44 : decode cX1_add 44 = .ok (.aload_n 0, 1) := by decide +kernel
theorem dX1_add_45 : decode cX1_add 45 = .ok (.getfield 33, 3) := by decide +kernel
theorem dX1_add_48 : decode cX1_add 48 = .ok (.iconst 0, 1) := by decide +kernel
theorem dX1_add_49 : decode cX1_add 49 = .ok (.iastore, 1) := by decide +kernel
theorem dX1_add_50 : decode cX1_add 50 = .ok (.aload_n 0, 1) := by decide +kernel
theorem dX1_add_51 : decode cX1_add 51 = .ok (.dup, 1) := by decide +kernel
theorem dX1_add_52 : decode cX1_add 52 = .ok (.getfield 33, 3) := by decide +kernel
theorem dX1_add_55 : decode cX1_add 55 = .ok (.iconst 1, 1) := by decide +kernel
theorem dX1_add_56 : decode cX1_add 56 = .ok (.iadd, 1) := by decide +kernel
theorem dX1_add_57 : decode cX1_add 57 = .ok (.putfield 33, 3) := by decide +kernel
theorem dX1_add_60 : decode cX1_add 60 = .ok (.aload_n 0, 1) := by decide +kernel
theorem dX1_add_61 : decode cX1_add 61 = .ok (.invokevirtual 37, 3) := by decide +kernel
theorem dX1_add_64 : decode cX1_add 64 = .ok (.return_, 1) := by decide +kernel
theorem dX1_become_0 : decode cX1_become 0 = .ok (.aload_n 0, 1) := by decide +kernel
theorem dX1_become_1 : decode cX1_become 1 = .ok (.aload_n 1, 1) := by decide +kernel
theorem dX1_become_2 : decode cX1_become 2 = .ok (.getfield 33, 3) := by decide +kernel
theorem dX1_become_5 : decode cX1_become 5 = .ok (.putfield 33, 3) := by decide +kernel
theorem dX1_become_8 : decode cX1_become 8 = .ok (.aload_n 1, 1) := by decide +kernel
theorem dX1_become_9 : decode cX1_become 9 = .ok (.getfield 9, 3) := by decide +kernel
theorem dX1_become_12 : decode cX1_become 12 = .ok (.iconst 0, 1) := by decide +kernel
theorem dX1_become_13 : decode cX1_become 13 = .ok (.aload_n 0, 1) := by decide +kernel
theorem dX1_become_14 : decode cX1_become 14 = .ok (.getfield 9, 3) := by decide +kernel
theorem dX1_become_17 : decode cX1_become 17 = .ok (.iconst 0, 1) := by decide +kernel
theorem dX1_become_18 : decode cX1_become 18 = .ok (.aload_n 0, 1) := by decide +kernel
theorem dX1_become_19 : decode cX1_become 19 = .ok (.getfield 33, 3) := by decide +kernel
theorem dX1_become_22 : decode cX1_become 22 = .ok (.invokestatic 40, 3) := by decide +kernel
theorem dX1_become_25 : decode cX1_become 25 = .ok (.aload_n 1, 1) := by decide +kernel
theorem dX1_become_26 : decode cX1_become 26 = .ok (.getfield 15, 3) := by decide +kernel
theorem dX1_become_29 : decode cX1_become 29 = .ok (.iconst 0, 1) := by decide +kernel
theorem dX1_become_30 : decode cX1_become 30 = .ok (.aload_n 0, 1) := by decide +kernel
theorem dX1_become_31 : decode cX1_become 31 = .ok (.getfield 15, 3) := by decide +kernel
theorem dX1_become_34 : decode cX1_become 34 = .ok (.iconst 0, 1) := by decide +kernel
theorem dX1_become_35 : decode cX1_become 35 = .ok (.aload_n 0, 1) := by decide +kernel
theorem dX1_become_36 : decode cX1_become 36 = .ok (.getfield 33, 3) := by decide +kernel
theorem dX1_become_39 : decode cX1_become 39 = .ok (.invokestatic 40, 3) := by decide +kernel
theorem dX1_become_42 : decode cX1_become 42 = .ok (.aload_n 1, 1) := by decide +kernel
theorem dX1_become_43 : decode cX1_become 43 = .ok (.getfield 18, 3) := by decide +kernel
theorem dX1_become_46 : decode cX1_become 46 = .ok (.iconst 0, 1) := by decide +kernel
theorem dX1_become_47 : decode cX1_become 47 = .ok (.aload_n 0, 1) := by decide +kernel
theorem dX1_become_48 : decode cX1_become 48 = .ok (.getfield 18, 3) := by decide +kernel
theorem dX1_become_51 : decode cX1_become 51 = .ok (.iconst 0, 1) := by decide +kernel
theorem dX1_become_52 : decode cX1_become 52 = .ok (.aload_n 0, 1) := by decide +kernel
theorem dX1_become_53 : decode cX1_become 53 = .ok (.getfield 33, 3) := by decide +kernel
theorem dX1_become_56 : decode cX1_become 56 = .ok (.invokestatic 40, 3) := by decide +kernel
theorem dX1_become_59 : decode cX1_become 59 = .ok (.aload_n 1, 1) := by decide +kernel
theorem dX1_become_60 : decode cX1_become 60 = .ok (.getfield 21, 3) := by decide +kernel
theorem dX1_become_63 : decode cX1_become 63 = .ok (.iconst 0, 1) := by decide +kernel
theorem dX1_become_64 : decode cX1_become 64 = .ok (.aload_n 0, 1) := by decide +kernel
theorem dX1_become_65 : decode cX1_become 65 = .ok (.getfield 21, 3) := by decide +kernel
theorem dX1_become_68 : decode cX1_become 68 = .ok (.iconst 0, 1) := by decide +kernel
theorem dX1_become_69 : decode cX1_become 69 = .ok (.aload_n 0, 1) := by decide +kernel
theorem dX1_become_70 : decode cX1_become 70 = .ok (.getfield 33, 3) := by decide +kernel
theorem dX1_become_73 : decode cX1_become 73 = .ok (.invokestatic 40, 3) := by decide +kernel
theorem dX1_become_76 : decode cX1_become 76 = .ok (.aload_n 0, 1) := by decide +kernel
theorem dX1_become_77 : decode cX1_become 77 = .ok (.invokevirtual 37, 3) := by decide +kernel
theorem dX1_become_80 : decode cX1_become 80 = .ok (.return_, 1) := by decide +kernel
theorem dX1_letGo_0 : decode cX1_letGo 0 = .ok (.aload_n 0, 1) := by decide +kernel
theorem dX1_letGo_1 : decode cX1_letGo 1 = .ok (.iconst 0, 1) := by decide +kernel
theorem dX1_letGo_2 : decode cX1_letGo 2 = .ok (.putfield 33, 3) := by decide +kernel
theorem dX1_letGo_5 : decode cX1_letGo 5 = .ok (.aload_n 0, 1) := by decide +kernel
theorem dX1_letGo_6 : decode cX1_letGo 6 = .ok (.invokevirtual 37, 3) := by decide +kernel
theorem dX1_letGo_9 : decode cX1_letGo 9 = .ok (.return_, 1) := by decide +kernel
theorem dX1_sort_0 : decode cX1_sort 0 = .ok (.iconst 0, 1) := by decide +kernel
theorem dX1_sort_1 : decode cX1_sort 1 = .ok (.istore_n 1, 1) := by decide +kernel
theorem dX1_sort_2 : decode cX1_sort 2 = .ok (.iconst (-1), 1) := by decide +kernel
theorem dX1_sort_3 : decode cX1_sort 3 = .ok (.istore_n 2, 1) := by decide +kernel
theorem dX1_sort_4 : decode cX1_sort 4 = .ok (.iload_n 2, 1) := by decide +kernel
theorem dX1_sort_5 : decode cX1_sort 5 = .ok (.bipush 16, 2) := by decide +kernel
theorem dX1_sort_7 : decode cX1_sort 7 = .ok (.if_icmp .ge 54, 3) := by decide +kernel
theorem dX1_sort_10 : decode cX1_sort 10 = .ok (.aload_n 0, 1) := by decide +kernel
theorem dX1_sort_11 : decode cX1_sort 11 = .ok (.getfield 30, 3) := by decide +kernel
theorem dX1_sort_14 : decode cX1_sort 14 = .ok (.iload_n 2, 1) := by decide +kernel
theorem dX1_sort_15 : decode cX1_sort 15 = .ok (.iconst 1, 1) := by decide +kernel
theorem dX1_sort_16 : decode cX1_sort 16 = .ok (.iadd, 1) := by decide +kernel
theorem dX1_sort_17 : decode cX1_sort 17 = .ok (.iload_n 1, 1) := by decide +kernel
theorem dX1_sort_18 : decode cX1_sort 18 = .ok (.iastore, 1) := by decide +kernel
theorem dX1_sort_19 : decode cX1_sort 19 = .ok (.iconst 0, 1) := by decide +kernel
theorem dX1_sort_20 : decode cX1_sort 20 = .ok (.istore_n 3, 1) := by decide +kernel
theorem dX1_sort_21 : decode cX1_sort 21 = .ok (.iload_n 3, 1) := by decide +kernel
theorem dX1_sort_22 : decode cX1_sort 22 = .ok (.aload_n 0, 1) := by decide +kernel
theorem dX1_sort_23 : decode cX1_sort 23 = .ok (.getfield 33, 3) := by decide +kernel
theorem dX1_sort_26 : decode cX1_sort 26 = .ok (.if_icmp .ge 29, 3) := by decide +kernel
theorem dX1_sort_29 : decode cX1_sort 29 = .ok (.aload_n 0, 1) := by decide +kernel
theorem dX1_sort_30 : decode cX1_sort 30 = .ok (.getfield 9, 3) := by decide +kernel
theorem dX1_sort_33 : decode cX1_sort 33 = .ok (.iload_n 3, 1) := by decide +kernel
theorem dX1_sort_34 : decode cX1_sort 34 = .ok (.iaload, 1) := by decide +kernel
theorem dX1_sort_35 : decode cX1_sort 35 = .ok (.iload_n 2, 1) := by decide +kernel
theorem dX1_sort_36 : decode cX1_sort 36 = .ok (.if_icmp .ne 13, 3) := by decide +kernel
theorem dX1_sort_39 : decode cX1_sort 39 = .ok (.aload_n 0, 1) := by decide +kernel
theorem dX1_sort_40 : decode cX1_sort 40 = .ok (.getfield 27, 3) := by decide +kernel
theorem dX1_sort_43 : decode cX1_sort 43 = .ok (.iload_n 1, 1) := by decide +kernel
theorem dX1_sort_44 : decode cX1_sort 44 = .ok (.iload_n 3, 1) := by decide +kernel
theorem dX1_sort_45 : decode cX1_sort 45 = .ok (.iastore, 1) := by decide +kernel
theorem dX1_sort_46 : decode cX1_sort 46 = .ok (.iinc 1 1, 3) := by decide +kernel
theorem dX1_sort_49 : decode cX1_sort 49 = .ok (.iinc 3 1, 3) := by decide +kernel
theorem dX1_sort_52 : decode cX1_sort 52 = .ok (.goto (-31), 3) := by decide +kernel
theorem dX1_sort_55 : decode cX1_sort 55 = .ok (.iinc 2 1, 3) := by decide +kernel
theorem dX1_sort_58 : decode cX1_sort 58 = .ok (.goto (-54), 3) := by decide +kernel
theorem dX1_sort_61 : decode cX1_sort 61 = .ok (.aload_n 0, 1) := by decide +kernel
theorem dX1_sort_62 : decode cX1_sort 62 = .ok (.getfield 30, 3) := by decide +kernel
theorem dX1_sort_65 : decode cX1_sort 65 = .ok (.bipush 17, 2) := by decide +kernel
theorem dX1_sort_67 : decode cX1_sort 67 = .ok (.iload_n 1, 1) := by decide +kernel
theorem dX1_sort_68 : decode cX1_sort 68 = .ok (.iastore, 1) := by decide +kernel
theorem dX1_sort_69 : decode cX1_sort 69 = .ok (.return_, 1) := by decide +kernel
theorem dX1_truthAt_0 : decode cX1_truthAt 0 = .ok (.aload_n 0, 1) := by decide +kernel
theorem dX1_truthAt_1 : decode cX1_truthAt 1 = .ok (.getfield 21, 3) := by decide +kernel
theorem dX1_truthAt_4 : decode cX1_truthAt 4 = .ok (.iload_n 1, 1) := by decide +kernel
theorem dX1_truthAt_5 : decode cX1_truthAt 5 = .ok (.iaload, 1) := by decide +kernel
theorem dX1_truthAt_6 : decode cX1_truthAt 6 = .ok (.iload_n 2, 1) := by decide +kernel
theorem dX1_truthAt_7 : decode cX1_truthAt 7 = .ok (.ishr, 1) := by decide +kernel
theorem dX1_truthAt_8 : decode cX1_truthAt 8 = .ok (.iconst 1, 1) := by decide +kernel
theorem dX1_truthAt_9 : decode cX1_truthAt 9 = .ok (.iand, 1) := by decide +kernel
theorem dX1_truthAt_10 : decode cX1_truthAt 10 = .ok (.ireturn, 1) := by decide +kernel
theorem dX1_findingOfTruths_0 : decode cX1_findingOfTruths 0 = .ok (.aload_n 0, 1) := by decide +kernel
theorem dX1_findingOfTruths_1 : decode cX1_findingOfTruths 1 = .ok (.getfield 18, 3) := by decide +kernel
theorem dX1_findingOfTruths_4 : decode cX1_findingOfTruths 4 = .ok (.iload_n 1, 1) := by decide +kernel
theorem dX1_findingOfTruths_5 : decode cX1_findingOfTruths 5 = .ok (.iaload, 1) := by decide +kernel
theorem dX1_findingOfTruths_6 : decode cX1_findingOfTruths 6 = .ok (.iconst (-1), 1) := by decide +kernel
theorem dX1_findingOfTruths_7 : decode cX1_findingOfTruths 7 = .ok (.if_icmp .ne 5, 3) := by decide +kernel
theorem dX1_findingOfTruths_10 : decode cX1_findingOfTruths 10 = .ok (.iconst 1, 1) := by decide +kernel
theorem dX1_findingOfTruths_11 : decode cX1_findingOfTruths 11 = .ok (.ireturn, 1) := by decide +kernel
theorem dX1_findingOfTruths_12 : decode cX1_findingOfTruths 12 = .ok (.iload_n 2, 1) := by decide +kernel
theorem dX1_findingOfTruths_13 : decode cX1_findingOfTruths 13 = .ok (.ifCond .lt 29, 3) := by decide +kernel
theorem dX1_findingOfTruths_16 : decode cX1_findingOfTruths 16 = .ok (.iload_n 3, 1) := by decide +kernel
theorem dX1_findingOfTruths_17 : decode cX1_findingOfTruths 17 = .ok (.ifCond .lt 25, 3) := by decide +kernel
theorem dX1_findingOfTruths_20 : decode cX1_findingOfTruths 20 = .ok (.iload_n 3, 1) := by decide +kernel
theorem dX1_findingOfTruths_21 : decode cX1_findingOfTruths 21 = .ok (.aload_n 0, 1) := by decide +kernel
theorem dX1_findingOfTruths_22 : decode cX1_findingOfTruths 22 = .ok (.getfield 18, 3) := by decide +kernel
theorem dX1_findingOfTruths_25 : decode cX1_findingOfTruths 25 = .ok (.iload_n 1, 1) := by decide +kernel
theorem dX1_findingOfTruths_26 : decode cX1_findingOfTruths 26 = .ok (.iaload, 1) := by decide +kernel
theorem dX1_findingOfTruths_27 : decode cX1_findingOfTruths 27 = .ok (.if_icmp .gt 15, 3) := by decide +kernel
theorem dX1_findingOfTruths_30 : decode cX1_findingOfTruths 30 = .ok (.iload_n 2, 1) := by decide +kernel
theorem dX1_findingOfTruths_31 : decode cX1_findingOfTruths 31 = .ok (.aload_n 0, 1) := by decide +kernel
theorem dX1_findingOfTruths_32 : decode cX1_findingOfTruths 32 = .ok (.getfield 18, 3) := by decide +kernel
theorem dX1_findingOfTruths_35 : decode cX1_findingOfTruths 35 = .ok (.iload_n 1, 1) := by decide +kernel
theorem dX1_findingOfTruths_36 : decode cX1_findingOfTruths 36 = .ok (.iaload, 1) := by decide +kernel
theorem dX1_findingOfTruths_37 : decode cX1_findingOfTruths 37 = .ok (.iload_n 3, 1) := by decide +kernel
theorem dX1_findingOfTruths_38 : decode cX1_findingOfTruths 38 = .ok (.isub, 1) := by decide +kernel
theorem dX1_findingOfTruths_39 : decode cX1_findingOfTruths 39 = .ok (.if_icmp .le 7, 3) := by decide +kernel
theorem dX1_findingOfTruths_42 : decode cX1_findingOfTruths 42 = .ok (.iconst 2, 1) := by decide +kernel
theorem dX1_findingOfTruths_43 : decode cX1_findingOfTruths 43 = .ok (.goto 4, 3) := by decide +kernel
theorem dX1_findingOfTruths_46 : decode cX1_findingOfTruths 46 = .ok (.iconst 0, 1) := by decide +kernel
theorem dX1_findingOfTruths_47 : decode cX1_findingOfTruths 47 = .ok (.ireturn, 1) := by decide +kernel
theorem dX1_setBits_0 : decode cX1_setBits 0 = .ok (.iconst 1, 1) := by decide +kernel
theorem dX1_setBits_1 : decode cX1_setBits 1 = .ok (.iload_n 3, 1) := by decide +kernel
theorem dX1_setBits_2 : decode cX1_setBits 2 = .ok (.ishl, 1) := by decide +kernel
theorem dX1_setBits_3 : decode cX1_setBits 3 = .ok (.iconst 1, 1) := by decide +kernel
theorem dX1_setBits_4 : decode cX1_setBits 4 = .ok (.isub, 1) := by decide +kernel
theorem dX1_setBits_5 : decode cX1_setBits 5 = .ok (.istore 5, 2) := by decide +kernel
theorem dX1_setBits_7 : decode cX1_setBits 7 = .ok (.aload_n 0, 1) := by decide +kernel
theorem dX1_setBits_8 : decode cX1_setBits 8 = .ok (.getfield 21, 3) := by decide +kernel
theorem dX1_setBits_11 : decode cX1_setBits 11 = .ok (.iload_n 1, 1) := by decide +kernel
theorem dX1_setBits_12 : decode cX1_setBits 12 = .ok (.aload_n 0, 1) := by decide +kernel
theorem dX1_setBits_13 : decode cX1_setBits 13 = .ok (.getfield 21, 3) := by decide +kernel
theorem dX1_setBits_16 : decode cX1_setBits 16 = .ok (.iload_n 1, 1) := by decide +kernel
theorem dX1_setBits_17 : decode cX1_setBits 17 = .ok (.iaload, 1) := by decide +kernel
theorem dX1_setBits_18 : decode cX1_setBits 18 = .ok (.iload 5, 2) := by decide +kernel
theorem dX1_setBits_20 : decode cX1_setBits 20 = .ok (.iload_n 2, 1) := by decide +kernel
theorem dX1_setBits_21 : decode cX1_setBits 21 = .ok (.ishl, 1) := by decide +kernel
theorem dX1_setBits_22 : decode cX1_setBits 22 = .ok (.iconst (-1), 1) := by decide +kernel
theorem dX1_setBits_23 : decode cX1_setBits 23 = .ok (.ixor, 1) := by decide +kernel
theorem dX1_setBits_24 : decode cX1_setBits 24 = .ok (.iand, 1) := by decide +kernel
theorem dX1_setBits_25 : decode cX1_setBits 25 = .ok (.iload 4, 2) := by decide +kernel
theorem dX1_setBits_27 : decode cX1_setBits 27 = .ok (.iload 5, 2) := by decide +kernel
theorem dX1_setBits_29 : decode cX1_setBits 29 = .ok (.iand, 1) := by decide +kernel
theorem dX1_setBits_30 : decode cX1_setBits 30 = .ok (.iload_n 2, 1) := by decide +kernel
theorem dX1_setBits_31 : decode cX1_setBits 31 = .ok (.ishl, 1) := by decide +kernel
theorem dX1_setBits_32 : decode cX1_setBits 32 = .ok (.ior, 1) := by decide +kernel
theorem dX1_setBits_33 : decode cX1_setBits 33 = .ok (.iastore, 1) := by decide +kernel
theorem dX1_setBits_34 : decode cX1_setBits 34 = .ok (.return_, 1) := by decide +kernel
theorem dX1_anyOf_0 : decode cX1_anyOf 0 = .ok (.aload_n 0, 1) := by decide +kernel
theorem dX1_anyOf_1 : decode cX1_anyOf 1 = .ok (.getfield 30, 3) := by decide +kernel
theorem dX1_anyOf_4 : decode cX1_anyOf 4 = .ok (.iload_n 1, 1) := by decide +kernel
theorem dX1_anyOf_5 : decode cX1_anyOf 5 = .ok (.iconst 1, 1) := by decide +kernel
theorem dX1_anyOf_6 : decode cX1_anyOf 6 = .ok (.iadd, 1) := by decide +kernel
theorem dX1_anyOf_7 : decode cX1_anyOf 7 = .ok (.iaload, 1) := by decide +kernel
theorem dX1_anyOf_8 : decode cX1_anyOf 8 = .ok (.aload_n 0, 1) := by decide +kernel
theorem dX1_anyOf_9 : decode cX1_anyOf 9 = .ok (.getfield 30, 3) := by decide +kernel
theorem dX1_anyOf_12 : decode cX1_anyOf 12 = .ok (.iload_n 1, 1) := by decide +kernel
theorem dX1_anyOf_13 : decode cX1_anyOf 13 = .ok (.iconst 2, 1) := by decide +kernel
theorem dX1_anyOf_14 : decode cX1_anyOf 14 = .ok (.iadd, 1) := by decide +kernel
theorem dX1_anyOf_15 : decode cX1_anyOf 15 = .ok (.iaload, 1) := by decide +kernel
theorem dX1_anyOf_16 : decode cX1_anyOf 16 = .ok (.if_icmp .ge 7, 3) := by decide +kernel
theorem dX1_anyOf_19 : decode cX1_anyOf 19 = .ok (.iconst 1, 1) := by decide +kernel
theorem dX1_anyOf_20 : decode cX1_anyOf 20 = .ok (.goto 4, 3) := by decide +kernel
theorem dX1_anyOf_23 : decode cX1_anyOf 23 = .ok (.iconst 0, 1) := by decide +kernel
theorem dX1_anyOf_24 : decode cX1_anyOf 24 = .ok (.ireturn, 1) := by decide +kernel
theorem dX2_init_0 : decode cX2_init 0 = .ok (.aload_n 0, 1) := by decide +kernel
theorem dX2_init_1 : decode cX2_init 1 = .ok (.invokespecial 3, 3) := by decide +kernel
theorem dX2_init_4 : decode cX2_init 4 = .ok (.return_, 1) := by decide +kernel
theorem dX2_drawChest_0 : decode cX2_drawChest 0 = .ok (.aload_n 0, 1) := by decide +kernel
theorem dX2_drawChest_1 : decode cX2_drawChest 1 = .ok (.iload_n 2, 1) := by decide +kernel
theorem dX2_drawChest_2 : decode cX2_drawChest 2 = .ok (.putfield 9, 3) := by decide +kernel
theorem dX2_drawChest_5 : decode cX2_drawChest 5 = .ok (.aload_n 1, 1) := by decide +kernel
theorem dX2_drawChest_6 : decode cX2_drawChest 6 = .ok (.invokevirtual 15, 3) := by decide +kernel
theorem dX2_drawChest_9 : decode cX2_drawChest 9 = .ok (.aload_n 1, 1) := by decide +kernel
theorem dX2_drawChest_10 : decode cX2_drawChest 10 = .ok (.iconst 0, 1) := by decide +kernel
theorem dX2_drawChest_11 : decode cX2_drawChest 11 = .ok (.iconst 2, 1) := by decide +kernel
theorem dX2_drawChest_12 : decode cX2_drawChest 12 = .ok (.invokevirtual 20, 3) := by decide +kernel
theorem dX2_drawChest_15 : decode cX2_drawChest 15 = .ok (.aload_n 1, 1) := by decide +kernel
theorem dX2_drawChest_16 : decode cX2_drawChest 16 = .ok (.iconst 1, 1) := by decide +kernel
theorem dX2_drawChest_17 : decode cX2_drawChest 17 = .ok (.iconst 2, 1) := by decide +kernel
theorem dX2_drawChest_18 : decode cX2_drawChest 18 = .ok (.invokevirtual 20, 3) := by decide +kernel
theorem dX2_drawChest_21 : decode cX2_drawChest 21 = .ok (.iconst 0, 1) := by decide +kernel
theorem dX2_drawChest_22 : decode cX2_drawChest 22 = .ok (.istore_n 3, 1) := by decide +kernel
theorem dX2_drawChest_23 : decode cX2_drawChest 23 = .ok (.iload_n 3, 1) := by decide +kernel
theorem dX2_drawChest_24 : decode cX2_drawChest 24 = .ok (.getstatic 24, 3) := by decide +kernel
theorem dX2_drawChest_27 : decode cX2_drawChest 27 = .ok (.arraylength, 1) := by decide +kernel
theorem dX2_drawChest_28 : decode cX2_drawChest 28 = .ok (.if_icmp .ge 44, 3) := by decide +kernel
theorem dX2_drawChest_31 : decode cX2_drawChest 31 = .ok (.aload_n 0, 1) := by decide +kernel
theorem dX2_drawChest_32 : decode cX2_drawChest 32 = .ok (.iconst 5, 1) := by decide +kernel
theorem dX2_drawChest_33 : decode cX2_drawChest 33 = .ok (.invokevirtual 28, 3) := by decide +kernel
theorem dX2_drawChest_36 : decode cX2_drawChest 36 = .ok (.istore 4, 2) := by decide +kernel
theorem dX2_drawChest_38 : decode cX2_drawChest 38 = .ok (.iconst 2, 1) := by decide +kernel
theorem dX2_drawChest_39 : decode cX2_drawChest 39 = .ok (.aload_n 0, 1) := by decide +kernel
theorem dX2_drawChest_40 : decode cX2_drawChest 40 = .ok (.iconst 3, 1) := by decide +kernel
theorem dX2_drawChest_41 : decode cX2_drawChest 41 = .ok (.invokevirtual 28, 3) := by decide +kernel
theorem dX2_drawChest_44 : decode cX2_drawChest 44 = .ok (.iadd, 1) := by decide +kernel
theorem dX2_drawChest_45 : decode cX2_drawChest 45 = .ok (.istore 5, 2) := by decide +kernel
theorem dX2_drawChest_47 : decode cX2_drawChest 47 = .ok (.aload_n 1, 1) := by decide +kernel
theorem dX2_drawChest_48 : decode cX2_drawChest 48 = .ok (.getstatic 24, 3) := by decide +kernel
theorem dX2_drawChest_51 : decode cX2_drawChest 51 = .ok (.iload_n 3, 1) := by decide +kernel
theorem dX2_drawChest_52 : decode cX2_drawChest 52 = .ok (.iaload, 1) := by decide +kernel
theorem dX2_drawChest_53 : decode cX2_drawChest 53 = .ok (.iload 4, 2) := by decide +kernel
theorem dX2_drawChest_55 : decode cX2_drawChest 55 = .ok (.iload 5, 2) := by decide +kernel
theorem dX2_drawChest_57 : decode cX2_drawChest 57 = .ok (.aload_n 0, 1) := by decide +kernel
theorem dX2_drawChest_58 : decode cX2_drawChest 58 = .ok (.bipush 6, 2) := by decide +kernel
theorem dX2_drawChest_60 : decode cX2_drawChest 60 = .ok (.invokevirtual 28, 3) := by decide +kernel
theorem dX2_drawChest_63 : decode cX2_drawChest 63 = .ok (.invokevirtual 32, 3) := by decide +kernel
theorem dX2_drawChest_66 : decode cX2_drawChest 66 = .ok (.iinc 3 1, 3) := by decide +kernel
theorem dX2_drawChest_69 : decode cX2_drawChest 69 = .ok (.goto (-46), 3) := by decide +kernel
theorem dX2_drawChest_72 : decode cX2_drawChest 72 = .ok (.iconst 0, 1) := by decide +kernel
theorem dX2_drawChest_73 : decode cX2_drawChest 73 = .ok (.istore_n 3, 1) := by decide +kernel
theorem dX2_drawChest_74 : decode cX2_drawChest 74 = .ok (.iload_n 3, 1) := by decide +kernel
theorem dX2_drawChest_75 : decode cX2_drawChest 75 = .ok (.bipush 6, 2) := by decide +kernel
theorem dX2_drawChest_77 : decode cX2_drawChest 77 = .ok (.if_icmp .ge 23, 3) := by decide +kernel
theorem dX2_drawChest_80 : decode cX2_drawChest 80 = .ok (.aload_n 0, 1) := by decide +kernel
theorem dX2_drawChest_81 : decode cX2_drawChest 81 = .ok (.aload_n 1, 1) := by decide +kernel
theorem dX2_drawChest_82 : decode cX2_drawChest 82 = .ok (.iload_n 3, 1) := by decide +kernel
theorem dX2_drawChest_83 : decode cX2_drawChest 83 = .ok (.ifCond .ne 7, 3) := by decide +kernel
theorem dX2_drawChest_86 : decode cX2_drawChest 86 = .ok (.iconst 1, 1) := by decide +kernel
theorem dX2_drawChest_87 : decode cX2_drawChest 87 = .ok (.goto 4, 3) := by decide +kernel
theorem dX2_drawChest_90 : decode cX2_drawChest 90 = .ok (.iconst 0, 1) := by decide +kernel
theorem dX2_drawChest_91 : decode cX2_drawChest 91 = .ok (.invokevirtual 36, 3) := by decide +kernel
theorem dX2_drawChest_94 : decode cX2_drawChest 94 = .ok (.iinc 3 1, 3) := by decide +kernel
theorem dX2_drawChest_97 : decode cX2_drawChest 97 = .ok (.goto (-23), 3) := by decide +kernel
theorem dX2_drawChest_100 : decode cX2_drawChest 100 = .ok (.return_, 1) := by decide +kernel
theorem dX2_drawCondition_0 : decode cX2_drawCondition 0 = .ok (.iload_n 2, 1) := by decide +kernel
theorem dX2_drawCondition_1 : decode cX2_drawCondition 1 = .ok (.ifCond .eq 7, 3) := by decide +kernel
theorem dX2_drawCondition_4 : decode cX2_drawCondition 4 = .ok (.iconst (-1), 1) := by decide +kernel
theorem dX2_drawCondition_5 : decode cX2_drawCondition 5 = .ok (.goto 7, 3) := by decide +kernel
theorem dX2_drawCondition_8 : decode cX2_drawCondition 8 = .ok (.aload_n 0, 1) := by decide +kernel
theorem dX2_drawCondition_9 : decode cX2_drawCondition 9 = .ok (.invokevirtual 40, 3) := by decide +kernel
theorem dX2_drawCondition_12 : decode cX2_drawCondition 12 = .ok (.istore_n 3, 1) := by decide +kernel
theorem dX2_drawCondition_13 : decode cX2_drawCondition 13 = .ok (.aload_n 0, 1) := by decide +kernel
theorem dX2_drawCondition_14 : decode cX2_drawCondition 14 = .ok (.invokevirtual 40, 3) := by decide +kernel
theorem dX2_drawCondition_17 : decode cX2_drawCondition 17 = .ok (.istore 4, 2) := by decide +kernel
theorem dX2_drawCondition_19 : decode cX2_drawCondition 19 = .ok (.aload_n 1, 1) := by decide +kernel
theorem dX2_drawCondition_20 : decode cX2_drawCondition 20 = .ok (.getfield 44, 3) := by decide +kernel
theorem dX2_drawCondition_23 : decode cX2_drawCondition 23 = .ok (.iload 4, 2) := by decide +kernel
theorem dX2_drawCondition_25 : decode cX2_drawCondition 25 = .ok (.iaload, 1) := by decide +kernel
theorem dX2_drawCondition_26 : decode cX2_drawCondition 26 = .ok (.iconst 4, 1) := by decide +kernel
theorem dX2_drawCondition_27 : decode cX2_drawCondition 27 = .ok (.if_icmp .ne 7, 3) := by decide +kernel
theorem dX2_drawCondition_30 : decode cX2_drawCondition 30 = .ok (.iconst 2, 1) := by decide +kernel
theorem dX2_drawCondition_31 : decode cX2_drawCondition 31 = .ok (.goto 10, 3) := by decide +kernel
theorem dX2_drawCondition_34 : decode cX2_drawCondition 34 = .ok (.aload_n 1, 1) := by decide +kernel
theorem dX2_drawCondition_35 : decode cX2_drawCondition 35 = .ok (.getfield 47, 3) := by decide +kernel
theorem dX2_drawCondition_38 : decode cX2_drawCondition 38 = .ok (.iload 4, 2) := by decide +kernel
theorem dX2_drawCondition_40 : decode cX2_drawCondition 40 = .ok (.iaload, 1) := by decide +kernel
theorem dX2_drawCondition_41 : decode cX2_drawCondition 41 = .ok (.istore 5, 2) := by decide +kernel
theorem dX2_drawCondition_43 : decode cX2_drawCondition 43 = .ok (.iconst 0, 1) := by decide +kernel
theorem dX2_drawCondition_44 : decode cX2_drawCondition 44 = .ok (.istore 6, 2) := by decide +kernel
theorem dX2_drawCondition_46 : decode cX2_drawCondition 46 = .ok (.iconst 0, 1) := by decide +kernel
theorem dX2_drawCondition_47 : decode cX2_drawCondition 47 = .ok (.istore 7, 2) := by decide +kernel
theorem dX2_drawCondition_49 : decode cX2_drawCondition 49 = .ok (.iload 7, 2) := by decide +kernel
theorem dX2_drawCondition_51 : decode cX2_drawCondition 51 = .ok (.iload 5, 2) := by decide +kernel
theorem dX2_drawCondition_53 : decode cX2_drawCondition 53 = .ok (.if_icmp .ge 63, 3) := by decide +kernel
theorem dX2_drawCondition_56 : decode cX2_drawCondition 56 = .ok (.iload_n 2, 1) := by decide +kernel
theorem dX2_drawCondition_57 : decode cX2_drawCondition 57 = .ok (.ifCond .eq 20, 3) := by decide +kernel
theorem dX2_drawCondition_60 : decode cX2_drawCondition 60 = .ok (.iload 7, 2) := by decide +kernel
theorem dX2_drawCondition_62 : decode cX2_drawCondition 62 = .ok (.iload 5, 2) := by decide +kernel
theorem dX2_drawCondition_64 : decode cX2_drawCondition 64 = .ok (.iconst 1, 1) := by decide +kernel
theorem dX2_drawCondition_65 : decode cX2_drawCondition 65 = .ok (.isub, 1) := by decide +kernel
theorem dX2_drawCondition_66 : decode cX2_drawCondition 66 = .ok (.if_icmp .ne 7, 3) := by decide +kernel
theorem dX2_drawCondition_69 : decode cX2_drawCondition 69 = .ok (.iconst 1, 1) := by decide +kernel
theorem dX2_drawCondition_70 : decode cX2_drawCondition 70 = .ok (.goto 20, 3) := by decide +kernel
theorem dX2_drawCondition_73 : decode cX2_drawCondition 73 = .ok (.iconst 0, 1) := by decide +kernel
theorem dX2_drawCondition_74 : decode cX2_drawCondition 74 = .ok (.goto 16, 3) := by decide +kernel
theorem dX2_drawCondition_77 : decode cX2_drawCondition 77 = .ok (.aload_n 0, 1) := by decide +kernel
theorem dX2_drawCondition_78 : decode cX2_drawCondition 78 = .ok (.iconst 3, 1) := by decide +kernel
theorem dX2_drawCondition_79 : decode cX2_drawCondition 79 = .ok (.invokevirtual 28, 3) := by decide +kernel
theorem dX2_drawCondition_82 : decode cX2_drawCondition 82 = .ok (.ifCond .eq 7, 3) := by decide +kernel
theorem dX2_drawCondition_85 : decode cX2_drawCondition 85 = .ok (.iconst 1, 1) := by decide +kernel
theorem dX2_drawCondition_86 : decode cX2_drawCondition 86 = .ok (.goto 4, 3) := by decide +kernel
theorem dX2_drawCondition_89 : decode cX2_drawCondition 89 = .ok (.iconst 0, 1) := by decide +kernel
theorem dX2_drawCondition_90 : decode cX2_drawCondition 90 = .ok (.istore 8, 2) := by decide +kernel
theorem dX2_drawCondition_92 : decode cX2_drawCondition 92 = .ok (.iload 6, 2) := by decide +kernel
theorem dX2_drawCondition_94 : decode cX2_drawCondition 94 = .ok (.iload 8, 2) := by decide +kernel
theorem dX2_drawCondition_96 : decode cX2_drawCondition 96 = .ok (.ifCond .eq 10, 3) := by decide +kernel
theorem dX2_drawCondition_99 : decode cX2_drawCondition 99 = .ok (.iconst 1, 1) := by decide +kernel
theorem dX2_drawCondition_100 : decode cX2_drawCondition 100 = .ok (.iload 7, 2) := by decide +kernel
theorem dX2_drawCondition_102 : decode cX2_drawCondition 102 = .ok (.ishl, 1) := by decide +kernel
theorem dX2_drawCondition_103 : decode cX2_drawCondition 103 = .ok (.goto 4, 3) := by decide +kernel
theorem dX2_drawCondition_106 : decode cX2_drawCondition 106 = .ok (.iconst 0, 1) := by decide +kernel
theorem dX2_drawCondition_107 : decode cX2_drawCondition 107 = .ok (.ior, 1) := by decide +kernel
theorem dX2_drawCondition_108 : decode cX2_drawCondition 108 = .ok (.istore 6, 2) := by decide +kernel
theorem dX2_drawCondition_110 : decode cX2_drawCondition 110 = .ok (.iinc 7 1, 3) := by decide +kernel
theorem dX2_drawCondition_113 : decode cX2_drawCondition 113 = .ok (.goto (-64), 3) := by decide +kernel
theorem dX2_drawCondition_116 : decode cX2_drawCondition 116 = .ok (.aload_n 1, 1) := by decide +kernel
theorem dX2_drawCondition_117 : decode cX2_drawCondition 117 = .ok (.aload_n 1, 1) := by decide +kernel
theorem dX2_drawCondition_118 : decode cX2_drawCondition 118 = .ok (.iload_n 3, 1) := by decide +kernel
theorem dX2_drawCondition_119 : decode cX2_drawCondition 119 = .ok (.iload 4, 2) := by decide +kernel
theorem dX2_drawCondition_121 : decode cX2_drawCondition 121 = .ok (.iload 5, 2) := by decide +kernel
theorem dX2_drawCondition_123 : decode cX2_drawCondition 123 = .ok (.invokevirtual 50, 3) := by decide +kernel
theorem dX2_drawCondition_126 : decode cX2_drawCondition 126 = .ok (.iconst 0, 1) := by decide +kernel
theorem dX2_drawCondition_127 : decode cX2_drawCondition 127 = .ok (.iload 5, 2) := by decide +kernel
theorem dX2_drawCondition_129 : decode cX2_drawCondition 129 = .ok (.iload 6, 2) := by decide +kernel
theorem dX2_drawCondition_131 : decode cX2_drawCondition 131 = .ok (.invokevirtual 54, 3) := by decide +kernel
theorem dX2_drawCondition_134 : decode cX2_drawCondition 134 = .ok (.return_, 1) := by decide +kernel
theorem dX2_drawSeat_0 : decode cX2_drawSeat 0 = .ok (.aload_n 0, 1) := by decide +kernel
theorem dX2_drawSeat_1 : decode cX2_drawSeat 1 = .ok (.getstatic 24, 3) := by decide +kernel
theorem dX2_drawSeat_4 : decode cX2_drawSeat 4 = .ok (.arraylength, 1) := by decide +kernel
theorem dX2_drawSeat_5 : decode cX2_drawSeat 5 = .ok (.invokevirtual 28, 3) := by decide +kernel
theorem dX2_drawSeat_8 : decode cX2_drawSeat 8 = .ok (.istore_n 1, 1) := by decide +kernel
theorem dX2_drawSeat_9 : decode cX2_drawSeat 9 = .ok (.iload_n 1, 1) := by decide +kernel
theorem dX2_drawSeat_10 : decode cX2_drawSeat 10 = .ok (.ifCond .lt 19, 3) := by decide +kernel
theorem dX2_drawSeat_13 : decode cX2_drawSeat 13 = .ok (.iload_n 1, 1) := by decide +kernel
theorem dX2_drawSeat_14 : decode cX2_drawSeat 14 = .ok (.getstatic 24, 3) := by decide +kernel
theorem dX2_drawSeat_17 : decode cX2_drawSeat 17 = .ok (.arraylength, 1) := by decide +kernel
theorem dX2_drawSeat_18 : decode cX2_drawSeat 18 = .ok (.if_icmp .ge 11, 3) := by decide +kernel
theorem dX2_drawSeat_21 : decode cX2_drawSeat 21 = .ok (.getstatic 24, 3) := by decide +kernel
theorem dX2_drawSeat_24 : decode cX2_drawSeat 24 = .ok (.iload_n 1, 1) := by decide +kernel
theorem dX2_drawSeat_25 : decode cX2_drawSeat 25 = .ok (.iaload, 1) := by decide +kernel
theorem dX2_drawSeat_26 : decode cX2_drawSeat 26 = .ok (.goto 4, 3) := by decide +kernel
theorem dX2_drawSeat_29 : decode cX2_drawSeat 29 = .ok (.iconst 0, 1) := by decide +kernel
theorem dX2_drawSeat_30 : decode cX2_drawSeat 30 = .ok (.ireturn, 1) := by decide +kernel
theorem dX2_below_0 : decode cX2_below 0 = .ok (.aload_n 0, 1) := by decide +kernel
theorem dX2_below_1 : decode cX2_below 1 = .ok (.aload_n 0, 1) := by decide +kernel
theorem dX2_below_2 : decode cX2_below 2 = .ok (.getfield 9, 3) := by decide +kernel
theorem dX2_below_5 : decode cX2_below 5 = .ok (.ldc 57, 2) := by decide +kernel
theorem dX2_below_7 : decode cX2_below 7 = .ok (.imul, 1) := by decide +kernel
theorem dX2_below_8 : decode cX2_below 8 = .ok (.sipush 12345, 3) := by decide +kernel
theorem dX2_below_11 : decode cX2_below 11 = .ok (.iadd, 1) := by decide +kernel
theorem dX2_below_12 : decode cX2_below 12 = .ok (.putfield 9, 3) := by decide +kernel
theorem dX2_below_15 : decode cX2_below 15 = .ok (.iload_n 1, 1) := by decide +kernel
theorem dX2_below_16 : decode cX2_below 16 = .ok (.ifCond .le 15, 3) := by decide +kernel
theorem dX2_below_19 : decode cX2_below 19 = .ok (.aload_n 0, 1) := by decide +kernel
theorem dX2_below_20 : decode cX2_below 20 = .ok (.getfield 9, 3) := by decide +kernel
theorem dX2_below_23 : decode cX2_below 23 = .ok (.bipush 16, 2) := by decide +kernel
theorem dX2_below_25 : decode cX2_below 25 = .ok (.iushr, 1) := by decide +kernel
theorem dX2_below_26 : decode cX2_below 26 = .ok (.iload_n 1, 1) := by decide +kernel
theorem dX2_below_27 : decode cX2_below 27 = .ok (.irem, 1) := by decide +kernel
theorem dX2_below_28 : decode cX2_below 28 = .ok (.goto 4, 3) := by decide +kernel
theorem dX2_below_31 : decode cX2_below 31 = .ok (.iconst 0, 1) := by decide +kernel
theorem dX2_below_32 : decode cX2_below 32 = .ok (.ireturn, 1) := by decide +kernel
theorem dX3_init_0 : decode cX3_init 0 = .ok (.aload_n 0, 1) := by decide +kernel
theorem dX3_init_1 : decode cX3_init 1 = .ok (.invokespecial 3, 3) := by decide +kernel
theorem dX3_init_4 : decode cX3_init 4 = .ok (.aload_n 0, 1) := by decide +kernel
theorem dX3_init_5 : decode cX3_init 5 = .ok (.bipush 30, 2) := by decide +kernel
theorem dX3_init_7 : decode cX3_init 7 = .ok (.newarray .int, 2) := by decide +kernel
theorem dX3_init_9 : decode cX3_init 9 = .ok (.putfield 9, 3) := by decide +kernel
theorem dX3_init_12 : decode cX3_init 12 = .ok (.return_, 1) := by decide +kernel
theorem dX3_push_0 : decode cX3_push 0 = .ok (.aload_n 0, 1) := by decide +kernel
theorem dX3_push_1 : decode cX3_push 1 = .ok (.getfield 9, 3) := by decide +kernel
theorem dX3_push_4 : decode cX3_push 4 = .ok (.aload_n 0, 1) := by decide +kernel
theorem dX3_push_5 : decode cX3_push 5 = .ok (.getfield 15, 3) := by decide +kernel
theorem dX3_push_8 : decode cX3_push 8 = .ok (.iload_n 1, 1) := by decide +kernel
theorem dX3_push_9 : decode cX3_push 9 = .ok (.iastore, 1) := by decide +kernel
theorem dX3_push_10 : decode cX3_push 10 = .ok (.aload_n 0, 1) := by decide +kernel
theorem dX3_push_11 : decode cX3_push 11 = .ok (.aload_n 0, 1) := by decide +kernel
theorem dX3_push_12 : decode cX3_push 12 = .ok (.getfield 15, 3) := by decide +kernel
theorem dX3_push_15 : decode cX3_push 15 = .ok (.iconst 1, 1) := by decide +kernel
theorem dX3_push_16 : decode cX3_push 16 = .ok (.iadd, 1) := by decide +kernel
theorem dX3_push_17 : decode cX3_push 17 = .ok (.bipush 30, 2) := by decide +kernel
theorem dX3_push_19 : decode cX3_push 19 = .ok (.if_icmp .ge 12, 3) := by decide +kernel
theorem dX3_push_22 : decode cX3_push 22 = .ok (.aload_n 0, 1) := by decide +kernel
theorem dX3_push_23 : decode cX3_push 23 = .ok (.getfield 15, 3) := by decide +kernel
theorem dX3_push_26 : decode cX3_push 26 = .ok (.iconst 1, 1) := by decide +kernel
theorem dX3_push_27 : decode cX3_push 27 = .ok (.iadd, 1) := by decide +kernel
theorem dX3_push_28 : decode cX3_push 28 = .ok (.goto 4, 3) := by decide +kernel
theorem dX3_push_31 : decode cX3_push 31 = .ok (.iconst 0, 1) := by decide +kernel
theorem dX3_push_32 : decode cX3_push 32 = .ok (.putfield 15, 3) := by decide +kernel
theorem dX3_push_35 : decode cX3_push 35 = .ok (.aload_n 0, 1) := by decide +kernel
theorem dX3_push_36 : decode cX3_push 36 = .ok (.aload_n 0, 1) := by decide +kernel
theorem dX3_push_37 : decode cX3_push 37 = .ok (.getfield 19, 3) := by decide +kernel
theorem dX3_push_40 : decode cX3_push 40 = .ok (.iconst 1, 1) := by decide +kernel
theorem dX3_push_41 : decode cX3_push 41 = .ok (.iadd, 1) := by decide +kernel
theorem dX3_push_42 : decode cX3_push 42 = .ok (.bipush 30, 2) := by decide +kernel
theorem dX3_push_44 : decode cX3_push 44 = .ok (.invokestatic 22, 3) := by decide +kernel
theorem dX3_push_47 : decode cX3_push 47 = .ok (.putfield 19, 3) := by decide +kernel
theorem dX3_push_50 : decode cX3_push 50 = .ok (.return_, 1) := by decide +kernel
theorem dX3_pushAll_0 : decode cX3_pushAll 0 = .ok (.iconst 0, 1) := by decide +kernel
theorem dX3_pushAll_1 : decode cX3_pushAll 1 = .ok (.istore_n 3, 1) := by decide +kernel
theorem dX3_pushAll_2 : decode cX3_pushAll 2 = .ok (.iload_n 3, 1) := by decide +kernel
theorem dX3_pushAll_3 : decode cX3_pushAll 3 = .ok (.iload_n 2, 1) := by decide +kernel
theorem dX3_pushAll_4 : decode cX3_pushAll 4 = .ok (.if_icmp .ge 22, 3) := by decide +kernel
theorem dX3_pushAll_7 : decode cX3_pushAll 7 = .ok (.iload_n 3, 1) := by decide +kernel
theorem dX3_pushAll_8 : decode cX3_pushAll 8 = .ok (.aload_n 1, 1) := by decide +kernel
theorem dX3_pushAll_9 : decode cX3_pushAll 9 = .ok (.arraylength, 1) := by decide +kernel
theorem dX3_pushAll_10 : decode cX3_pushAll 10 = .ok (.if_icmp .ge 16, 3) := by decide +kernel
theorem dX3_pushAll_13 : decode cX3_pushAll 13 = .ok (.aload_n 0, 1) := by decide +kernel
theorem dX3_pushAll_14 : decode cX3_pushAll 14 = .ok (.aload_n 1, 1) := by decide +kernel
theorem dX3_pushAll_15 : decode cX3_pushAll 15 = .ok (.iload_n 3, 1) := by decide +kernel
theorem dX3_pushAll_16 : decode cX3_pushAll 16 = .ok (.iaload, 1) := by decide +kernel
theorem dX3_pushAll_17 : decode cX3_pushAll 17 = .ok (.invokevirtual 28, 3) := by decide +kernel
theorem dX3_pushAll_20 : decode cX3_pushAll 20 = .ok (.iinc 3 1, 3) := by decide +kernel
theorem dX3_pushAll_23 : decode cX3_pushAll 23 = .ok (.goto (-21), 3) := by decide +kernel
theorem dX3_pushAll_26 : decode cX3_pushAll 26 = .ok (.return_, 1) := by decide +kernel
theorem dX3_pop_0 : decode cX3_pop 0 = .ok (.aload_n 0, 1) := by decide +kernel
theorem dX3_pop_1 : decode cX3_pop 1 = .ok (.getfield 19, 3) := by decide +kernel
theorem dX3_pop_4 : decode cX3_pop 4 = .ok (.ifCond .ne 5, 3) := by decide +kernel
theorem dX3_pop_7 : decode cX3_pop 7 = .ok (.iconst (-1), 1) := by decide +kernel
theorem dX3_pop_8 : decode cX3_pop 8 = .ok (.ireturn, 1) := by decide +kernel
theorem dX3_pop_9 : decode cX3_pop 9 = .ok (.aload_n 0, 1) := by decide +kernel
theorem dX3_pop_10 : decode cX3_pop 10 = .ok (.dup, 1) := by decide +kernel
theorem dX3_pop_11 : decode cX3_pop 11 = .ok (.getfield 19, 3) := by decide +kernel
theorem dX3_pop_14 : decode cX3_pop 14 = .ok (.iconst 1, 1) := by decide +kernel
theorem dX3_pop_15 : decode cX3_pop 15 = .ok (.isub, 1) := by decide +kernel
theorem dX3_pop_16 : decode cX3_pop 16 = .ok (.putfield 19, 3) := by decide +kernel
theorem dX3_pop_19 : decode cX3_pop 19 = .ok (.aload_n 0, 1) := by decide +kernel
theorem dX3_pop_20 : decode cX3_pop 20 = .ok (.aload_n 0, 1) := by decide +kernel
theorem dX3_pop_21 : decode cX3_pop 21 = .ok (.getfield 15, 3) := by decide +kernel
theorem dX3_pop_24 : decode cX3_pop 24 = .ok (.ifCond .le 12, 3) := by decide +kernel
theorem dX3_pop_27 : decode cX3_pop 27 = .ok (.aload_n 0, 1) := by decide +kernel
theorem dX3_pop_28 : decode cX3_pop 28 = .ok (.getfield 15, 3) := by decide +kernel
theorem dX3_pop_31 : decode cX3_pop 31 = .ok (.iconst 1, 1) := by decide +kernel
theorem dX3_pop_32 : decode cX3_pop 32 = .ok (.isub, 1) := by decide +kernel
theorem dX3_pop_33 : decode cX3_pop 33 = .ok (.goto 5, 3) := by decide +kernel
theorem dX3_pop_36 : decode cX3_pop 36 = .ok (.bipush 29, 2) := by decide +kernel
theorem dX3_pop_38 : decode cX3_pop 38 = .ok (.putfield 15, 3) := by decide +kernel
theorem dX3_pop_41 : decode cX3_pop 41 = .ok (.aload_n 0, 1) := by decide +kernel
theorem dX3_pop_42 : decode cX3_pop 42 = .ok (.getfield 9, 3) := by decide +kernel
theorem dX3_pop_45 : decode cX3_pop 45 = .ok (.aload_n 0, 1) := by decide +kernel
theorem dX3_pop_46 : decode cX3_pop 46 = .ok (.getfield 15, 3) := by decide +kernel
theorem dX3_pop_49 : decode cX3_pop 49 = .ok (.iaload, 1) := by decide +kernel
theorem dX3_pop_50 : decode cX3_pop 50 = .ok (.ireturn, 1) := by decide +kernel
theorem dX3_letGo_0 : decode cX3_letGo 0 = .ok (.aload_n 0, 1) := by decide +kernel
theorem dX3_letGo_1 : decode cX3_letGo 1 = .ok (.iconst 0, 1) := by decide +kernel
theorem dX3_letGo_2 : decode cX3_letGo 2 = .ok (.putfield 19, 3) := by decide +kernel
theorem dX3_letGo_5 : decode cX3_letGo 5 = .ok (.return_, 1) := by decide +kernel
theorem dX4_init_0 : decode cX4_init 0 = .ok (.aload_n 0, 1) := by decide +kernel
theorem dX4_init_1 : decode cX4_init 1 = .ok (.invokespecial 3, 3) := by decide +kernel
theorem dX4_init_4 : decode cX4_init 4 = .ok (.aload_n 0, 1) := by decide +kernel
theorem dX4_init_5 : decode cX4_init 5 = .ok (.sipush 1024, 3) := by decide +kernel
theorem dX4_init_8 : decode cX4_init 8 = .ok (.newarray .boolean, 2) := by decide +kernel
theorem dX4_init_10 : decode cX4_init 10 = .ok (.putfield 9, 3) := by decide +kernel
theorem dX4_init_13 : decode cX4_init 13 = .ok (.aload_n 0, 1) := by decide +kernel
theorem dX4_init_14 : decode cX4_init 14 = .ok (.iconst (-1), 1) := by decide +kernel
theorem dX4_init_15 : decode cX4_init 15 = .ok (.iconst (-1), 1) := by decide +kernel
theorem dX4_init_16 : decode cX4_init 16 = .ok (.iconst (-1), 1) := by decide +kernel
theorem dX4_init_17 : decode cX4_init 17 = .ok (.invokevirtual 15, 3) := by decide +kernel
theorem dX4_init_20 : decode cX4_init 20 = .ok (.return_, 1) := by decide +kernel
theorem dX4_put_0 : decode cX4_put 0 = .ok (.iconst 0, 1) := by decide +kernel
theorem dX4_put_1 : decode cX4_put 1 = .ok (.istore 4, 2) := by decide +kernel
theorem dX4_put_3 : decode cX4_put 3 = .ok (.iload_n 1, 1) := by decide +kernel
theorem dX4_put_4 : decode cX4_put 4 = .ok (.istore 5, 2) := by decide +kernel
theorem dX4_put_6 : decode cX4_put 6 = .ok (.iload 5, 2) := by decide +kernel
theorem dX4_put_8 : decode cX4_put 8 = .ok (.iload_n 1, 1) := by decide +kernel
theorem dX4_put_9 : decode cX4_put 9 = .ok (.iload_n 2, 1) := by decide +kernel
theorem dX4_put_10 : decode cX4_put 10 = .ok (.iadd, 1) := by decide +kernel
theorem dX4_put_11 : decode cX4_put 11 = .ok (.if_icmp .ge 39, 3) := by decide +kernel
theorem dX4_put_14 : decode cX4_put 14 = .ok (.iload 5, 2) := by decide +kernel
theorem dX4_put_16 : decode cX4_put 16 = .ok (.sipush 1024, 3) := by decide +kernel
theorem dX4_put_19 : decode cX4_put 19 = .ok (.if_icmp .ge 31, 3) := by decide +kernel
theorem dX4_put_22 : decode cX4_put 22 = .ok (.aload_n 0, 1) := by decide +kernel
theorem dX4_put_23 : decode cX4_put 23 = .ok (.getfield 9, 3) := by decide +kernel
theorem dX4_put_26 : decode cX4_put 26 = .ok (.iload 5, 2) := by decide +kernel
theorem dX4_put_28 : decode cX4_put 28 = .ok (.baload, 1) := by decide +kernel
theorem dX4_put_29 : decode cX4_put 29 = .ok (.iload_n 3, 1) := by decide +kernel
theorem dX4_put_30 : decode cX4_put 30 = .ok (.if_icmp .eq 14, 3) := by decide +kernel
theorem dX4_put_33 : decode cX4_put 33 = .ok (.aload_n 0, 1) := by decide +kernel
theorem dX4_put_34 : decode cX4_put 34 = .ok (.getfield 9, 3) := by decide +kernel
theorem dX4_put_37 : decode cX4_put 37 = .ok (.iload 5, 2) := by decide +kernel
theorem dX4_put_39 : decode cX4_put 39 = .ok (.iload_n 3, 1) := by decide +kernel
theorem dX4_put_40 : decode cX4_put 40 = .ok (.bastore, 1) := by decide +kernel
theorem dX4_put_41 : decode cX4_put 41 = .ok (.iinc 4 1, 3) := by decide +kernel
theorem dX4_put_44 : decode cX4_put 44 = .ok (.iinc 5 1, 3) := by decide +kernel
theorem dX4_put_47 : decode cX4_put 47 = .ok (.goto (-41), 3) := by decide +kernel
theorem dX4_put_50 : decode cX4_put 50 = .ok (.iload 4, 2) := by decide +kernel
theorem dX4_put_52 : decode cX4_put 52 = .ok (.ireturn, 1) := by decide +kernel
theorem dX4_number_0 : decode cX4_number 0 = .ok (.iconst 0, 1) := by decide +kernel
theorem dX4_number_1 : decode cX4_number 1 = .ok (.istore_n 1, 1) := by decide +kernel
theorem dX4_number_2 : decode cX4_number 2 = .ok (.iconst 0, 1) := by decide +kernel
theorem dX4_number_3 : decode cX4_number 3 = .ok (.istore_n 2, 1) := by decide +kernel
theorem dX4_number_4 : decode cX4_number 4 = .ok (.iload_n 2, 1) := by decide +kernel
theorem dX4_number_5 : decode cX4_number 5 = .ok (.sipush 1024, 3) := by decide +kernel
theorem dX4_number_8 : decode cX4_number 8 = .ok (.if_icmp .ge 21, 3) := by decide +kernel
theorem dX4_number_11 : decode cX4_number 11 = .ok (.aload_n 0, 1) := by decide +kernel
theorem dX4_number_12 : decode cX4_number 12 = .ok (.getfield 9, 3) := by decide +kernel
theorem dX4_number_15 : decode cX4_number 15 = .ok (.iload_n 2, 1) := by decide +kernel
theorem dX4_number_16 : decode cX4_number 16 = .ok (.baload, 1) := by decide +kernel
theorem dX4_number_17 : decode cX4_number 17 = .ok (.ifCond .eq 6, 3) := by decide +kernel
theorem dX4_number_20 : decode cX4_number 20 = .ok (.iinc 1 1, 3) := by decide +kernel
theorem dX4_number_23 : decode cX4_number 23 = .ok (.iinc 2 1, 3) := by decide +kernel
theorem dX4_number_26 : decode cX4_number 26 = .ok (.goto (-22), 3) := by decide +kernel
theorem dX4_number_29 : decode cX4_number 29 = .ok (.iload_n 1, 1) := by decide +kernel
theorem dX4_number_30 : decode cX4_number 30 = .ok (.ireturn, 1) := by decide +kernel
theorem dX4_prove_0 : decode cX4_prove 0 = .ok (.aload_n 1, 1) := by decide +kernel
theorem dX4_prove_1 : decode cX4_prove 1 = .ok (.invokevirtual 19, 3) := by decide +kernel
theorem dX4_prove_4 : decode cX4_prove 4 = .ok (.istore_n 2, 1) := by decide +kernel
theorem dX4_prove_5 : decode cX4_prove 5 = .ok (.aload_n 0, 1) := by decide +kernel
theorem dX4_prove_6 : decode cX4_prove 6 = .ok (.iconst (-1), 1) := by decide +kernel
theorem dX4_prove_7 : decode cX4_prove 7 = .ok (.iconst (-1), 1) := by decide +kernel
theorem dX4_prove_8 : decode cX4_prove 8 = .ok (.iconst (-1), 1) := by decide +kernel
theorem dX4_prove_9 : decode cX4_prove 9 = .ok (.invokevirtual 15, 3) := by decide +kernel
theorem dX4_prove_12 : decode cX4_prove 12 = .ok (.aload_n 0, 1) := by decide +kernel
theorem dX4_prove_13 : decode cX4_prove 13 = .ok (.getfield 9, 3) := by decide +kernel
theorem dX4_prove_16 : decode cX4_prove 16 = .ok (.iload_n 2, 1) := by decide +kernel
theorem dX4_prove_17 : decode cX4_prove 17 = .ok (.baload, 1) := by decide +kernel
theorem dX4_prove_18 : decode cX4_prove 18 = .ok (.istore_n 3, 1) := by decide +kernel
theorem dX4_prove_19 : decode cX4_prove 19 = .ok (.iload_n 3, 1) := by decide +kernel
theorem dX4_prove_20 : decode cX4_prove 20 = .ok (.ifCond .ne 11, 3) := by decide +kernel
theorem dX4_prove_23 : decode cX4_prove 23 = .ok (.aload_n 0, 1) := by decide +kernel
theorem dX4_prove_24 : decode cX4_prove 24 = .ok (.iload_n 2, 1) := by decide +kernel
theorem dX4_prove_25 : decode cX4_prove 25 = .ok (.bipush (-2), 2) := by decide +kernel
theorem dX4_prove_27 : decode cX4_prove 27 = .ok (.iconst (-1), 1) := by decide +kernel
theorem dX4_prove_28 : decode cX4_prove 28 = .ok (.invokevirtual 15, 3) := by decide +kernel
theorem dX4_prove_31 : decode cX4_prove 31 = .ok (.iconst 0, 1) := by decide +kernel
theorem dX4_prove_32 : decode cX4_prove 32 = .ok (.istore 4, 2) := by decide +kernel
theorem dX4_prove_34 : decode cX4_prove 34 = .ok (.iload 4, 2) := by decide +kernel
theorem dX4_prove_36 : decode cX4_prove 36 = .ok (.aload_n 1, 1) := by decide +kernel
theorem dX4_prove_37 : decode cX4_prove 37 = .ok (.getfield 25, 3) := by decide +kernel
theorem dX4_prove_40 : decode cX4_prove 40 = .ok (.if_icmp .ge 39, 3) := by decide +kernel
theorem dX4_prove_43 : decode cX4_prove 43 = .ok (.iload_n 3, 1) := by decide +kernel
theorem dX4_prove_44 : decode cX4_prove 44 = .ok (.ifCond .eq 35, 3) := by decide +kernel
theorem dX4_prove_47 : decode cX4_prove 47 = .ok (.aload_n 0, 1) := by decide +kernel
theorem dX4_prove_48 : decode cX4_prove 48 = .ok (.getfield 9, 3) := by decide +kernel
theorem dX4_prove_51 : decode cX4_prove 51 = .ok (.iload 4, 2) := by decide +kernel
theorem dX4_prove_53 : decode cX4_prove 53 = .ok (.baload, 1) := by decide +kernel
theorem dX4_prove_54 : decode cX4_prove 54 = .ok (.ifCond .eq 13, 3) := by decide +kernel
theorem dX4_prove_57 : decode cX4_prove 57 = .ok (.aload_n 0, 1) := by decide +kernel
theorem dX4_prove_58 : decode cX4_prove 58 = .ok (.aload_n 1, 1) := by decide +kernel
theorem dX4_prove_59 : decode cX4_prove 59 = .ok (.iload 4, 2) := by decide +kernel
theorem dX4_prove_61 : decode cX4_prove 61 = .ok (.invokevirtual 29, 3) := by decide +kernel
theorem dX4_prove_64 : decode cX4_prove 64 = .ok (.ifCond .eq 7, 3) := by decide +kernel
theorem dX4_prove_67 : decode cX4_prove 67 = .ok (.iconst 1, 1) := by decide +kernel
theorem dX4_prove_68 : decode cX4_prove 68 = .ok (.goto 4, 3) := by decide +kernel
theorem dX4_prove_71 : decode cX4_prove 71 = .ok (.iconst 0, 1) := by decide +kernel
theorem dX4_prove_72 : decode cX4_prove 72 = .ok (.istore_n 3, 1) := by decide +kernel
theorem dX4_prove_73 : decode cX4_prove 73 = .ok (.iinc 4 1, 3) := by decide +kernel
theorem dX4_prove_76 : decode cX4_prove 76 = .ok (.goto (-42), 3) := by decide +kernel
theorem dX4_prove_79 : decode cX4_prove 79 = .ok (.aload_n 1, 1) := by decide +kernel
theorem dX4_prove_80 : decode cX4_prove 80 = .ok (.iload_n 2, 1) := by decide +kernel
theorem dX4_prove_81 : decode cX4_prove 81 = .ok (.invokevirtual 33, 3) := by decide +kernel
theorem dX4_prove_84 : decode cX4_prove 84 = .ok (.iload_n 3, 1) := by decide +kernel
theorem dX4_prove_85 : decode cX4_prove 85 = .ok (.ireturn, 1) := by decide +kernel
theorem dX4_staysAmongMarked_0 : decode cX4_staysAmongMarked 0 = .ok (.aload_n 1, 1) := by decide +kernel
theorem dX4_staysAmongMarked_1 : decode cX4_staysAmongMarked 1 = .ok (.iload_n 2, 1) := by decide +kernel
theorem dX4_staysAmongMarked_2 : decode cX4_staysAmongMarked 2 = .ok (.invokevirtual 33, 3) := by decide +kernel
theorem dX4_staysAmongMarked_5 : decode cX4_staysAmongMarked 5 = .ok (.aload_n 1, 1) := by decide +kernel
theorem dX4_staysAmongMarked_6 : decode cX4_staysAmongMarked 6 = .ok (.iconst 0, 1) := by decide +kernel
theorem dX4_staysAmongMarked_7 : decode cX4_staysAmongMarked 7 = .ok (.invokevirtual 37, 3) := by decide +kernel
theorem dX4_staysAmongMarked_10 : decode cX4_staysAmongMarked 10 = .ok (.ifCond .eq 12, 3) := by decide +kernel
theorem dX4_staysAmongMarked_13 : decode cX4_staysAmongMarked 13 = .ok (.aload_n 0, 1) := by decide +kernel
theorem dX4_staysAmongMarked_14 : decode cX4_staysAmongMarked 14 = .ok (.iload_n 2, 1) := by decide +kernel
theorem dX4_staysAmongMarked_15 : decode cX4_staysAmongMarked 15 = .ok (.iconst (-1), 1) := by decide +kernel
theorem dX4_staysAmongMarked_16 : decode cX4_staysAmongMarked 16 = .ok (.iconst (-1), 1) := by decide +kernel
theorem dX4_staysAmongMarked_17 : decode cX4_staysAmongMarked 17 = .ok (.invokevirtual 15, 3) := by decide +kernel
theorem dX4_staysAmongMarked_20 : decode cX4_staysAmongMarked 20 = .ok (.iconst 0, 1) := by decide +kernel
theorem dX4_staysAmongMarked_21 : decode cX4_staysAmongMarked 21 = .ok (.ireturn, 1) := by decide +kernel
theorem dX4_staysAmongMarked_22 : decode cX4_staysAmongMarked 22 = .ok (.iconst 0, 1) := by decide +kernel
theorem dX4_staysAmongMarked_23 : decode cX4_staysAmongMarked 23 = .ok (.istore_n 3, 1) := by decide +kernel
theorem dX4_staysAmongMarked_24 : decode cX4_staysAmongMarked 24 = .ok (.iload_n 3, 1) := by decide +kernel
theorem dX4_staysAmongMarked_25 : decode cX4_staysAmongMarked 25 = .ok (.bipush 38, 2) := by decide +kernel
theorem dX4_staysAmongMarked_27 : decode cX4_staysAmongMarked 27 = .ok (.if_icmp .ge 43, 3) := by decide +kernel
theorem dX4_staysAmongMarked_30 : decode cX4_staysAmongMarked 30 = .ok (.aload_n 1, 1) := by decide +kernel
theorem dX4_staysAmongMarked_31 : decode cX4_staysAmongMarked 31 = .ok (.iload_n 3, 1) := by decide +kernel
theorem dX4_staysAmongMarked_32 : decode cX4_staysAmongMarked 32 = .ok (.iload_n 2, 1) := by decide +kernel
theorem dX4_staysAmongMarked_33 : decode cX4_staysAmongMarked 33 = .ok (.invokevirtual 41, 3) := by decide +kernel
theorem dX4_staysAmongMarked_36 : decode cX4_staysAmongMarked 36 = .ok (.istore 4, 2) := by decide +kernel
theorem dX4_staysAmongMarked_38 : decode cX4_staysAmongMarked 38 = .ok (.iload 4, 2) := by decide +kernel
theorem dX4_staysAmongMarked_40 : decode cX4_staysAmongMarked 40 = .ok (.iconst (-1), 1) := by decide +kernel
theorem dX4_staysAmongMarked_41 : decode cX4_staysAmongMarked 41 = .ok (.if_icmp .eq 23, 3) := by decide +kernel
theorem dX4_staysAmongMarked_44 : decode cX4_staysAmongMarked 44 = .ok (.aload_n 0, 1) := by decide +kernel
theorem dX4_staysAmongMarked_45 : decode cX4_staysAmongMarked 45 = .ok (.getfield 9, 3) := by decide +kernel
theorem dX4_staysAmongMarked_48 : decode cX4_staysAmongMarked 48 = .ok (.iload 4, 2) := by decide +kernel
theorem dX4_staysAmongMarked_50 : decode cX4_staysAmongMarked 50 = .ok (.baload, 1) := by decide +kernel
theorem dX4_staysAmongMarked_51 : decode cX4_staysAmongMarked 51 = .ok (.ifCond .ne 13, 3) := by decide +kernel
theorem dX4_staysAmongMarked_54 : decode cX4_staysAmongMarked 54 = .ok (.aload_n 0, 1) := by decide +kernel
theorem dX4_staysAmongMarked_55 : decode cX4_staysAmongMarked 55 = .ok (.iload_n 2, 1) := by decide +kernel
theorem dX4_staysAmongMarked_56 : decode cX4_staysAmongMarked 56 = .ok (.iload_n 3, 1) := by decide +kernel
theorem dX4_staysAmongMarked_57 : decode cX4_staysAmongMarked 57 = .ok (.iload 4, 2) := by decide +kernel
theorem dX4_staysAmongMarked_59 : decode cX4_staysAmongMarked 59 = .ok (.invokevirtual 15, 3) := by decide +kernel
theorem dX4_staysAmongMarked_62 : decode cX4_staysAmongMarked 62 = .ok (.iconst 0, 1) := by decide +kernel
theorem dX4_staysAmongMarked_63 : decode cX4_staysAmongMarked 63 = .ok (.ireturn, 1) := by decide +kernel
theorem dX4_staysAmongMarked_64 : decode cX4_staysAmongMarked 64 = .ok (.iinc 3 1, 3) := by decide +kernel
theorem dX4_staysAmongMarked_67 : decode cX4_staysAmongMarked 67 = .ok (.goto (-43), 3) := by decide +kernel
theorem dX4_staysAmongMarked_70 : decode cX4_staysAmongMarked 70 = .ok (.iconst 1, 1) := by decide +kernel
theorem dX4_staysAmongMarked_71 : decode cX4_staysAmongMarked 71 = .ok (.ireturn, 1) := by decide +kernel
theorem dX4_noteLook_0 : decode cX4_noteLook 0 = .ok (.aload_n 0, 1) := by decide +kernel
theorem dX4_noteLook_1 : decode cX4_noteLook 1 = .ok (.iload_n 1, 1) := by decide +kernel
theorem dX4_noteLook_2 : decode cX4_noteLook 2 = .ok (.putfield 45, 3) := by decide +kernel
theorem dX4_noteLook_5 : decode cX4_noteLook 5 = .ok (.aload_n 0, 1) := by decide +kernel
theorem dX4_noteLook_6 : decode cX4_noteLook 6 = .ok (.iload_n 2, 1) := by decide +kernel
theorem dX4_noteLook_7 : decode cX4_noteLook 7 = .ok (.putfield 48, 3) := by decide +kernel
theorem dX4_noteLook_10 : decode cX4_noteLook 10 = .ok (.aload_n 0, 1) := by decide +kernel
theorem dX4_noteLook_11 : decode cX4_noteLook 11 = .ok (.iload_n 3, 1) := by decide +kernel
theorem dX4_noteLook_12 : decode cX4_noteLook 12 = .ok (.putfield 51, 3) := by decide +kernel
theorem dX4_noteLook_15 : decode cX4_noteLook 15 = .ok (.return_, 1) := by decide +kernel
theorem dX5_init_0 : decode cX5_init 0 = .ok (.aload_n 0, 1) := by decide +kernel
theorem dX5_init_1 : decode cX5_init 1 = .ok (.invokespecial 3, 3) := by decide +kernel
theorem dX5_init_4 : decode cX5_init 4 = .ok (.aload_n 0, 1) := by decide +kernel
theorem dX5_init_5 : decode cX5_init 5 = .ok (.bipush 60, 2) := by decide +kernel
theorem dX5_init_7 : decode cX5_init 7 = .ok (.newarray .int, 2) := by decide +kernel
theorem dX5_init_9 : decode cX5_init 9 = .ok (.putfield 9, 3) := by decide +kernel
theorem dX5_init_12 : decode cX5_init 12 = .ok (.return_, 1) := by decide +kernel
theorem dX5_emptyTrace_0 : decode cX5_emptyTrace 0 = .ok (.aload_n 0, 1) := by decide +kernel
theorem dX5_emptyTrace_1 : decode cX5_emptyTrace 1 = .ok (.iconst 0, 1) := by decide +kernel
theorem dX5_emptyTrace_2 : decode cX5_emptyTrace 2 = .ok (.putfield 15, 3) := by decide +kernel
theorem dX5_emptyTrace_5 : decode cX5_emptyTrace 5 = .ok (.return_, 1) := by decide +kernel
theorem dX5_write_0 : decode cX5_write 0 = .ok (.aload_n 0, 1) := by decide +kernel
theorem dX5_write_1 : decode cX5_write 1 = .ok (.getfield 15, 3) := by decide +kernel
theorem dX5_write_4 : decode cX5_write 4 = .ok (.bipush 60, 2) := by decide +kernel
theorem dX5_write_6 : decode cX5_write 6 = .ok (.if_icmp .ge 13, 3) := by decide +kernel
theorem dX5_write_9 : decode cX5_write 9 = .ok (.aload_n 0, 1) := by decide +kernel
theorem dX5_write_10 : decode cX5_write 10 = .ok (.getfield 9, 3) := by decide +kernel
theorem dX5_write_13 : decode cX5_write 13 = .ok (.aload_n 0, 1) := by decide +kernel
theorem dX5_write_14 : decode cX5_write 14 = .ok (.getfield 15, 3) := by decide +kernel
theorem dX5_write_17 : decode cX5_write 17 = .ok (.iload_n 1, 1) := by decide +kernel
theorem dX5_write_18 : decode cX5_write 18 = .ok (.iastore, 1) := by decide +kernel
theorem dX5_write_19 : decode cX5_write 19 = .ok (.aload_n 0, 1) := by decide +kernel
theorem dX5_write_20 : decode cX5_write 20 = .ok (.dup, 1) := by decide +kernel
theorem dX5_write_21 : decode cX5_write 21 = .ok (.getfield 15, 3) := by decide +kernel
theorem dX5_write_24 : decode cX5_write 24 = .ok (.iconst 1, 1) := by decide +kernel
theorem dX5_write_25 : decode cX5_write 25 = .ok (.iadd, 1) := by decide +kernel
theorem dX5_write_26 : decode cX5_write 26 = .ok (.putfield 15, 3) := by decide +kernel
theorem dX5_write_29 : decode cX5_write 29 = .ok (.return_, 1) := by decide +kernel
theorem dX5_writeTelling_0 : decode cX5_writeTelling 0 = .ok (.getstatic 19, 3) := by decide +kernel
theorem dX5_writeTelling_3 : decode cX5_writeTelling 3 = .ok (.iload_n 1, 1) := by decide +kernel
theorem dX5_writeTelling_4 : decode cX5_writeTelling 4 = .ok (.iaload, 1) := by decide +kernel
theorem dX5_writeTelling_5 : decode cX5_writeTelling 5 = .ok (.istore_n 2, 1) := by decide +kernel
theorem dX5_writeTelling_6 : decode cX5_writeTelling 6 = .ok (.iload_n 2, 1) := by decide +kernel
theorem dX5_writeTelling_7 : decode cX5_writeTelling 7 = .ok (.iconst 1, 1) := by decide +kernel
theorem dX5_writeTelling_8 : decode cX5_writeTelling 8 = .ok (.if_icmp .ne 7, 3) := by decide +kernel
theorem dX5_writeTelling_11 : decode cX5_writeTelling 11 = .ok (.iconst 1, 1) := by decide +kernel
theorem dX5_writeTelling_12 : decode cX5_writeTelling 12 = .ok (.goto 4, 3) := by decide +kernel
theorem dX5_writeTelling_15 : decode cX5_writeTelling 15 = .ok (.iconst 0, 1) := by decide +kernel
theorem dX5_writeTelling_16 : decode cX5_writeTelling 16 = .ok (.istore_n 3, 1) := by decide +kernel
theorem dX5_writeTelling_17 : decode cX5_writeTelling 17 = .ok (.iload_n 3, 1) := by decide +kernel
theorem dX5_writeTelling_18 : decode cX5_writeTelling 18 = .ok (.iconst 2, 1) := by decide +kernel
theorem dX5_writeTelling_19 : decode cX5_writeTelling 19 = .ok (.if_icmp .ge 46, 3) := by decide +kernel
theorem dX5_writeTelling_22 : decode cX5_writeTelling 22 = .ok (.aload_n 0, 1) := by decide +kernel
theorem dX5_writeTelling_23 : decode cX5_writeTelling 23 = .ok (.getfield 15, 3) := by decide +kernel
theorem dX5_writeTelling_26 : decode cX5_writeTelling 26 = .ok (.bipush 60, 2) := by decide +kernel
theorem dX5_writeTelling_28 : decode cX5_writeTelling 28 = .ok (.if_icmp .ge 21, 3) := by decide +kernel
theorem dX5_writeTelling_31 : decode cX5_writeTelling 31 = .ok (.aload_n 0, 1) := by decide +kernel
theorem dX5_writeTelling_32 : decode cX5_writeTelling 32 = .ok (.getfield 9, 3) := by decide +kernel
theorem dX5_writeTelling_35 : decode cX5_writeTelling 35 = .ok (.aload_n 0, 1) := by decide +kernel
theorem dX5_writeTelling_36 : decode cX5_writeTelling 36 = .ok (.getfield 15, 3) := by decide +kernel
theorem dX5_writeTelling_39 : decode cX5_writeTelling 39 = .ok (.iload_n 3, 1) := by decide +kernel
theorem dX5_writeTelling_40 : decode cX5_writeTelling 40 = .ok (.ifCond .ne 7, 3) := by decide +kernel
theorem dX5_writeTelling_43 : decode cX5_writeTelling 43 = .ok (.iload_n 2, 1) := by decide +kernel
theorem dX5_writeTelling_44 : decode cX5_writeTelling 44 = .ok (.goto 4, 3) := by decide +kernel
theorem dX5_writeTelling_47 : decode cX5_writeTelling 47 = .ok (.iconst 1, 1) := by decide +kernel
theorem dX5_writeTelling_48 : decode cX5_writeTelling 48 = .ok (.iastore, 1) := by decide +kernel
theorem dX5_writeTelling_49 : decode cX5_writeTelling 49 = .ok (.aload_n 0, 1) := by decide +kernel
theorem dX5_writeTelling_50 : decode cX5_writeTelling 50 = .ok (.dup, 1) := by decide +kernel
theorem dX5_writeTelling_51 : decode cX5_writeTelling 51 = .ok (.getfield 15, 3) := by decide +kernel
theorem dX5_writeTelling_54 : decode cX5_writeTelling 54 = .ok (.iconst 1, 1) := by decide +kernel
theorem dX5_writeTelling_55 : decode cX5_writeTelling 55 = .ok (.iadd, 1) := by decide +kernel
theorem dX5_writeTelling_56 : decode cX5_writeTelling 56 = .ok (.putfield 15, 3) := by decide +kernel
theorem dX5_writeTelling_59 : decode cX5_writeTelling 59 = .ok (.iinc 3 1, 3) := by decide +kernel
theorem dX5_writeTelling_62 : decode cX5_writeTelling 62 = .ok (.goto (-45), 3) := by decide +kernel
theorem dX5_writeTelling_65 : decode cX5_writeTelling 65 = .ok (.return_, 1) := by decide +kernel
theorem dX5_tracedAt_0 : decode cX5_tracedAt 0 = .ok (.iload_n 1, 1) := by decide +kernel
theorem dX5_tracedAt_1 : decode cX5_tracedAt 1 = .ok (.ifCond .lt 26, 3) := by decide +kernel
theorem dX5_tracedAt_4 : decode cX5_tracedAt 4 = .ok (.iload_n 1, 1) := by decide +kernel
theorem dX5_tracedAt_5 : decode cX5_tracedAt 5 = .ok (.bipush 60, 2) := by decide +kernel
theorem dX5_tracedAt_7 : decode cX5_tracedAt 7 = .ok (.if_icmp .ge 20, 3) := by decide +kernel
theorem dX5_tracedAt_10 : decode cX5_tracedAt 10 = .ok (.iload_n 1, 1) := by decide +kernel
theorem dX5_tracedAt_11 : decode cX5_tracedAt 11 = .ok (.aload_n 0, 1) := by decide +kernel
theorem dX5_tracedAt_12 : decode cX5_tracedAt 12 = .ok (.getfield 15, 3) := by decide +kernel
theorem dX5_tracedAt_15 : decode cX5_tracedAt 15 = .ok (.if_icmp .ge 12, 3) := by decide +kernel
theorem dX5_tracedAt_18 : decode cX5_tracedAt 18 = .ok (.aload_n 0, 1) := by decide +kernel
theorem dX5_tracedAt_19 : decode cX5_tracedAt 19 = .ok (.getfield 9, 3) := by decide +kernel
theorem dX5_tracedAt_22 : decode cX5_tracedAt 22 = .ok (.iload_n 1, 1) := by decide +kernel
theorem dX5_tracedAt_23 : decode cX5_tracedAt 23 = .ok (.iaload, 1) := by decide +kernel
theorem dX5_tracedAt_24 : decode cX5_tracedAt 24 = .ok (.goto 4, 3) := by decide +kernel
theorem dX5_tracedAt_27 : decode cX5_tracedAt 27 = .ok (.iconst (-1), 1) := by decide +kernel
theorem dX5_tracedAt_28 : decode cX5_tracedAt 28 = .ok (.ireturn, 1) := by decide +kernel
theorem dX5_met_0 : decode cX5_met 0 = .ok (.aload_n 0, 1) := by decide +kernel
theorem dX5_met_1 : decode cX5_met 1 = .ok (.dup, 1) := by decide +kernel
theorem dX5_met_2 : decode cX5_met 2 = .ok (.getfield 22, 3) := by decide +kernel
theorem dX5_met_5 : decode cX5_met 5 = .ok (.iconst 1, 1) := by decide +kernel
theorem dX5_met_6 : decode cX5_met 6 = .ok (.iadd, 1) := by decide +kernel
theorem dX5_met_7 : decode cX5_met 7 = .ok (.putfield 22, 3) := by decide +kernel
theorem dX5_met_10 : decode cX5_met 10 = .ok (.aload_n 0, 1) := by decide +kernel
theorem dX5_met_11 : decode cX5_met 11 = .ok (.iload_n 1, 1) := by decide +kernel
theorem dX5_met_12 : decode cX5_met 12 = .ok (.putfield 25, 3) := by decide +kernel
theorem dX5_met_15 : decode cX5_met 15 = .ok (.bipush (-10), 2) := by decide +kernel
theorem dX5_met_17 : decode cX5_met 17 = .ok (.iload_n 1, 1) := by decide +kernel
theorem dX5_met_18 : decode cX5_met 18 = .ok (.isub, 1) := by decide +kernel
theorem dX5_met_19 : decode cX5_met 19 = .ok (.ireturn, 1) := by decide +kernel
theorem dX6_init_0 : decode cX6_init 0 = .ok (.aload_n 0, 1) := by decide +kernel
theorem dX6_init_1 : decode cX6_init 1 = .ok (.invokespecial 3, 3) := by decide +kernel
theorem dX6_init_4 : decode cX6_init 4 = .ok (.aload_n 0, 1) := by decide +kernel
theorem dX6_init_5 : decode cX6_init 5 = .ok (.sipush 1024, 3) := by decide +kernel
theorem dX6_init_8 : decode cX6_init 8 = .ok (.newarray .int, 2) := by decide +kernel
theorem dX6_init_10 : decode cX6_init 10 = .ok (.putfield 9, 3) := by decide +kernel
theorem dX6_init_13 : decode cX6_init 13 = .ok (.aload_n 0, 1) := by decide +kernel
theorem dX6_init_14 : decode cX6_init 14 = .ok (.sipush 12288, 3) := by decide +kernel
theorem dX6_init_17 : decode cX6_init 17 = .ok (.newarray .int, 2) := by decide +kernel
theorem dX6_init_19 : decode cX6_init 19 = .ok (.putfield 15, 3) := by decide +kernel
theorem dX6_init_22 : decode cX6_init 22 = .ok (.return_, 1) := by decide +kernel
theorem dX6_letGo_0 : decode cX6_letGo 0 = .ok (.aload_n 0, 1) := by decide +kernel
theorem dX6_letGo_1 : decode cX6_letGo 1 = .ok (.iconst 0, 1) := by decide +kernel
theorem dX6_letGo_2 : decode cX6_letGo 2 = .ok (.putfield 18, 3) := by decide +kernel
theorem dX6_letGo_5 : decode cX6_letGo 5 = .ok (.aload_n 0, 1) := by decide +kernel
theorem dX6_letGo_6 : decode cX6_letGo 6 = .ok (.getfield 9, 3) := by decide +kernel
theorem dX6_letGo_9 : decode cX6_letGo 9 = .ok (.iconst (-1), 1) := by decide +kernel
theorem dX6_letGo_10 : decode cX6_letGo 10 = .ok (.invokestatic 22, 3) := by decide +kernel
theorem dX6_letGo_13 : decode cX6_letGo 13 = .ok (.return_, 1) := by decide +kernel
theorem dX6_add_0 : decode cX6_add 0 = .ok (.aload_n 0, 1) := by decide +kernel
theorem dX6_add_1 : decode cX6_add 1 = .ok (.getfield 9, 3) := by decide +kernel
theorem dX6_add_4 : decode cX6_add 4 = .ok (.iload_n 2, 1) := by decide +kernel
theorem dX6_add_5 : decode cX6_add 5 = .ok (.iaload, 1) := by decide +kernel
theorem dX6_add_6 : decode cX6_add 6 = .ok (.istore_n 3, 1) := by decide +kernel
theorem dX6_add_7 : decode cX6_add 7 = .ok (.iload_n 3, 1) := by decide +kernel
theorem dX6_add_8 : decode cX6_add 8 = .ok (.iconst (-1), 1) := by decide +kernel
theorem dX6_add_9 : decode cX6_add 9 = .ok (.if_icmp .eq 16, 3) := by decide +kernel
theorem dX6_add_12 : decode cX6_add 12 = .ok (.aload_n 0, 1) := by decide +kernel
theorem dX6_add_13 : decode cX6_add 13 = .ok (.iload_n 3, 1) := by decide +kernel
theorem dX6_add_14 : decode cX6_add 14 = .ok (.invokevirtual 28, 3) := by decide +kernel
theorem dX6_add_17 : decode cX6_add 17 = .ok (.iload_n 1, 1) := by decide +kernel
theorem dX6_add_18 : decode cX6_add 18 = .ok (.if_icmp .ne 7, 3) := by decide +kernel
theorem dX6_add_21 : decode cX6_add 21 = .ok (.iconst 1, 1) := by decide +kernel
theorem dX6_add_22 : decode cX6_add 22 = .ok (.goto 4, 3) := by decide +kernel
theorem dX6_add_25 : decode cX6_add 25 = .ok (.iconst 0, 1) := by decide +kernel
theorem dX6_add_26 : decode cX6_add 26 = .ok (.istore 4, 2) := by decide +kernel
theorem dX6_add_28 : decode cX6_add 28 = .ok (.iload 4, 2) := by decide +kernel
theorem dX6_add_30 : decode cX6_add 30 = .ok (.ifCond .ne 51, 3) := by decide +kernel
theorem dX6_add_33 : decode cX6_add 33 = .ok (.aload_n 0, 1) := by decide +kernel
theorem dX6_add_34 : decode cX6_add 34 = .ok (.getfield 18, 3) := by decide +kernel
theorem dX6_add_37 : decode cX6_add 37 = .ok (.sipush 12288, 3) := by decide +kernel
theorem dX6_add_40 : decode cX6_add 40 = .ok (.if_icmp .ge 41, 3) := by decide +kernel
theorem dX6_add_43 : decode cX6_add 43 = .ok (.aload_n 0, 1) := by decide +kernel
theorem dX6_add_44 : decode cX6_add 44 = .ok (.getfield 15, 3) := by decide +kernel
theorem dX6_add_47 : decode cX6_add 47 = .ok (.aload_n 0, 1) := by decide +kernel
theorem dX6_add_48 : decode cX6_add 48 = .ok (.getfield 18, 3) := by decide +kernel
theorem dX6_add_51 : decode cX6_add 51 = .ok (.iload_n 1, 1) := by decide +kernel
theorem dX6_add_52 : decode cX6_add 52 = .ok (.sipush 1024, 3) := by decide +kernel
theorem dX6_add_55 : decode cX6_add 55 = .ok (.iload_n 3, 1) := by decide +kernel
theorem dX6_add_56 : decode cX6_add 56 = .ok (.iconst 1, 1) := by decide +kernel
theorem dX6_add_57 : decode cX6_add 57 = .ok (.iadd, 1) := by decide +kernel
theorem dX6_add_58 : decode cX6_add 58 = .ok (.imul, 1) := by decide +kernel
theorem dX6_add_59 : decode cX6_add 59 = .ok (.iadd, 1) := by decide +kernel
theorem dX6_add_60 : decode cX6_add 60 = .ok (.iastore, 1) := by decide +kernel
theorem dX6_add_61 : decode cX6_add 61 = .ok (.aload_n 0, 1) := by decide +kernel
theorem dX6_add_62 : decode cX6_add 62 = .ok (.getfield 9, 3) := by decide +kernel
theorem dX6_add_65 : decode cX6_add 65 = .ok (.iload_n 2, 1) := by decide +kernel
theorem dX6_add_66 : decode cX6_add 66 = .ok (.aload_n 0, 1) := by decide +kernel
theorem dX6_add_67 : decode cX6_add 67 = .ok (.getfield 18, 3) := by decide +kernel
theorem dX6_add_70 : decode cX6_add 70 = .ok (.iastore, 1) := by decide +kernel
theorem dX6_add_71 : decode cX6_add 71 = .ok (.aload_n 0, 1) := by decide +kernel
theorem dX6_add_72 : decode cX6_add 72 = .ok (.dup, 1) := by decide +kernel
theorem dX6_add_73 : decode cX6_add 73 = .ok (.getfield 18, 3) := by decide +kernel
theorem dX6_add_76 : decode cX6_add 76 = .ok (.iconst 1, 1) := by decide +kernel
theorem dX6_add_77 : decode cX6_add 77 = .ok (.iadd, 1) := by decide +kernel
theorem dX6_add_78 : decode cX6_add 78 = .ok (.putfield 18, 3) := by decide +kernel
theorem dX6_add_81 : decode cX6_add 81 = .ok (.return_, 1) := by decide +kernel
theorem dX6_latestTo_0 : decode cX6_latestTo 0 = .ok (.aload_n 0, 1) := by decide +kernel
theorem dX6_latestTo_1 : decode cX6_latestTo 1 = .ok (.getfield 9, 3) := by decide +kernel
theorem dX6_latestTo_4 : decode cX6_latestTo 4 = .ok (.iload_n 1, 1) := by decide +kernel
theorem dX6_latestTo_5 : decode cX6_latestTo 5 = .ok (.iaload, 1) := by decide +kernel
theorem dX6_latestTo_6 : decode cX6_latestTo 6 = .ok (.ireturn, 1) := by decide +kernel
theorem dX6_from_0 : decode cX6_from 0 = .ok (.aload_n 0, 1) := by decide +kernel
theorem dX6_from_1 : decode cX6_from 1 = .ok (.getfield 15, 3) := by decide +kernel
theorem dX6_from_4 : decode cX6_from 4 = .ok (.iload_n 1, 1) := by decide +kernel
theorem dX6_from_5 : decode cX6_from 5 = .ok (.iaload, 1) := by decide +kernel
theorem dX6_from_6 : decode cX6_from 6 = .ok (.sipush 1024, 3) := by decide +kernel
theorem dX6_from_9 : decode cX6_from 9 = .ok (.irem, 1) := by decide +kernel
theorem dX6_from_10 : decode cX6_from 10 = .ok (.ireturn, 1) := by decide +kernel
theorem dX6_before_0 : decode cX6_before 0 = .ok (.aload_n 0, 1) := by decide +kernel
theorem dX6_before_1 : decode cX6_before 1 = .ok (.getfield 15, 3) := by decide +kernel
theorem dX6_before_4 : decode cX6_before 4 = .ok (.iload_n 1, 1) := by decide +kernel
theorem dX6_before_5 : decode cX6_before 5 = .ok (.iaload, 1) := by decide +kernel
theorem dX6_before_6 : decode cX6_before 6 = .ok (.sipush 1024, 3) := by decide +kernel
theorem dX6_before_9 : decode cX6_before 9 = .ok (.idiv, 1) := by decide +kernel
theorem dX6_before_10 : decode cX6_before 10 = .ok (.iconst 1, 1) := by decide +kernel
theorem dX6_before_11 : decode cX6_before 11 = .ok (.isub, 1) := by decide +kernel
theorem dX6_before_12 : decode cX6_before 12 = .ok (.ireturn, 1) := by decide +kernel
theorem dX8_init_0 : decode cX8_init 0 = .ok (.aload_n 0, 1) := by decide +kernel
theorem dX8_init_1 : decode cX8_init 1 = .ok (.invokespecial 3, 3) := by decide +kernel
theorem dX8_init_4 : decode cX8_init 4 = .ok (.aload_n 0, 1) := by decide +kernel
theorem dX8_init_5 : decode cX8_init 5 = .ok (.sipush 432, 3) := by decide +kernel
theorem dX8_init_8 : decode cX8_init 8 = .ok (.newarray .int, 2) := by decide +kernel
theorem dX8_init_10 : decode cX8_init 10 = .ok (.putfield 11, 3) := by decide +kernel
theorem dX8_init_13 : decode cX8_init 13 = .ok (.return_, 1) := by decide +kernel
theorem dX8_write_0 : decode cX8_write 0 = .ok (.aload_n 0, 1) := by decide +kernel
theorem dX8_write_1 : decode cX8_write 1 = .ok (.iconst 0, 1) := by decide +kernel
theorem dX8_write_2 : decode cX8_write 2 = .ok (.putfield 15, 3) := by decide +kernel
theorem dX8_write_5 : decode cX8_write 5 = .ok (.iconst 0, 1) := by decide +kernel
theorem dX8_write_6 : decode cX8_write 6 = .ok (.istore_n 2, 1) := by decide +kernel
theorem dX8_write_7 : decode cX8_write 7 = .ok (.iload_n 2, 1) := by decide +kernel
theorem dX8_write_8 : decode cX8_write 8 = .ok (.iconst 4, 1) := by decide +kernel
theorem dX8_write_9 : decode cX8_write 9 = .ok (.if_icmp .ge 15, 3) := by decide +kernel
theorem dX8_write_12 : decode cX8_write 12 = .ok (.aload_n 0, 1) := by decide +kernel
theorem dX8_write_13 : decode cX8_write 13 = .ok (.aload_n 1, 1) := by decide +kernel
theorem dX8_write_14 : decode cX8_write 14 = .ok (.iload_n 2, 1) := by decide +kernel
theorem dX8_write_15 : decode cX8_write 15 = .ok (.invokevirtual 19, 3) := by decide +kernel
theorem dX8_write_18 : decode cX8_write 18 = .ok (.iinc 2 1, 3) := by decide +kernel
theorem dX8_write_21 : decode cX8_write 21 = .ok (.goto (-14), 3) := by decide +kernel
theorem dX8_write_24 : decode cX8_write 24 = .ok (.aload_n 0, 1) := by decide +kernel
theorem dX8_write_25 : decode cX8_write 25 = .ok (.aload_n 1, 1) := by decide +kernel
theorem dX8_write_26 : decode cX8_write 26 = .ok (.getfield 23, 3) := by decide +kernel
theorem dX8_write_29 : decode cX8_write 29 = .ok (.getfield 29, 3) := by decide +kernel
theorem dX8_write_32 : decode cX8_write 32 = .ok (.invokevirtual 34, 3) := by decide +kernel
theorem dX8_write_35 : decode cX8_write 35 = .ok (.iconst 0, 1) := by decide +kernel
theorem dX8_write_36 : decode cX8_write 36 = .ok (.istore_n 2, 1) := by decide +kernel
theorem dX8_write_37 : decode cX8_write 37 = .ok (.iload_n 2, 1) := by decide +kernel
theorem dX8_write_38 : decode cX8_write 38 = .ok (.aload_n 1, 1) := by decide +kernel
theorem dX8_write_39 : decode cX8_write 39 = .ok (.getfield 23, 3) := by decide +kernel
theorem dX8_write_42 : decode cX8_write 42 = .ok (.getfield 29, 3) := by decide +kernel
theorem dX8_write_45 : decode cX8_write 45 = .ok (.if_icmp .ge 18, 3) := by decide +kernel
theorem dX8_write_48 : decode cX8_write 48 = .ok (.aload_n 0, 1) := by decide +kernel
theorem dX8_write_49 : decode cX8_write 49 = .ok (.aload_n 1, 1) := by decide +kernel
theorem dX8_write_50 : decode cX8_write 50 = .ok (.getfield 23, 3) := by decide +kernel
theorem dX8_write_53 : decode cX8_write 53 = .ok (.iload_n 2, 1) := by decide +kernel
theorem dX8_write_54 : decode cX8_write 54 = .ok (.invokevirtual 38, 3) := by decide +kernel
theorem dX8_write_57 : decode cX8_write 57 = .ok (.iinc 2 1, 3) := by decide +kernel
theorem dX8_write_60 : decode cX8_write 60 = .ok (.goto (-23), 3) := by decide +kernel
theorem dX8_write_63 : decode cX8_write 63 = .ok (.aload_n 0, 1) := by decide +kernel
theorem dX8_write_64 : decode cX8_write 64 = .ok (.aload_n 1, 1) := by decide +kernel
theorem dX8_write_65 : decode cX8_write 65 = .ok (.getfield 42, 3) := by decide +kernel
theorem dX8_write_68 : decode cX8_write 68 = .ok (.invokevirtual 34, 3) := by decide +kernel
theorem dX8_write_71 : decode cX8_write 71 = .ok (.aload_n 0, 1) := by decide +kernel
theorem dX8_write_72 : decode cX8_write 72 = .ok (.aload_n 1, 1) := by decide +kernel
theorem dX8_write_73 : decode cX8_write 73 = .ok (.getfield 45, 3) := by decide +kernel
theorem dX8_write_76 : decode cX8_write 76 = .ok (.iconst 1, 1) := by decide +kernel
theorem dX8_write_77 : decode cX8_write 77 = .ok (.iadd, 1) := by decide +kernel
theorem dX8_write_78 : decode cX8_write 78 = .ok (.invokevirtual 34, 3) := by decide +kernel
theorem dX8_write_81 : decode cX8_write 81 = .ok (.iconst 0, 1) := by decide +kernel
theorem dX8_write_82 : decode cX8_write 82 = .ok (.istore_n 2, 1) := by decide +kernel
theorem dX8_write_83 : decode cX8_write 83 = .ok (.iconst 0, 1) := by decide +kernel
theorem dX8_write_84 : decode cX8_write 84 = .ok (.istore_n 3, 1) := by decide +kernel
theorem dX8_write_85 : decode cX8_write 85 = .ok (.iload_n 3, 1) := by decide +kernel
theorem dX8_write_86 : decode cX8_write 86 = .ok (.aload_n 0, 1) := by decide +kernel
theorem dX8_write_87 : decode cX8_write 87 = .ok (.getfield 15, 3) := by decide +kernel
theorem dX8_write_90 : decode cX8_write 90 = .ok (.if_icmp .ge 18, 3) := by decide +kernel
theorem dX8_write_93 : decode cX8_write 93 = .ok (.iload_n 2, 1) := by decide +kernel
theorem dX8_write_94 : decode cX8_write 94 = .ok (.aload_n 0, 1) := by decide +kernel
theorem dX8_write_95 : decode cX8_write 95 = .ok (.getfield 11, 3) := by decide +kernel
theorem dX8_write_98 : decode cX8_write 98 = .ok (.iload_n 3, 1) := by decide +kernel
theorem dX8_write_99 : decode cX8_write 99 = .ok (.iaload, 1) := by decide +kernel
theorem dX8_write_100 : decode cX8_write 100 = .ok (.ixor, 1) := by decide +kernel
theorem dX8_write_101 : decode cX8_write 101 = .ok (.istore_n 2, 1) := by decide +kernel
theorem dX8_write_102 : decode cX8_write 102 = .ok (.iinc 3 1, 3) := by decide +kernel
theorem dX8_write_105 : decode cX8_write 105 = .ok (.goto (-20), 3) := by decide +kernel
theorem dX8_write_108 : decode cX8_write 108 = .ok (.aload_n 0, 1) := by decide +kernel
theorem dX8_write_109 : decode cX8_write 109 = .ok (.iload_n 2, 1) := by decide +kernel
theorem dX8_write_110 : decode cX8_write 110 = .ok (.invokevirtual 34, 3) := by decide +kernel
theorem dX8_write_113 : decode cX8_write 113 = .ok (.return_, 1) := by decide +kernel
theorem dX8_writeRow_0 : decode cX8_writeRow 0 = .ok (.aload_n 1, 1) := by decide +kernel
theorem dX8_writeRow_1 : decode cX8_writeRow 1 = .ok (.getfield 48, 3) := by decide +kernel
theorem dX8_writeRow_4 : decode cX8_writeRow 4 = .ok (.iload_n 2, 1) := by decide +kernel
theorem dX8_writeRow_5 : decode cX8_writeRow 5 = .ok (.iaload, 1) := by decide +kernel
theorem dX8_writeRow_6 : decode cX8_writeRow 6 = .ok (.istore_n 3, 1) := by decide +kernel
theorem dX8_writeRow_7 : decode cX8_writeRow 7 = .ok (.aload_n 0, 1) := by decide +kernel
theorem dX8_writeRow_8 : decode cX8_writeRow 8 = .ok (.iload_n 3, 1) := by decide +kernel
theorem dX8_writeRow_9 : decode cX8_writeRow 9 = .ok (.iconst (-1), 1) := by decide +kernel
theorem dX8_writeRow_10 : decode cX8_writeRow 10 = .ok (.if_icmp .ne 9, 3) := by decide +kernel
theorem dX8_writeRow_13 : decode cX8_writeRow 13 = .ok (.sipush 255, 3) := by decide +kernel
theorem dX8_writeRow_16 : decode cX8_writeRow 16 = .ok (.goto 4, 3) := by decide +kernel
theorem dX8_writeRow_19 : decode cX8_writeRow 19 = .ok (.iload_n 3, 1) := by decide +kernel
theorem dX8_writeRow_20 : decode cX8_writeRow 20 = .ok (.invokevirtual 34, 3) := by decide +kernel
theorem dX8_writeRow_23 : decode cX8_writeRow 23 = .ok (.iload_n 2, 1) := by decide +kernel
theorem dX8_writeRow_24 : decode cX8_writeRow 24 = .ok (.iconst 4, 1) := by decide +kernel
theorem dX8_writeRow_25 : decode cX8_writeRow 25 = .ok (.imul, 1) := by decide +kernel
theorem dX8_writeRow_26 : decode cX8_writeRow 26 = .ok (.istore 4, 2) := by decide +kernel
theorem dX8_writeRow_28 : decode cX8_writeRow 28 = .ok (.iload 4, 2) := by decide +kernel
theorem dX8_writeRow_30 : decode cX8_writeRow 30 = .ok (.iload_n 2, 1) := by decide +kernel
theorem dX8_writeRow_31 : decode cX8_writeRow 31 = .ok (.iconst 4, 1) := by decide +kernel
theorem dX8_writeRow_32 : decode cX8_writeRow 32 = .ok (.imul, 1) := by decide +kernel
theorem dX8_writeRow_33 : decode cX8_writeRow 33 = .ok (.iload_n 3, 1) := by decide +kernel
theorem dX8_writeRow_34 : decode cX8_writeRow 34 = .ok (.iadd, 1) := by decide +kernel
theorem dX8_writeRow_35 : decode cX8_writeRow 35 = .ok (.if_icmp .ge 74, 3) := by decide +kernel
theorem dX8_writeRow_38 : decode cX8_writeRow 38 = .ok (.aload_n 1, 1) := by decide +kernel
theorem dX8_writeRow_39 : decode cX8_writeRow 39 = .ok (.getfield 51, 3) := by decide +kernel
theorem dX8_writeRow_42 : decode cX8_writeRow 42 = .ok (.iload 4, 2) := by decide +kernel
theorem dX8_writeRow_44 : decode cX8_writeRow 44 = .ok (.iaload, 1) := by decide +kernel
theorem dX8_writeRow_45 : decode cX8_writeRow 45 = .ok (.iconst (-1), 1) := by decide +kernel
theorem dX8_writeRow_46 : decode cX8_writeRow 46 = .ok (.if_icmp .ne 11, 3) := by decide +kernel
theorem dX8_writeRow_49 : decode cX8_writeRow 49 = .ok (.aload_n 0, 1) := by decide +kernel
theorem dX8_writeRow_50 : decode cX8_writeRow 50 = .ok (.iconst 0, 1) := by decide +kernel
theorem dX8_writeRow_51 : decode cX8_writeRow 51 = .ok (.invokevirtual 34, 3) := by decide +kernel
theorem dX8_writeRow_54 : decode cX8_writeRow 54 = .ok (.goto 49, 3) := by decide +kernel
theorem dX8_writeRow_57 : decode cX8_writeRow 57 = .ok (.aload_n 0, 1) := by decide +kernel
theorem dX8_writeRow_58 : decode cX8_writeRow 58 = .ok (.aload_n 1, 1) := by decide +kernel
theorem dX8_writeRow_59 : decode cX8_writeRow 59 = .ok (.getfield 51, 3) := by decide +kernel
theorem dX8_writeRow_62 : decode cX8_writeRow 62 = .ok (.iload 4, 2) := by decide +kernel
theorem dX8_writeRow_64 : decode cX8_writeRow 64 = .ok (.iaload, 1) := by decide +kernel
theorem dX8_writeRow_65 : decode cX8_writeRow 65 = .ok (.iconst 1, 1) := by decide +kernel
theorem dX8_writeRow_66 : decode cX8_writeRow 66 = .ok (.iadd, 1) := by decide +kernel
theorem dX8_writeRow_67 : decode cX8_writeRow 67 = .ok (.invokevirtual 34, 3) := by decide +kernel
theorem dX8_writeRow_70 : decode cX8_writeRow 70 = .ok (.aload_n 0, 1) := by decide +kernel
theorem dX8_writeRow_71 : decode cX8_writeRow 71 = .ok (.aload_n 1, 1) := by decide +kernel
theorem dX8_writeRow_72 : decode cX8_writeRow 72 = .ok (.getfield 54, 3) := by decide +kernel
theorem dX8_writeRow_75 : decode cX8_writeRow 75 = .ok (.iload 4, 2) := by decide +kernel
theorem dX8_writeRow_77 : decode cX8_writeRow 77 = .ok (.iaload, 1) := by decide +kernel
theorem dX8_writeRow_78 : decode cX8_writeRow 78 = .ok (.invokevirtual 34, 3) := by decide +kernel
theorem dX8_writeRow_81 : decode cX8_writeRow 81 = .ok (.aload_n 0, 1) := by decide +kernel
theorem dX8_writeRow_82 : decode cX8_writeRow 82 = .ok (.aload_n 1, 1) := by decide +kernel
theorem dX8_writeRow_83 : decode cX8_writeRow 83 = .ok (.getfield 57, 3) := by decide +kernel
theorem dX8_writeRow_86 : decode cX8_writeRow 86 = .ok (.iload 4, 2) := by decide +kernel
theorem dX8_writeRow_88 : decode cX8_writeRow 88 = .ok (.iaload, 1) := by decide +kernel
theorem dX8_writeRow_89 : decode cX8_writeRow 89 = .ok (.invokevirtual 34, 3) := by decide +kernel
theorem dX8_writeRow_92 : decode cX8_writeRow 92 = .ok (.aload_n 0, 1) := by decide +kernel
theorem dX8_writeRow_93 : decode cX8_writeRow 93 = .ok (.aload_n 1, 1) := by decide +kernel
theorem dX8_writeRow_94 : decode cX8_writeRow 94 = .ok (.getfield 60, 3) := by decide +kernel
theorem dX8_writeRow_97 : decode cX8_writeRow 97 = .ok (.iload 4, 2) := by decide +kernel
theorem dX8_writeRow_99 : decode cX8_writeRow 99 = .ok (.iaload, 1) := by decide +kernel
theorem dX8_writeRow_100 : decode cX8_writeRow 100 = .ok (.invokevirtual 34, 3) := by decide +kernel
theorem dX8_writeRow_103 : decode cX8_writeRow 103 = .ok (.iinc 4 1, 3) := by decide +kernel
theorem dX8_writeRow_106 : decode cX8_writeRow 106 = .ok (.goto (-78), 3) := by decide +kernel
theorem dX8_writeRow_109 : decode cX8_writeRow 109 = .ok (.return_, 1) := by decide +kernel
theorem dX8_writeCondition_0 : decode cX8_writeCondition 0 = .ok (.aload_n 1, 1) := by decide +kernel
theorem dX8_writeCondition_1 : decode cX8_writeCondition 1 = .ok (.getfield 63, 3) := by decide +kernel
theorem dX8_writeCondition_4 : decode cX8_writeCondition 4 = .ok (.iload_n 2, 1) := by decide +kernel
theorem dX8_writeCondition_5 : decode cX8_writeCondition 5 = .ok (.iaload, 1) := by decide +kernel
theorem dX8_writeCondition_6 : decode cX8_writeCondition 6 = .ok (.istore_n 3, 1) := by decide +kernel
theorem dX8_writeCondition_7 : decode cX8_writeCondition 7 = .ok (.aload_n 0, 1) := by decide +kernel
theorem dX8_writeCondition_8 : decode cX8_writeCondition 8 = .ok (.aload_n 1, 1) := by decide +kernel
theorem dX8_writeCondition_9 : decode cX8_writeCondition 9 = .ok (.getfield 66, 3) := by decide +kernel
theorem dX8_writeCondition_12 : decode cX8_writeCondition 12 = .ok (.iload_n 2, 1) := by decide +kernel
theorem dX8_writeCondition_13 : decode cX8_writeCondition 13 = .ok (.iaload, 1) := by decide +kernel
theorem dX8_writeCondition_14 : decode cX8_writeCondition 14 = .ok (.iconst 1, 1) := by decide +kernel
theorem dX8_writeCondition_15 : decode cX8_writeCondition 15 = .ok (.iadd, 1) := by decide +kernel
theorem dX8_writeCondition_16 : decode cX8_writeCondition 16 = .ok (.invokevirtual 34, 3) := by decide +kernel
theorem dX8_writeCondition_19 : decode cX8_writeCondition 19 = .ok (.aload_n 0, 1) := by decide +kernel
theorem dX8_writeCondition_20 : decode cX8_writeCondition 20 = .ok (.aload_n 1, 1) := by decide +kernel
theorem dX8_writeCondition_21 : decode cX8_writeCondition 21 = .ok (.getfield 69, 3) := by decide +kernel
theorem dX8_writeCondition_24 : decode cX8_writeCondition 24 = .ok (.iload_n 2, 1) := by decide +kernel
theorem dX8_writeCondition_25 : decode cX8_writeCondition 25 = .ok (.iaload, 1) := by decide +kernel
theorem dX8_writeCondition_26 : decode cX8_writeCondition 26 = .ok (.invokevirtual 34, 3) := by decide +kernel
theorem dX8_writeCondition_29 : decode cX8_writeCondition 29 = .ok (.aload_n 0, 1) := by decide +kernel
theorem dX8_writeCondition_30 : decode cX8_writeCondition 30 = .ok (.iload_n 3, 1) := by decide +kernel
theorem dX8_writeCondition_31 : decode cX8_writeCondition 31 = .ok (.iconst (-1), 1) := by decide +kernel
theorem dX8_writeCondition_32 : decode cX8_writeCondition 32 = .ok (.if_icmp .ne 9, 3) := by decide +kernel
theorem dX8_writeCondition_35 : decode cX8_writeCondition 35 = .ok (.sipush 255, 3) := by decide +kernel
theorem dX8_writeCondition_38 : decode cX8_writeCondition 38 = .ok (.goto 4, 3) := by decide +kernel
theorem dX8_writeCondition_41 : decode cX8_writeCondition 41 = .ok (.iload_n 3, 1) := by decide +kernel
theorem dX8_writeCondition_42 : decode cX8_writeCondition 42 = .ok (.invokevirtual 34, 3) := by decide +kernel
theorem dX8_writeCondition_45 : decode cX8_writeCondition 45 = .ok (.iconst 0, 1) := by decide +kernel
theorem dX8_writeCondition_46 : decode cX8_writeCondition 46 = .ok (.istore 4, 2) := by decide +kernel
theorem dX8_writeCondition_48 : decode cX8_writeCondition 48 = .ok (.iload 4, 2) := by decide +kernel
theorem dX8_writeCondition_50 : decode cX8_writeCondition 50 = .ok (.iload_n 3, 1) := by decide +kernel
theorem dX8_writeCondition_51 : decode cX8_writeCondition 51 = .ok (.if_icmp .ge 20, 3) := by decide +kernel
theorem dX8_writeCondition_54 : decode cX8_writeCondition 54 = .ok (.aload_n 0, 1) := by decide +kernel
theorem dX8_writeCondition_55 : decode cX8_writeCondition 55 = .ok (.aload_n 1, 1) := by decide +kernel
theorem dX8_writeCondition_56 : decode cX8_writeCondition 56 = .ok (.iload_n 2, 1) := by decide +kernel
theorem dX8_writeCondition_57 : decode cX8_writeCondition 57 = .ok (.iload 4, 2) := by decide +kernel
theorem dX8_writeCondition_59 : decode cX8_writeCondition 59 = .ok (.invokevirtual 72, 3) := by decide +kernel
theorem dX8_writeCondition_62 : decode cX8_writeCondition 62 = .ok (.invokevirtual 34, 3) := by decide +kernel
theorem dX8_writeCondition_65 : decode cX8_writeCondition 65 = .ok (.iinc 4 1, 3) := by decide +kernel
theorem dX8_writeCondition_68 : decode cX8_writeCondition 68 = .ok (.goto (-20), 3) := by decide +kernel
theorem dX8_writeCondition_71 : decode cX8_writeCondition 71 = .ok (.return_, 1) := by decide +kernel
theorem dX8_add_0 : decode cX8_add 0 = .ok (.aload_n 0, 1) := by decide +kernel
theorem dX8_add_1 : decode cX8_add 1 = .ok (.getfield 15, 3) := by decide +kernel
theorem dX8_add_4 : decode cX8_add 4 = .ok (.sipush 432, 3) := by decide +kernel
theorem dX8_add_7 : decode cX8_add 7 = .ok (.if_icmp .ge 23, 3) := by decide +kernel
theorem dX8_add_10 : decode cX8_add 10 = .ok (.aload_n 0, 1) := by decide +kernel
theorem dX8_add_11 : decode cX8_add 11 = .ok (.getfield 11, 3) := by decide +kernel
theorem dX8_add_14 : decode cX8_add 14 = .ok (.aload_n 0, 1) := by decide +kernel
theorem dX8_add_15 : decode cX8_add 15 = .ok (.getfield 15, 3) := by decide +kernel
theorem dX8_add_18 : decode cX8_add 18 = .ok (.iload_n 1, 1) := by decide +kernel
theorem dX8_add_19 : decode cX8_add 19 = .ok (.iastore, 1) := by decide +kernel
theorem dX8_add_20 : decode cX8_add 20 = .ok (.aload_n 0, 1) := by decide +kernel
theorem dX8_add_21 : decode cX8_add 21 = .ok (.dup, 1) := by decide +kernel
theorem dX8_add_22 : decode cX8_add 22 = .ok (.getfield 15, 3) := by decide +kernel
theorem dX8_add_25 : decode cX8_add 25 = .ok (.iconst 1, 1) := by decide +kernel
theorem dX8_add_26 : decode cX8_add 26 = .ok (.iadd, 1) := by decide +kernel
theorem dX8_add_27 : decode cX8_add 27 = .ok (.putfield 15, 3) := by decide +kernel
theorem dX8_add_30 : decode cX8_add 30 = .ok (.return_, 1) := by decide +kernel
theorem dX8_isLike_0 : decode cX8_isLike 0 = .ok (.aload_n 0, 1) := by decide +kernel
theorem dX8_isLike_1 : decode cX8_isLike 1 = .ok (.getfield 15, 3) := by decide +kernel
theorem dX8_isLike_4 : decode cX8_isLike 4 = .ok (.aload_n 1, 1) := by decide +kernel
theorem dX8_isLike_5 : decode cX8_isLike 5 = .ok (.getfield 15, 3) := by decide +kernel
theorem dX8_isLike_8 : decode cX8_isLike 8 = .ok (.if_icmp .ne 7, 3) := by decide +kernel
theorem dX8_isLike_11 : decode cX8_isLike 11 = .ok (.iconst 1, 1) := by decide +kernel
theorem dX8_isLike_12 : decode cX8_isLike 12 = .ok (.goto 4, 3) := by decide +kernel
theorem dX8_isLike_15 : decode cX8_isLike 15 = .ok (.iconst 0, 1) := by decide +kernel
theorem dX8_isLike_16 : decode cX8_isLike 16 = .ok (.istore_n 2, 1) := by decide +kernel
theorem dX8_isLike_17 : decode cX8_isLike 17 = .ok (.iconst 0, 1) := by decide +kernel
theorem dX8_isLike_18 : decode cX8_isLike 18 = .ok (.istore_n 3, 1) := by decide +kernel
theorem dX8_isLike_19 : decode cX8_isLike 19 = .ok (.iload_n 3, 1) := by decide +kernel
theorem dX8_isLike_20 : decode cX8_isLike 20 = .ok (.aload_n 0, 1) := by decide +kernel
theorem dX8_isLike_21 : decode cX8_isLike 21 = .ok (.getfield 15, 3) := by decide +kernel
theorem dX8_isLike_24 : decode cX8_isLike 24 = .ok (.if_icmp .ge 34, 3) := by decide +kernel
theorem dX8_isLike_27 : decode cX8_isLike 27 = .ok (.iload_n 2, 1) := by decide +kernel
theorem dX8_isLike_28 : decode cX8_isLike 28 = .ok (.ifCond .eq 30, 3) := by decide +kernel
theorem dX8_isLike_31 : decode cX8_isLike 31 = .ok (.aload_n 0, 1) := by decide +kernel
theorem dX8_isLike_32 : decode cX8_isLike 32 = .ok (.getfield 11, 3) := by decide +kernel
theorem dX8_isLike_35 : decode cX8_isLike 35 = .ok (.iload_n 3, 1) := by decide +kernel
theorem dX8_isLike_36 : decode cX8_isLike 36 = .ok (.iaload, 1) := by decide +kernel
theorem dX8_isLike_37 : decode cX8_isLike 37 = .ok (.aload_n 1, 1) := by decide +kernel
theorem dX8_isLike_38 : decode cX8_isLike 38 = .ok (.getfield 11, 3) := by decide +kernel
theorem dX8_isLike_41 : decode cX8_isLike 41 = .ok (.iload_n 3, 1) := by decide +kernel
theorem dX8_isLike_42 : decode cX8_isLike 42 = .ok (.iaload, 1) := by decide +kernel
theorem dX8_isLike_43 : decode cX8_isLike 43 = .ok (.if_icmp .ne 7, 3) := by decide +kernel
theorem dX8_isLike_46 : decode cX8_isLike 46 = .ok (.iconst 1, 1) := by decide +kernel
theorem dX8_isLike_47 : decode cX8_isLike 47 = .ok (.goto 4, 3) := by decide +kernel
theorem dX8_isLike_50 : decode cX8_isLike 50 = .ok (.iconst 0, 1) := by decide +kernel
theorem dX8_isLike_51 : decode cX8_isLike 51 = .ok (.istore_n 2, 1) := by decide +kernel
theorem dX8_isLike_52 : decode cX8_isLike 52 = .ok (.iinc 3 1, 3) := by decide +kernel
theorem dX8_isLike_55 : decode cX8_isLike 55 = .ok (.goto (-36), 3) := by decide +kernel
theorem dX8_isLike_58 : decode cX8_isLike 58 = .ok (.iload_n 2, 1) := by decide +kernel
theorem dX8_isLike_59 : decode cX8_isLike 59 = .ok (.ireturn, 1) := by decide +kernel
theorem dX8_hash_0 : decode cX8_hash 0 = .ok (.ldc2_w 76, 3) := by decide +kernel
theorem dX8_hash_3 : decode cX8_hash 3 = .ok (.lstore_n 1, 1) := by decide +kernel
theorem dX8_hash_4 : decode cX8_hash 4 = .ok (.iconst 0, 1) := by decide +kernel
theorem dX8_hash_5 : decode cX8_hash 5 = .ok (.istore_n 3, 1) := by decide +kernel
theorem dX8_hash_6 : decode cX8_hash 6 = .ok (.iload_n 3, 1) := by decide +kernel
theorem dX8_hash_7 : decode cX8_hash 7 = .ok (.aload_n 0, 1) := by decide +kernel
theorem dX8_hash_8 : decode cX8_hash 8 = .ok (.getfield 15, 3) := by decide +kernel
theorem dX8_hash_11 : decode cX8_hash 11 = .ok (.if_icmp .ge 23, 3) := by decide +kernel
theorem dX8_hash_14 : decode cX8_hash 14 = .ok (.lload_n 1, 1) := by decide +kernel
theorem dX8_hash_15 : decode cX8_hash 15 = .ok (.aload_n 0, 1) := by decide +kernel
theorem dX8_hash_16 : decode cX8_hash 16 = .ok (.getfield 11, 3) := by decide +kernel
theorem dX8_hash_19 : decode cX8_hash 19 = .ok (.iload_n 3, 1) := by decide +kernel
theorem dX8_hash_20 : decode cX8_hash 20 = .ok (.iaload, 1) := by decide +kernel
theorem dX8_hash_21 : decode cX8_hash 21 = .ok (.i2l, 1) := by decide +kernel
theorem dX8_hash_22 : decode cX8_hash 22 = .ok (.lxor, 1) := by decide +kernel
theorem dX8_hash_23 : decode cX8_hash 23 = .ok (.ldc2_w 78, 3) := by decide +kernel
theorem dX8_hash_26 : decode cX8_hash 26 = .ok (.lmul, 1) := by decide +kernel
theorem dX8_hash_27 : decode cX8_hash 27 = .ok (.lstore_n 1, 1) := by decide +kernel
theorem dX8_hash_28 : decode cX8_hash 28 = .ok (.iinc 3 1, 3) := by decide +kernel
theorem dX8_hash_31 : decode cX8_hash 31 = .ok (.goto (-25), 3) := by decide +kernel
theorem dX8_hash_34 : decode cX8_hash 34 = .ok (.lload_n 1, 1) := by decide +kernel
theorem dX8_hash_35 : decode cX8_hash 35 = .ok (.lreturn, 1) := by decide +kernel
theorem dJ9_min_7cf53_0 : decode cJ9_min_7cf53 0 = .ok (.iload_n 0, 1) := by decide +kernel
theorem dJ9_min_7cf53_1 : decode cJ9_min_7cf53 1 = .ok (.iload_n 1, 1) := by decide +kernel
theorem dJ9_min_7cf53_2 : decode cJ9_min_7cf53 2 = .ok (.if_icmp .gt 7, 3) := by decide +kernel
theorem dJ9_min_7cf53_5 : decode cJ9_min_7cf53 5 = .ok (.iload_n 0, 1) := by decide +kernel
theorem dJ9_min_7cf53_6 : decode cJ9_min_7cf53 6 = .ok (.goto 4, 3) := by decide +kernel
theorem dJ9_min_7cf53_9 : decode cJ9_min_7cf53 9 = .ok (.iload_n 1, 1) := by decide +kernel
theorem dJ9_min_7cf53_10 : decode cJ9_min_7cf53 10 = .ok (.ireturn, 1) := by decide +kernel
theorem dJ7_fill_53178_0 : decode cJ7_fill_53178 0 = .ok (.iconst 0, 1) := by decide +kernel
theorem dJ7_fill_53178_1 : decode cJ7_fill_53178 1 = .ok (.istore_n 2, 1) := by decide +kernel
theorem dJ7_fill_53178_2 : decode cJ7_fill_53178 2 = .ok (.aload_n 0, 1) := by decide +kernel
theorem dJ7_fill_53178_3 : decode cJ7_fill_53178 3 = .ok (.arraylength, 1) := by decide +kernel
theorem dJ7_fill_53178_4 : decode cJ7_fill_53178 4 = .ok (.istore_n 3, 1) := by decide +kernel
theorem dJ7_fill_53178_5 : decode cJ7_fill_53178 5 = .ok (.iload_n 2, 1) := by decide +kernel
theorem dJ7_fill_53178_6 : decode cJ7_fill_53178 6 = .ok (.iload_n 3, 1) := by decide +kernel
theorem dJ7_fill_53178_7 : decode cJ7_fill_53178 7 = .ok (.if_icmp .ge 13, 3) := by decide +kernel
theorem dJ7_fill_53178_10 : decode cJ7_fill_53178 10 = .ok (.aload_n 0, 1) := by decide +kernel
theorem dJ7_fill_53178_11 : decode cJ7_fill_53178 11 = .ok (.iload_n 2, 1) := by decide +kernel
theorem dJ7_fill_53178_12 : decode cJ7_fill_53178 12 = .ok (.iload_n 1, 1) := by decide +kernel
theorem dJ7_fill_53178_13 : decode cJ7_fill_53178 13 = .ok (.iastore, 1) := by decide +kernel
theorem dJ7_fill_53178_14 : decode cJ7_fill_53178 14 = .ok (.iinc 2 1, 3) := by decide +kernel
theorem dJ7_fill_53178_17 : decode cJ7_fill_53178 17 = .ok (.goto (-12), 3) := by decide +kernel
theorem dJ7_fill_53178_20 : decode cJ7_fill_53178 20 = .ok (.return_, 1) := by decide +kernel
