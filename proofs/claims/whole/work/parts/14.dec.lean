theorem dX0_init_0 : decode cX0_init 0 = .ok (.aload_n 0, 1) := by decide +kernel
theorem dX0_init_1 : decode cX0_init 1 = .ok (.invokespecial 3, 3) := by decide +kernel
theorem dX0_init_4 : decode cX0_init 4 = .ok (.aload_n 0, 1) := by decide +kernel
theorem dX0_init_5 : decode cX0_init 5 = .ok (.iconst 4, 1) := by decide +kernel
theorem dX0_init_6 : decode cX0_init 6 = .ok (.newarray .int, 2) := by decide +kernel
theorem dX0_init_8 : decode cX0_init 8 = .ok (.putfield 9, 3) := by decide +kernel
theorem dX0_init_11 : decode cX0_init 11 = .ok (.aload_n 0, 1) := by decide +kernel
theorem dX0_init_12 : decode cX0_init 12 = .ok (.bipush 16, 2) := by decide +kernel
theorem dX0_init_14 : decode cX0_init 14 = .ok (.newarray .int, 2) := by decide +kernel
theorem dX0_init_16 : decode cX0_init 16 = .ok (.putfield 15, 3) := by decide +kernel
theorem dX0_init_19 : decode cX0_init 19 = .ok (.aload_n 0, 1) := by decide +kernel
theorem dX0_init_20 : decode cX0_init 20 = .ok (.bipush 16, 2) := by decide +kernel
theorem dX0_init_22 : decode cX0_init 22 = .ok (.newarray .int, 2) := by decide +kernel
theorem dX0_init_24 : decode cX0_init 24 = .ok (.putfield 18, 3) := by decide +kernel
theorem dX0_init_27 : decode cX0_init 27 = .ok (.aload_n 0, 1) := by decide +kernel
theorem dX0_init_28 : decode cX0_init 28 = .ok (.bipush 16, 2) := by decide +kernel
theorem dX0_init_30 : decode cX0_init 30 = .ok (.newarray .int, 2) := by decide +kernel
theorem dX0_init_32 : decode cX0_init 32 = .ok (.putfield 21, 3) := by decide +kernel
theorem dX0_init_35 : decode cX0_init 35 = .ok (.aload_n 0, 1) := by decide +kernel
theorem dX0_init_36 : decode cX0_init 36 = .ok (.bipush 16, 2) := by decide +kernel
theorem dX0_init_38 : decode cX0_init 38 = .ok (.newarray .int, 2) := by decide +kernel
theorem dX0_init_40 : decode cX0_init 40 = .ok (.putfield 24, 3) := by decide +kernel
theorem dX0_init_43 : decode cX0_init 43 = .ok (.aload_n 0, 1) := by decide +kernel
theorem dX0_init_44 : decode cX0_init 44 = .ok (.bipush 16, 2) := by decide +kernel
theorem dX0_init_46 : decode cX0_init 46 = .ok (.newarray .int, 2) := by decide +kernel
theorem dX0_init_48 : decode cX0_init 48 = .ok (.putfield 27, 3) := by decide +kernel
theorem dX0_init_51 : decode cX0_init 51 = .ok (.aload_n 0, 1) := by decide +kernel
theorem dX0_init_52 : decode cX0_init 52 = .ok (.bipush 16, 2) := by decide +kernel
theorem dX0_init_54 : decode cX0_init 54 = .ok (.newarray .int, 2) := by decide +kernel
theorem dX0_init_56 : decode cX0_init 56 = .ok (.putfield 30, 3) := by decide +kernel
theorem dX0_init_59 : decode cX0_init 59 = .ok (.aload_n 0, 1) := by decide +kernel
theorem dX0_init_60 : decode cX0_init 60 = .ok (.new 33, 3) := by decide +kernel
theorem dX0_init_63 : decode cX0_init 63 = .ok (.dup, 1) := by decide +kernel
theorem dX0_init_64 : decode cX0_init 64 = .ok (.invokespecial 35, 3) := by decide +kernel
theorem dX0_init_67 : decode cX0_init 67 = .ok (.putfield 36, 3) := by decide +kernel
theorem dX0_init_70 : decode cX0_init 70 = .ok (.aload_n 0, 1) := by decide +kernel
theorem dX0_init_71 : decode cX0_init 71 = .ok (.new 40, 3) := by decide +kernel
theorem dX0_init_74 : decode cX0_init 74 = .ok (.dup, 1) := by decide +kernel
theorem dX0_init_75 : decode cX0_init 75 = .ok (.invokespecial 42, 3) := by decide +kernel
theorem dX0_init_78 : decode cX0_init 78 = .ok (.putfield 43, 3) := by decide +kernel
theorem dX0_init_81 : decode cX0_init 81 = .ok (.aload_n 0, 1) := by decide +kernel
theorem dX0_init_82 : decode cX0_init 82 = .ok (.aload_n 1, 1) := by decide +kernel
theorem dX0_init_83 : decode cX0_init 83 = .ok (.putfield 47, 3) := by decide +kernel
theorem dX0_init_86 : decode cX0_init 86 = .ok (.aload_n 0, 1) := by decide +kernel
theorem dX0_init_87 : decode cX0_init 87 = .ok (.iconst (-1), 1) := by decide +kernel
theorem dX0_init_88 : decode cX0_init 88 = .ok (.putfield 51, 3) := by decide +kernel
theorem dX0_init_91 : decode cX0_init 91 = .ok (.aload_n 0, 1) := by decide +kernel
theorem dX0_init_92 : decode cX0_init 92 = .ok (.invokevirtual 55, 3) := by decide +kernel
theorem dX0_init_95 : decode cX0_init 95 = .ok (.return_, 1) := by decide +kernel
theorem dX0_empty_0 : decode cX0_empty 0 = .ok (.aload_n 0, 1) := by decide +kernel
theorem dX0_empty_1 : decode cX0_empty 1 = .ok (.getfield 36, 3) := by decide +kernel
theorem dX0_empty_4 : decode cX0_empty 4 = .ok (.invokevirtual 58, 3) := by decide +kernel
theorem dX0_empty_7 : decode cX0_empty 7 = .ok (.iconst 0, 1) := by decide +kernel
theorem dX0_empty_8 : decode cX0_empty 8 = .ok (.istore_n 1, 1) := by decide +kernel
theorem dX0_empty_9 : decode cX0_empty 9 = .ok (.iload_n 1, 1) := by decide +kernel
theorem dX0_empty_10 : decode cX0_empty 10 = .ok (.iconst 4, 1) := by decide +kernel
theorem dX0_empty_11 : decode cX0_empty 11 = .ok (.if_icmp .ge 15, 3) := by decide +kernel
theorem dX0_empty_14 : decode cX0_empty 14 = .ok (.aload_n 0, 1) := by decide +kernel
theorem dX0_empty_15 : decode cX0_empty 15 = .ok (.iload_n 1, 1) := by decide +kernel
theorem dX0_empty_16 : decode cX0_empty 16 = .ok (.iconst (-1), 1) := by decide +kernel
theorem dX0_empty_17 : decode cX0_empty 17 = .ok (.invokevirtual 61, 3) := by decide +kernel
theorem dX0_empty_20 : decode cX0_empty 20 = .ok (.iinc 1 1, 3) := by decide +kernel
theorem dX0_empty_23 : decode cX0_empty 23 = .ok (.goto (-14), 3) := by decide +kernel
theorem dX0_empty_26 : decode cX0_empty 26 = .ok (.return_, 1) := by decide +kernel
theorem dX0_become_0 : decode cX0_become 0 = .ok (.aload_n 1, 1) := by decide +kernel
theorem dX0_become_1 : decode cX0_become 1 = .ok (.getfield 9, 3) := by decide +kernel
theorem dX0_become_4 : decode cX0_become 4 = .ok (.iconst 0, 1) := by decide +kernel
theorem dX0_become_5 : decode cX0_become 5 = .ok (.aload_n 0, 1) := by decide +kernel
theorem dX0_become_6 : decode cX0_become 6 = .ok (.getfield 9, 3) := by decide +kernel
theorem dX0_become_9 : decode cX0_become 9 = .ok (.iconst 0, 1) := by decide +kernel
theorem dX0_become_10 : decode cX0_become 10 = .ok (.iconst 4, 1) := by decide +kernel
theorem dX0_become_11 : decode cX0_become 11 = .ok (.invokestatic 65, 3) := by decide +kernel
theorem dX0_become_14 : decode cX0_become 14 = .ok (.aload_n 1, 1) := by decide +kernel
theorem dX0_become_15 : decode cX0_become 15 = .ok (.getfield 15, 3) := by decide +kernel
theorem dX0_become_18 : decode cX0_become 18 = .ok (.iconst 0, 1) := by decide +kernel
theorem dX0_become_19 : decode cX0_become 19 = .ok (.aload_n 0, 1) := by decide +kernel
theorem dX0_become_20 : decode cX0_become 20 = .ok (.getfield 15, 3) := by decide +kernel
theorem dX0_become_23 : decode cX0_become 23 = .ok (.iconst 0, 1) := by decide +kernel
theorem dX0_become_24 : decode cX0_become 24 = .ok (.bipush 16, 2) := by decide +kernel
theorem dX0_become_26 : decode cX0_become 26 = .ok (.invokestatic 65, 3) := by decide +kernel
theorem dX0_become_29 : decode cX0_become 29 = .ok (.aload_n 1, 1) := by decide +kernel
theorem dX0_become_30 : decode cX0_become 30 = .ok (.getfield 18, 3) := by decide +kernel
theorem dX0_become_33 : decode cX0_become 33 = .ok (.iconst 0, 1) := by decide +kernel
theorem dX0_become_34 : decode cX0_become 34 = .ok (.aload_n 0, 1) := by decide +kernel
theorem dX0_become_35 : decode cX0_become 35 = .ok (.getfield 18, 3) := by decide +kernel
theorem dX0_become_38 : decode cX0_become 38 = .ok (.iconst 0, 1) := by decide +kernel
theorem dX0_become_39 : decode cX0_become 39 = .ok (.bipush 16, 2) := by decide +kernel
theorem dX0_become_41 : decode cX0_become 41 = .ok (.invokestatic 65, 3) := by decide +kernel
theorem dX0_become_44 : decode cX0_become 44 = .ok (.aload_n 1, 1) := by decide +kernel
theorem dX0_become_45 : decode cX0_become 45 = .ok (.getfield 21, 3) := by decide +kernel
theorem dX0_become_48 : decode cX0_become 48 = .ok (.iconst 0, 1) := by decide +kernel
theorem dX0_become_49 : decode cX0_become 49 = .ok (.aload_n 0, 1) := by decide +kernel
theorem dX0_become_50 : decode cX0_become 50 = .ok (.getfield 21, 3) := by decide +kernel
theorem dX0_become_53 : decode cX0_become 53 = .ok (.iconst 0, 1) := by decide +kernel
theorem dX0_become_54 : decode cX0_become 54 = .ok (.bipush 16, 2) := by decide +kernel
theorem dX0_become_56 : decode cX0_become 56 = .ok (.invokestatic 65, 3) := by decide +kernel
theorem dX0_become_59 : decode cX0_become 59 = .ok (.aload_n 1, 1) := by decide +kernel
theorem dX0_become_60 : decode cX0_become 60 = .ok (.getfield 24, 3) := by decide +kernel
theorem dX0_become_63 : decode cX0_become 63 = .ok (.iconst 0, 1) := by decide +kernel
theorem dX0_become_64 : decode cX0_become 64 = .ok (.aload_n 0, 1) := by decide +kernel
theorem dX0_become_65 : decode cX0_become 65 = .ok (.getfield 24, 3) := by decide +kernel
theorem dX0_become_68 : decode cX0_become 68 = .ok (.iconst 0, 1) := by decide +kernel
theorem dX0_become_69 : decode cX0_become 69 = .ok (.bipush 16, 2) := by decide +kernel
theorem dX0_become_71 : decode cX0_become 71 = .ok (.invokestatic 65, 3) := by decide +kernel
theorem dX0_become_74 : decode cX0_become 74 = .ok (.aload_n 0, 1) := by decide +kernel
theorem dX0_become_75 : decode cX0_become 75 = .ok (.getfield 36, 3) := by decide +kernel
theorem dX0_become_78 : decode cX0_become 78 = .ok (.aload_n 1, 1) := by decide +kernel
theorem dX0_become_79 : decode cX0_become 79 = .ok (.getfield 36, 3) := by decide +kernel
theorem dX0_become_82 : decode cX0_become 82 = .ok (.invokevirtual 71, 3) := by decide +kernel
theorem dX0_become_85 : decode cX0_become 85 = .ok (.aload_n 0, 1) := by decide +kernel
theorem dX0_become_86 : decode cX0_become 86 = .ok (.invokevirtual 75, 3) := by decide +kernel
theorem dX0_become_89 : decode cX0_become 89 = .ok (.return_, 1) := by decide +kernel
theorem dX0_layRow_0 : decode cX0_layRow 0 = .ok (.aload_n 0, 1) := by decide +kernel
theorem dX0_layRow_1 : decode cX0_layRow 1 = .ok (.getfield 9, 3) := by decide +kernel
theorem dX0_layRow_4 : decode cX0_layRow 4 = .ok (.iload_n 1, 1) := by decide +kernel
theorem dX0_layRow_5 : decode cX0_layRow 5 = .ok (.iload_n 2, 1) := by decide +kernel
theorem dX0_layRow_6 : decode cX0_layRow 6 = .ok (.iastore, 1) := by decide +kernel
theorem dX0_layRow_7 : decode cX0_layRow 7 = .ok (.iconst 0, 1) := by decide +kernel
theorem dX0_layRow_8 : decode cX0_layRow 8 = .ok (.istore_n 3, 1) := by decide +kernel
theorem dX0_layRow_9 : decode cX0_layRow 9 = .ok (.iload_n 3, 1) := by decide +kernel
theorem dX0_layRow_10 : decode cX0_layRow 10 = .ok (.iconst 4, 1) := by decide +kernel
theorem dX0_layRow_11 : decode cX0_layRow 11 = .ok (.if_icmp .ge 21, 3) := by decide +kernel
theorem dX0_layRow_14 : decode cX0_layRow 14 = .ok (.aload_n 0, 1) := by decide +kernel
theorem dX0_layRow_15 : decode cX0_layRow 15 = .ok (.iload_n 1, 1) := by decide +kernel
theorem dX0_layRow_16 : decode cX0_layRow 16 = .ok (.iconst 4, 1) := by decide +kernel
theorem dX0_layRow_17 : decode cX0_layRow 17 = .ok (.imul, 1) := by decide +kernel
theorem dX0_layRow_18 : decode cX0_layRow 18 = .ok (.iload_n 3, 1) := by decide +kernel
theorem dX0_layRow_19 : decode cX0_layRow 19 = .ok (.iadd, 1) := by decide +kernel
theorem dX0_layRow_20 : decode cX0_layRow 20 = .ok (.iconst (-1), 1) := by decide +kernel
theorem dX0_layRow_21 : decode cX0_layRow 21 = .ok (.iconst 1, 1) := by decide +kernel
theorem dX0_layRow_22 : decode cX0_layRow 22 = .ok (.iconst 0, 1) := by decide +kernel
theorem dX0_layRow_23 : decode cX0_layRow 23 = .ok (.invokevirtual 78, 3) := by decide +kernel
theorem dX0_layRow_26 : decode cX0_layRow 26 = .ok (.iinc 3 1, 3) := by decide +kernel
theorem dX0_layRow_29 : decode cX0_layRow 29 = .ok (.goto (-20), 3) := by decide +kernel
theorem dX0_layRow_32 : decode cX0_layRow 32 = .ok (.aload_n 0, 1) := by decide +kernel
theorem dX0_layRow_33 : decode cX0_layRow 33 = .ok (.invokevirtual 75, 3) := by decide +kernel
theorem dX0_layRow_36 : decode cX0_layRow 36 = .ok (.return_, 1) := by decide +kernel
theorem dX0_put_0 : decode cX0_put 0 = .ok (.aload_n 0, 1) := by decide +kernel
theorem dX0_put_1 : decode cX0_put 1 = .ok (.iload_n 1, 1) := by decide +kernel
theorem dX0_put_2 : decode cX0_put 2 = .ok (.iload_n 2, 1) := by decide +kernel
theorem dX0_put_3 : decode cX0_put 3 = .ok (.iload_n 3, 1) := by decide +kernel
theorem dX0_put_4 : decode cX0_put 4 = .ok (.iload 4, 2) := by decide +kernel
theorem dX0_put_6 : decode cX0_put 6 = .ok (.invokevirtual 78, 3) := by decide +kernel
theorem dX0_put_9 : decode cX0_put 9 = .ok (.aload_n 0, 1) := by decide +kernel
theorem dX0_put_10 : decode cX0_put 10 = .ok (.invokevirtual 75, 3) := by decide +kernel
theorem dX0_put_13 : decode cX0_put 13 = .ok (.return_, 1) := by decide +kernel
theorem dX0_remove_0 : decode cX0_remove 0 = .ok (.aload_n 0, 1) := by decide +kernel
theorem dX0_remove_1 : decode cX0_remove 1 = .ok (.iload_n 1, 1) := by decide +kernel
theorem dX0_remove_2 : decode cX0_remove 2 = .ok (.iconst (-1), 1) := by decide +kernel
theorem dX0_remove_3 : decode cX0_remove 3 = .ok (.iconst 1, 1) := by decide +kernel
theorem dX0_remove_4 : decode cX0_remove 4 = .ok (.iconst 0, 1) := by decide +kernel
theorem dX0_remove_5 : decode cX0_remove 5 = .ok (.invokevirtual 78, 3) := by decide +kernel
theorem dX0_remove_8 : decode cX0_remove 8 = .ok (.aload_n 0, 1) := by decide +kernel
theorem dX0_remove_9 : decode cX0_remove 9 = .ok (.invokevirtual 75, 3) := by decide +kernel
theorem dX0_remove_12 : decode cX0_remove 12 = .ok (.return_, 1) := by decide +kernel
theorem dX0_setPart_0 : decode cX0_setPart 0 = .ok (.aload_n 0, 1) := by decide +kernel
theorem dX0_setPart_1 : decode cX0_setPart 1 = .ok (.getfield 15, 3) := by decide +kernel
theorem dX0_setPart_4 : decode cX0_setPart 4 = .ok (.iload_n 1, 1) := by decide +kernel
theorem dX0_setPart_5 : decode cX0_setPart 5 = .ok (.iload_n 2, 1) := by decide +kernel
theorem dX0_setPart_6 : decode cX0_setPart 6 = .ok (.iastore, 1) := by decide +kernel
theorem dX0_setPart_7 : decode cX0_setPart 7 = .ok (.aload_n 0, 1) := by decide +kernel
theorem dX0_setPart_8 : decode cX0_setPart 8 = .ok (.getfield 18, 3) := by decide +kernel
theorem dX0_setPart_11 : decode cX0_setPart 11 = .ok (.iload_n 1, 1) := by decide +kernel
theorem dX0_setPart_12 : decode cX0_setPart 12 = .ok (.iload_n 3, 1) := by decide +kernel
theorem dX0_setPart_13 : decode cX0_setPart 13 = .ok (.iastore, 1) := by decide +kernel
theorem dX0_setPart_14 : decode cX0_setPart 14 = .ok (.aload_n 0, 1) := by decide +kernel
theorem dX0_setPart_15 : decode cX0_setPart 15 = .ok (.getfield 21, 3) := by decide +kernel
theorem dX0_setPart_18 : decode cX0_setPart 18 = .ok (.iload_n 1, 1) := by decide +kernel
theorem dX0_setPart_19 : decode cX0_setPart 19 = .ok (.iconst 0, 1) := by decide +kernel
theorem dX0_setPart_20 : decode cX0_setPart 20 = .ok (.iastore, 1) := by decide +kernel
theorem dX0_setPart_21 : decode cX0_setPart 21 = .ok (.aload_n 0, 1) := by decide +kernel
theorem dX0_setPart_22 : decode cX0_setPart 22 = .ok (.getfield 24, 3) := by decide +kernel
theorem dX0_setPart_25 : decode cX0_setPart 25 = .ok (.iload_n 1, 1) := by decide +kernel
theorem dX0_setPart_26 : decode cX0_setPart 26 = .ok (.iload 4, 2) := by decide +kernel
theorem dX0_setPart_28 : decode cX0_setPart 28 = .ok (.iastore, 1) := by decide +kernel
theorem dX0_setPart_29 : decode cX0_setPart 29 = .ok (.return_, 1) := by decide +kernel
theorem dX0_addCondition_0 : decode cX0_addCondition 0 = .ok (.aload_n 0, 1) := by decide +kernel
theorem dX0_addCondition_1 : decode cX0_addCondition 1 = .ok (.getfield 36, 3) := by decide +kernel
theorem dX0_addCondition_4 : decode cX0_addCondition 4 = .ok (.iload_n 1, 1) := by decide +kernel
theorem dX0_addCondition_5 : decode cX0_addCondition 5 = .ok (.iload_n 2, 1) := by decide +kernel
theorem dX0_addCondition_6 : decode cX0_addCondition 6 = .ok (.iload_n 3, 1) := by decide +kernel
theorem dX0_addCondition_7 : decode cX0_addCondition 7 = .ok (.invokevirtual 82, 3) := by decide +kernel
theorem dX0_addCondition_10 : decode cX0_addCondition 10 = .ok (.aload_n 0, 1) := by decide +kernel
theorem dX0_addCondition_11 : decode cX0_addCondition 11 = .ok (.invokevirtual 75, 3) := by decide +kernel
theorem dX0_addCondition_14 : decode cX0_addCondition 14 = .ok (.aload_n 0, 1) := by decide +kernel
theorem dX0_addCondition_15 : decode cX0_addCondition 15 = .ok (.getfield 36, 3) := by decide +kernel
theorem dX0_addCondition_18 : decode cX0_addCondition 18 = .ok (.getfield 86, 3) := by decide +kernel
theorem dX0_addCondition_21 : decode cX0_addCondition 21 = .ok (.iconst 1, 1) := by decide +kernel
theorem dX0_addCondition_22 : decode cX0_addCondition 22 = .ok (.isub, 1) := by decide +kernel
theorem dX0_addCondition_23 : decode cX0_addCondition 23 = .ok (.ireturn, 1) := by decide +kernel
theorem dX0_setTruths_0 : decode cX0_setTruths 0 = .ok (.aload_n 0, 1) := by decide +kernel
theorem dX0_setTruths_1 : decode cX0_setTruths 1 = .ok (.getfield 36, 3) := by decide +kernel
theorem dX0_setTruths_4 : decode cX0_setTruths 4 = .ok (.iload_n 1, 1) := by decide +kernel
theorem dX0_setTruths_5 : decode cX0_setTruths 5 = .ok (.iload_n 2, 1) := by decide +kernel
theorem dX0_setTruths_6 : decode cX0_setTruths 6 = .ok (.iload_n 3, 1) := by decide +kernel
theorem dX0_setTruths_7 : decode cX0_setTruths 7 = .ok (.iload 4, 2) := by decide +kernel
theorem dX0_setTruths_9 : decode cX0_setTruths 9 = .ok (.invokevirtual 89, 3) := by decide +kernel
theorem dX0_setTruths_12 : decode cX0_setTruths 12 = .ok (.aload_n 0, 1) := by decide +kernel
theorem dX0_setTruths_13 : decode cX0_setTruths 13 = .ok (.invokevirtual 75, 3) := by decide +kernel
theorem dX0_setTruths_16 : decode cX0_setTruths 16 = .ok (.return_, 1) := by decide +kernel
theorem dX0_settle_0 : decode cX0_settle 0 = .ok (.aload_n 0, 1) := by decide +kernel
theorem dX0_settle_1 : decode cX0_settle 1 = .ok (.iconst 1, 1) := by decide +kernel
theorem dX0_settle_2 : decode cX0_settle 2 = .ok (.putfield 92, 3) := by decide +kernel
theorem dX0_settle_5 : decode cX0_settle 5 = .ok (.aload_n 0, 1) := by decide +kernel
theorem dX0_settle_6 : decode cX0_settle 6 = .ok (.iconst 0, 1) := by decide +kernel
theorem dX0_settle_7 : decode cX0_settle 7 = .ok (.putfield 95, 3) := by decide +kernel
theorem dX0_settle_10 : decode cX0_settle 10 = .ok (.aload_n 0, 1) := by decide +kernel
theorem dX0_settle_11 : decode cX0_settle 11 = .ok (.iconst 0, 1) := by decide +kernel
theorem dX0_settle_12 : decode cX0_settle 12 = .ok (.putfield 98, 3) := by decide +kernel
theorem dX0_settle_15 : decode cX0_settle 15 = .ok (.iconst 0, 1) := by decide +kernel
theorem dX0_settle_16 : decode cX0_settle 16 = .ok (.istore_n 1, 1) := by decide +kernel
theorem dX0_settle_17 : decode cX0_settle 17 = .ok (.iload_n 1, 1) := by decide +kernel
theorem dX0_settle_18 : decode cX0_settle 18 = .ok (.bipush 16, 2) := by decide +kernel
theorem dX0_settle_20 : decode cX0_settle 20 = .ok (.if_icmp .ge 76, 3) := by decide +kernel
theorem dX0_settle_23 : decode cX0_settle 23 = .ok (.aload_n 0, 1) := by decide +kernel
theorem dX0_settle_24 : decode cX0_settle 24 = .ok (.getfield 27, 3) := by decide +kernel
theorem dX0_settle_27 : decode cX0_settle 27 = .ok (.iload_n 1, 1) := by decide +kernel
theorem dX0_settle_28 : decode cX0_settle 28 = .ok (.aload_n 0, 1) := by decide +kernel
theorem dX0_settle_29 : decode cX0_settle 29 = .ok (.getfield 92, 3) := by decide +kernel
theorem dX0_settle_32 : decode cX0_settle 32 = .ok (.iastore, 1) := by decide +kernel
theorem dX0_settle_33 : decode cX0_settle 33 = .ok (.aload_n 0, 1) := by decide +kernel
theorem dX0_settle_34 : decode cX0_settle 34 = .ok (.dup, 1) := by decide +kernel
theorem dX0_settle_35 : decode cX0_settle 35 = .ok (.getfield 92, 3) := by decide +kernel
theorem dX0_settle_38 : decode cX0_settle 38 = .ok (.aload_n 0, 1) := by decide +kernel
theorem dX0_settle_39 : decode cX0_settle 39 = .ok (.getfield 18, 3) := by decide +kernel
theorem dX0_settle_42 : decode cX0_settle 42 = .ok (.iload_n 1, 1) := by decide +kernel
theorem dX0_settle_43 : decode cX0_settle 43 = .ok (.iaload, 1) := by decide +kernel
theorem dX0_settle_44 : decode cX0_settle 44 = .ok (.imul, 1) := by decide +kernel
theorem dX0_settle_45 : decode cX0_settle 45 = .ok (.putfield 92, 3) := by decide +kernel
theorem dX0_settle_48 : decode cX0_settle 48 = .ok (.aload_n 0, 1) := by decide +kernel
theorem dX0_settle_49 : decode cX0_settle 49 = .ok (.dup, 1) := by decide +kernel
theorem dX0_settle_50 : decode cX0_settle 50 = .ok (.getfield 95, 3) := by decide +kernel
theorem dX0_settle_53 : decode cX0_settle 53 = .ok (.aload_n 0, 1) := by decide +kernel
theorem dX0_settle_54 : decode cX0_settle 54 = .ok (.getfield 15, 3) := by decide +kernel
theorem dX0_settle_57 : decode cX0_settle 57 = .ok (.iload_n 1, 1) := by decide +kernel
theorem dX0_settle_58 : decode cX0_settle 58 = .ok (.iaload, 1) := by decide +kernel
theorem dX0_settle_59 : decode cX0_settle 59 = .ok (.iconst (-1), 1) := by decide +kernel
theorem dX0_settle_60 : decode cX0_settle 60 = .ok (.if_icmp .ne 7, 3) := by decide +kernel
theorem dX0_settle_63 : decode cX0_settle 63 = .ok (.iconst 0, 1) := by decide +kernel
theorem dX0_settle_64 : decode cX0_settle 64 = .ok (.goto 4, 3) := by decide +kernel
theorem dX0_settle_67 : decode cX0_settle 67 = .ok (.iconst 1, 1) := by decide +kernel
theorem dX0_settle_68 : decode cX0_settle 68 = .ok (.iadd, 1) := by decide +kernel
theorem dX0_settle_69 : decode cX0_settle 69 = .ok (.putfield 95, 3) := by decide +kernel
theorem dX0_settle_72 : decode cX0_settle 72 = .ok (.aload_n 0, 1) := by decide +kernel
theorem dX0_settle_73 : decode cX0_settle 73 = .ok (.dup, 1) := by decide +kernel
theorem dX0_settle_74 : decode cX0_settle 74 = .ok (.getfield 98, 3) := by decide +kernel
theorem dX0_settle_77 : decode cX0_settle 77 = .ok (.aload_n 0, 1) := by decide +kernel
theorem dX0_settle_78 : decode cX0_settle 78 = .ok (.getfield 15, 3) := by decide +kernel
theorem dX0_settle_81 : decode cX0_settle 81 = .ok (.iload_n 1, 1) := by decide +kernel
theorem dX0_settle_82 : decode cX0_settle 82 = .ok (.iaload, 1) := by decide +kernel
theorem dX0_settle_83 : decode cX0_settle 83 = .ok (.invokestatic 102, 3) := by decide +kernel
theorem dX0_settle_86 : decode cX0_settle 86 = .ok (.ior, 1) := by decide +kernel
theorem dX0_settle_87 : decode cX0_settle 87 = .ok (.putfield 98, 3) := by decide +kernel
theorem dX0_settle_90 : decode cX0_settle 90 = .ok (.iinc 1 1, 3) := by decide +kernel
theorem dX0_settle_93 : decode cX0_settle 93 = .ok (.goto (-76), 3) := by decide +kernel
theorem dX0_settle_96 : decode cX0_settle 96 = .ok (.iconst 0, 1) := by decide +kernel
theorem dX0_settle_97 : decode cX0_settle 97 = .ok (.istore_n 1, 1) := by decide +kernel
theorem dX0_settle_98 : decode cX0_settle 98 = .ok (.iload_n 1, 1) := by decide +kernel
theorem dX0_settle_99 : decode cX0_settle 99 = .ok (.aload_n 0, 1) := by decide +kernel
theorem dX0_settle_100 : decode cX0_settle 100 = .ok (.getfield 36, 3) := by decide +kernel
theorem dX0_settle_103 : decode cX0_settle 103 = .ok (.getfield 86, 3) := by decide +kernel
theorem dX0_settle_106 : decode cX0_settle 106 = .ok (.if_icmp .ge 23, 3) := by decide +kernel
theorem dX0_settle_109 : decode cX0_settle 109 = .ok (.aload_n 0, 1) := by decide +kernel
theorem dX0_settle_110 : decode cX0_settle 110 = .ok (.getfield 36, 3) := by decide +kernel
theorem dX0_settle_113 : decode cX0_settle 113 = .ok (.getfield 106, 3) := by decide +kernel
theorem dX0_settle_116 : decode cX0_settle 116 = .ok (.iload_n 1, 1) := by decide +kernel
theorem dX0_settle_117 : decode cX0_settle 117 = .ok (.aload_n 0, 1) := by decide +kernel
theorem dX0_settle_118 : decode cX0_settle 118 = .ok (.iload_n 1, 1) := by decide +kernel
theorem dX0_settle_119 : decode cX0_settle 119 = .ok (.invokevirtual 109, 3) := by decide +kernel
theorem dX0_settle_122 : decode cX0_settle 122 = .ok (.iastore, 1) := by decide +kernel
theorem dX0_settle_123 : decode cX0_settle 123 = .ok (.iinc 1 1, 3) := by decide +kernel
theorem dX0_settle_126 : decode cX0_settle 126 = .ok (.goto (-28), 3) := by decide +kernel
theorem dX0_settle_129 : decode cX0_settle 129 = .ok (.return_, 1) := by decide +kernel
theorem dX0_placesWhereHolds_0 : decode cX0_placesWhereHolds 0 = .ok (.aload_n 0, 1) := by decide +kernel
theorem dX0_placesWhereHolds_1 : decode cX0_placesWhereHolds 1 = .ok (.getfield 36, 3) := by decide +kernel
theorem dX0_placesWhereHolds_4 : decode cX0_placesWhereHolds 4 = .ok (.getfield 113, 3) := by decide +kernel
theorem dX0_placesWhereHolds_7 : decode cX0_placesWhereHolds 7 = .ok (.iload_n 1, 1) := by decide +kernel
theorem dX0_placesWhereHolds_8 : decode cX0_placesWhereHolds 8 = .ok (.iaload, 1) := by decide +kernel
theorem dX0_placesWhereHolds_9 : decode cX0_placesWhereHolds 9 = .ok (.istore_n 2, 1) := by decide +kernel
theorem dX0_placesWhereHolds_10 : decode cX0_placesWhereHolds 10 = .ok (.aload_n 0, 1) := by decide +kernel
theorem dX0_placesWhereHolds_11 : decode cX0_placesWhereHolds 11 = .ok (.getfield 15, 3) := by decide +kernel
theorem dX0_placesWhereHolds_14 : decode cX0_placesWhereHolds 14 = .ok (.iload_n 2, 1) := by decide +kernel
theorem dX0_placesWhereHolds_15 : decode cX0_placesWhereHolds 15 = .ok (.iaload, 1) := by decide +kernel
theorem dX0_placesWhereHolds_16 : decode cX0_placesWhereHolds 16 = .ok (.iconst (-1), 1) := by decide +kernel
theorem dX0_placesWhereHolds_17 : decode cX0_placesWhereHolds 17 = .ok (.if_icmp .eq 13, 3) := by decide +kernel
theorem dX0_placesWhereHolds_20 : decode cX0_placesWhereHolds 20 = .ok (.aload_n 0, 1) := by decide +kernel
theorem dX0_placesWhereHolds_21 : decode cX0_placesWhereHolds 21 = .ok (.getfield 15, 3) := by decide +kernel
theorem dX0_placesWhereHolds_24 : decode cX0_placesWhereHolds 24 = .ok (.iload_n 2, 1) := by decide +kernel
theorem dX0_placesWhereHolds_25 : decode cX0_placesWhereHolds 25 = .ok (.iaload, 1) := by decide +kernel
theorem dX0_placesWhereHolds_26 : decode cX0_placesWhereHolds 26 = .ok (.iconst 5, 1) := by decide +kernel
theorem dX0_placesWhereHolds_27 : decode cX0_placesWhereHolds 27 = .ok (.if_icmp .ne 5, 3) := by decide +kernel
theorem dX0_placesWhereHolds_30 : decode cX0_placesWhereHolds 30 = .ok (.iconst 0, 1) := by decide +kernel
theorem dX0_placesWhereHolds_31 : decode cX0_placesWhereHolds 31 = .ok (.ireturn, 1) := by decide +kernel
theorem dX0_placesWhereHolds_32 : decode cX0_placesWhereHolds 32 = .ok (.iconst 0, 1) := by decide +kernel
theorem dX0_placesWhereHolds_33 : decode cX0_placesWhereHolds 33 = .ok (.istore_n 3, 1) := by decide +kernel
theorem dX0_placesWhereHolds_34 : decode cX0_placesWhereHolds 34 = .ok (.iconst 0, 1) := by decide +kernel
theorem dX0_placesWhereHolds_35 : decode cX0_placesWhereHolds 35 = .ok (.istore 4, 2) := by decide +kernel
theorem dX0_placesWhereHolds_37 : decode cX0_placesWhereHolds 37 = .ok (.iload 4, 2) := by decide +kernel
theorem dX0_placesWhereHolds_39 : decode cX0_placesWhereHolds 39 = .ok (.aload_n 0, 1) := by decide +kernel
theorem dX0_placesWhereHolds_40 : decode cX0_placesWhereHolds 40 = .ok (.getfield 18, 3) := by decide +kernel
theorem dX0_placesWhereHolds_43 : decode cX0_placesWhereHolds 43 = .ok (.iload_n 2, 1) := by decide +kernel
theorem dX0_placesWhereHolds_44 : decode cX0_placesWhereHolds 44 = .ok (.iaload, 1) := by decide +kernel
theorem dX0_placesWhereHolds_45 : decode cX0_placesWhereHolds 45 = .ok (.if_icmp .ge 63, 3) := by decide +kernel
theorem dX0_placesWhereHolds_48 : decode cX0_placesWhereHolds 48 = .ok (.aload_n 0, 1) := by decide +kernel
theorem dX0_placesWhereHolds_49 : decode cX0_placesWhereHolds 49 = .ok (.getfield 15, 3) := by decide +kernel
theorem dX0_placesWhereHolds_52 : decode cX0_placesWhereHolds 52 = .ok (.iload_n 2, 1) := by decide +kernel
theorem dX0_placesWhereHolds_53 : decode cX0_placesWhereHolds 53 = .ok (.iaload, 1) := by decide +kernel
theorem dX0_placesWhereHolds_54 : decode cX0_placesWhereHolds 54 = .ok (.aload_n 0, 1) := by decide +kernel
theorem dX0_placesWhereHolds_55 : decode cX0_placesWhereHolds 55 = .ok (.getfield 18, 3) := by decide +kernel
theorem dX0_placesWhereHolds_58 : decode cX0_placesWhereHolds 58 = .ok (.iload_n 2, 1) := by decide +kernel
theorem dX0_placesWhereHolds_59 : decode cX0_placesWhereHolds 59 = .ok (.iaload, 1) := by decide +kernel
theorem dX0_placesWhereHolds_60 : decode cX0_placesWhereHolds 60 = .ok (.iload 4, 2) := by decide +kernel
theorem dX0_placesWhereHolds_62 : decode cX0_placesWhereHolds 62 = .ok (.invokestatic 116, 3) := by decide +kernel
theorem dX0_placesWhereHolds_65 : decode cX0_placesWhereHolds 65 = .ok (.istore 5, 2) := by decide +kernel
theorem dX0_placesWhereHolds_67 : decode cX0_placesWhereHolds 67 = .ok (.iload 5, 2) := by decide +kernel
theorem dX0_placesWhereHolds_69 : decode cX0_placesWhereHolds 69 = .ok (.aload_n 0, 1) := by decide +kernel
theorem dX0_placesWhereHolds_70 : decode cX0_placesWhereHolds 70 = .ok (.getfield 36, 3) := by decide +kernel
theorem dX0_placesWhereHolds_73 : decode cX0_placesWhereHolds 73 = .ok (.getfield 120, 3) := by decide +kernel
theorem dX0_placesWhereHolds_76 : decode cX0_placesWhereHolds 76 = .ok (.iload_n 1, 1) := by decide +kernel
theorem dX0_placesWhereHolds_77 : decode cX0_placesWhereHolds 77 = .ok (.iaload, 1) := by decide +kernel
theorem dX0_placesWhereHolds_78 : decode cX0_placesWhereHolds 78 = .ok (.if_icmp .ge 24, 3) := by decide +kernel
theorem dX0_placesWhereHolds_81 : decode cX0_placesWhereHolds 81 = .ok (.aload_n 0, 1) := by decide +kernel
theorem dX0_placesWhereHolds_82 : decode cX0_placesWhereHolds 82 = .ok (.getfield 36, 3) := by decide +kernel
theorem dX0_placesWhereHolds_85 : decode cX0_placesWhereHolds 85 = .ok (.iload_n 1, 1) := by decide +kernel
theorem dX0_placesWhereHolds_86 : decode cX0_placesWhereHolds 86 = .ok (.iload 5, 2) := by decide +kernel
theorem dX0_placesWhereHolds_88 : decode cX0_placesWhereHolds 88 = .ok (.invokevirtual 123, 3) := by decide +kernel
theorem dX0_placesWhereHolds_91 : decode cX0_placesWhereHolds 91 = .ok (.iconst 1, 1) := by decide +kernel
theorem dX0_placesWhereHolds_92 : decode cX0_placesWhereHolds 92 = .ok (.if_icmp .ne 10, 3) := by decide +kernel
theorem dX0_placesWhereHolds_95 : decode cX0_placesWhereHolds 95 = .ok (.iload_n 3, 1) := by decide +kernel
theorem dX0_placesWhereHolds_96 : decode cX0_placesWhereHolds 96 = .ok (.iconst 1, 1) := by decide +kernel
theorem dX0_placesWhereHolds_97 : decode cX0_placesWhereHolds 97 = .ok (.iload 4, 2) := by decide +kernel
theorem dX0_placesWhereHolds_99 : decode cX0_placesWhereHolds 99 = .ok (.ishl, 1) := by decide +kernel
theorem dX0_placesWhereHolds_100 : decode cX0_placesWhereHolds 100 = .ok (.ior, 1) := by decide +kernel
theorem dX0_placesWhereHolds_101 : decode cX0_placesWhereHolds 101 = .ok (.istore_n 3, 1) := by decide +kernel
theorem dX0_placesWhereHolds_102 : decode cX0_placesWhereHolds 102 = .ok (.iinc 4 1, 3) := by decide +kernel
theorem dX0_placesWhereHolds_105 : decode cX0_placesWhereHolds 105 = .ok (.goto (-68), 3) := by decide +kernel
theorem dX0_placesWhereHolds_108 : decode cX0_placesWhereHolds 108 = .ok (.iload_n 3, 1) := by decide +kernel
theorem dX0_placesWhereHolds_109 : decode cX0_placesWhereHolds 109 = .ok (.ireturn, 1) := by decide +kernel
theorem dX0_productWith_0 : decode cX0_productWith 0 = .ok (.iload_n 2, 1) := by decide +kernel
theorem dX0_productWith_1 : decode cX0_productWith 1 = .ok (.istore_n 3, 1) := by decide +kernel
theorem dX0_productWith_2 : decode cX0_productWith 2 = .ok (.iconst 0, 1) := by decide +kernel
theorem dX0_productWith_3 : decode cX0_productWith 3 = .ok (.istore 4, 2) := by decide +kernel
theorem dX0_productWith_5 : decode cX0_productWith 5 = .ok (.iload 4, 2) := by decide +kernel
theorem dX0_productWith_7 : decode cX0_productWith 7 = .ok (.bipush 16, 2) := by decide +kernel
theorem dX0_productWith_9 : decode cX0_productWith 9 = .ok (.if_icmp .ge 25, 3) := by decide +kernel
theorem dX0_productWith_12 : decode cX0_productWith 12 = .ok (.iload 4, 2) := by decide +kernel
theorem dX0_productWith_14 : decode cX0_productWith 14 = .ok (.iload_n 1, 1) := by decide +kernel
theorem dX0_productWith_15 : decode cX0_productWith 15 = .ok (.if_icmp .eq 13, 3) := by decide +kernel
theorem dX0_productWith_18 : decode cX0_productWith 18 = .ok (.iload_n 3, 1) := by decide +kernel
theorem dX0_productWith_19 : decode cX0_productWith 19 = .ok (.aload_n 0, 1) := by decide +kernel
theorem dX0_productWith_20 : decode cX0_productWith 20 = .ok (.getfield 18, 3) := by decide +kernel
theorem dX0_productWith_23 : decode cX0_productWith 23 = .ok (.iload 4, 2) := by decide +kernel
theorem dX0_productWith_25 : decode cX0_productWith 25 = .ok (.iaload, 1) := by decide +kernel
theorem dX0_productWith_26 : decode cX0_productWith 26 = .ok (.imul, 1) := by decide +kernel
theorem dX0_productWith_27 : decode cX0_productWith 27 = .ok (.istore_n 3, 1) := by decide +kernel
theorem dX0_productWith_28 : decode cX0_productWith 28 = .ok (.iinc 4 1, 3) := by decide +kernel
theorem dX0_productWith_31 : decode cX0_productWith 31 = .ok (.goto (-26), 3) := by decide +kernel
theorem dX0_productWith_34 : decode cX0_productWith 34 = .ok (.iload_n 3, 1) := by decide +kernel
theorem dX0_productWith_35 : decode cX0_productWith 35 = .ok (.ireturn, 1) := by decide +kernel
theorem dX0_findingAt_0 : decode cX0_findingAt 0 = .ok (.aload_n 0, 1) := by decide +kernel
theorem dX0_findingAt_1 : decode cX0_findingAt 1 = .ok (.getfield 9, 3) := by decide +kernel
theorem dX0_findingAt_4 : decode cX0_findingAt 4 = .ok (.iload_n 1, 1) := by decide +kernel
theorem dX0_findingAt_5 : decode cX0_findingAt 5 = .ok (.iconst 4, 1) := by decide +kernel
theorem dX0_findingAt_6 : decode cX0_findingAt 6 = .ok (.idiv, 1) := by decide +kernel
theorem dX0_findingAt_7 : decode cX0_findingAt 7 = .ok (.iaload, 1) := by decide +kernel
theorem dX0_findingAt_8 : decode cX0_findingAt 8 = .ok (.istore_n 3, 1) := by decide +kernel
theorem dX0_findingAt_9 : decode cX0_findingAt 9 = .ok (.iload_n 3, 1) := by decide +kernel
theorem dX0_findingAt_10 : decode cX0_findingAt 10 = .ok (.iconst (-1), 1) := by decide +kernel
theorem dX0_findingAt_11 : decode cX0_findingAt 11 = .ok (.if_icmp .ne 5, 3) := by decide +kernel
theorem dX0_findingAt_14 : decode cX0_findingAt 14 = .ok (.iconst 1, 1) := by decide +kernel
theorem dX0_findingAt_15 : decode cX0_findingAt 15 = .ok (.ireturn, 1) := by decide +kernel
theorem dX0_findingAt_16 : decode cX0_findingAt 16 = .ok (.iload_n 1, 1) := by decide +kernel
theorem dX0_findingAt_17 : decode cX0_findingAt 17 = .ok (.iconst 4, 1) := by decide +kernel
theorem dX0_findingAt_18 : decode cX0_findingAt 18 = .ok (.irem, 1) := by decide +kernel
theorem dX0_findingAt_19 : decode cX0_findingAt 19 = .ok (.iload_n 3, 1) := by decide +kernel
theorem dX0_findingAt_20 : decode cX0_findingAt 20 = .ok (.if_icmp .lt 5, 3) := by decide +kernel
theorem dX0_findingAt_23 : decode cX0_findingAt 23 = .ok (.iconst 2, 1) := by decide +kernel
theorem dX0_findingAt_24 : decode cX0_findingAt 24 = .ok (.ireturn, 1) := by decide +kernel
theorem dX0_findingAt_25 : decode cX0_findingAt 25 = .ok (.iload_n 2, 1) := by decide +kernel
theorem dX0_findingAt_26 : decode cX0_findingAt 26 = .ok (.ifCond .eq 17, 3) := by decide +kernel
theorem dX0_findingAt_29 : decode cX0_findingAt 29 = .ok (.aload_n 0, 1) := by decide +kernel
theorem dX0_findingAt_30 : decode cX0_findingAt 30 = .ok (.getfield 15, 3) := by decide +kernel
theorem dX0_findingAt_33 : decode cX0_findingAt 33 = .ok (.iload_n 1, 1) := by decide +kernel
theorem dX0_findingAt_34 : decode cX0_findingAt 34 = .ok (.iaload, 1) := by decide +kernel
theorem dX0_findingAt_35 : decode cX0_findingAt 35 = .ok (.iconst (-1), 1) := by decide +kernel
theorem dX0_findingAt_36 : decode cX0_findingAt 36 = .ok (.if_icmp .ne 7, 3) := by decide +kernel
theorem dX0_findingAt_39 : decode cX0_findingAt 39 = .ok (.iconst 1, 1) := by decide +kernel
theorem dX0_findingAt_40 : decode cX0_findingAt 40 = .ok (.goto 4, 3) := by decide +kernel
theorem dX0_findingAt_43 : decode cX0_findingAt 43 = .ok (.iconst 0, 1) := by decide +kernel
theorem dX0_findingAt_44 : decode cX0_findingAt 44 = .ok (.ireturn, 1) := by decide +kernel
theorem dX0_number_0 : decode cX0_number 0 = .ok (.iconst 0, 1) := by decide +kernel
theorem dX0_number_1 : decode cX0_number 1 = .ok (.istore_n 1, 1) := by decide +kernel
theorem dX0_number_2 : decode cX0_number 2 = .ok (.iconst 0, 1) := by decide +kernel
theorem dX0_number_3 : decode cX0_number 3 = .ok (.istore_n 2, 1) := by decide +kernel
theorem dX0_number_4 : decode cX0_number 4 = .ok (.iload_n 2, 1) := by decide +kernel
theorem dX0_number_5 : decode cX0_number 5 = .ok (.bipush 16, 2) := by decide +kernel
theorem dX0_number_7 : decode cX0_number 7 = .ok (.if_icmp .ge 25, 3) := by decide +kernel
theorem dX0_number_10 : decode cX0_number 10 = .ok (.iload_n 1, 1) := by decide +kernel
theorem dX0_number_11 : decode cX0_number 11 = .ok (.aload_n 0, 1) := by decide +kernel
theorem dX0_number_12 : decode cX0_number 12 = .ok (.getfield 21, 3) := by decide +kernel
theorem dX0_number_15 : decode cX0_number 15 = .ok (.iload_n 2, 1) := by decide +kernel
theorem dX0_number_16 : decode cX0_number 16 = .ok (.iaload, 1) := by decide +kernel
theorem dX0_number_17 : decode cX0_number 17 = .ok (.aload_n 0, 1) := by decide +kernel
theorem dX0_number_18 : decode cX0_number 18 = .ok (.getfield 27, 3) := by decide +kernel
theorem dX0_number_21 : decode cX0_number 21 = .ok (.iload_n 2, 1) := by decide +kernel
theorem dX0_number_22 : decode cX0_number 22 = .ok (.iaload, 1) := by decide +kernel
theorem dX0_number_23 : decode cX0_number 23 = .ok (.imul, 1) := by decide +kernel
theorem dX0_number_24 : decode cX0_number 24 = .ok (.iadd, 1) := by decide +kernel
theorem dX0_number_25 : decode cX0_number 25 = .ok (.istore_n 1, 1) := by decide +kernel
theorem dX0_number_26 : decode cX0_number 26 = .ok (.iinc 2 1, 3) := by decide +kernel
theorem dX0_number_29 : decode cX0_number 29 = .ok (.goto (-25), 3) := by decide +kernel
theorem dX0_number_32 : decode cX0_number 32 = .ok (.iload_n 1, 1) := by decide +kernel
theorem dX0_number_33 : decode cX0_number 33 = .ok (.ireturn, 1) := by decide +kernel
theorem dX0_standAt_0 : decode cX0_standAt 0 = .ok (.iload_n 1, 1) := by decide +kernel
theorem dX0_standAt_1 : decode cX0_standAt 1 = .ok (.istore_n 2, 1) := by decide +kernel
theorem dX0_standAt_2 : decode cX0_standAt 2 = .ok (.iconst 0, 1) := by decide +kernel
theorem dX0_standAt_3 : decode cX0_standAt 3 = .ok (.istore_n 3, 1) := by decide +kernel
theorem dX0_standAt_4 : decode cX0_standAt 4 = .ok (.iload_n 3, 1) := by decide +kernel
theorem dX0_standAt_5 : decode cX0_standAt 5 = .ok (.bipush 16, 2) := by decide +kernel
theorem dX0_standAt_7 : decode cX0_standAt 7 = .ok (.if_icmp .ge 42, 3) := by decide +kernel
theorem dX0_standAt_10 : decode cX0_standAt 10 = .ok (.aload_n 0, 1) := by decide +kernel
theorem dX0_standAt_11 : decode cX0_standAt 11 = .ok (.getfield 18, 3) := by decide +kernel
theorem dX0_standAt_14 : decode cX0_standAt 14 = .ok (.iload_n 3, 1) := by decide +kernel
theorem dX0_standAt_15 : decode cX0_standAt 15 = .ok (.iaload, 1) := by decide +kernel
theorem dX0_standAt_16 : decode cX0_standAt 16 = .ok (.iconst 1, 1) := by decide +kernel
theorem dX0_standAt_17 : decode cX0_standAt 17 = .ok (.if_icmp .le 26, 3) := by decide +kernel
theorem dX0_standAt_20 : decode cX0_standAt 20 = .ok (.aload_n 0, 1) := by decide +kernel
theorem dX0_standAt_21 : decode cX0_standAt 21 = .ok (.getfield 21, 3) := by decide +kernel
theorem dX0_standAt_24 : decode cX0_standAt 24 = .ok (.iload_n 3, 1) := by decide +kernel
theorem dX0_standAt_25 : decode cX0_standAt 25 = .ok (.iload_n 2, 1) := by decide +kernel
theorem dX0_standAt_26 : decode cX0_standAt 26 = .ok (.aload_n 0, 1) := by decide +kernel
theorem dX0_standAt_27 : decode cX0_standAt 27 = .ok (.getfield 18, 3) := by decide +kernel
theorem dX0_standAt_30 : decode cX0_standAt 30 = .ok (.iload_n 3, 1) := by decide +kernel
theorem dX0_standAt_31 : decode cX0_standAt 31 = .ok (.iaload, 1) := by decide +kernel
theorem dX0_standAt_32 : decode cX0_standAt 32 = .ok (.irem, 1) := by decide +kernel
theorem dX0_standAt_33 : decode cX0_standAt 33 = .ok (.iastore, 1) := by decide +kernel
theorem dX0_standAt_34 : decode cX0_standAt 34 = .ok (.iload_n 2, 1) := by decide +kernel
theorem dX0_standAt_35 : decode cX0_standAt 35 = .ok (.aload_n 0, 1) := by decide +kernel
theorem dX0_standAt_36 : decode cX0_standAt 36 = .ok (.getfield 18, 3) := by decide +kernel
theorem dX0_standAt_39 : decode cX0_standAt 39 = .ok (.iload_n 3, 1) := by decide +kernel
theorem dX0_standAt_40 : decode cX0_standAt 40 = .ok (.iaload, 1) := by decide +kernel
theorem dX0_standAt_41 : decode cX0_standAt 41 = .ok (.idiv, 1) := by decide +kernel
theorem dX0_standAt_42 : decode cX0_standAt 42 = .ok (.istore_n 2, 1) := by decide +kernel
theorem dX0_standAt_43 : decode cX0_standAt 43 = .ok (.iinc 3 1, 3) := by decide +kernel
theorem dX0_standAt_46 : decode cX0_standAt 46 = .ok (.goto (-42), 3) := by decide +kernel
theorem dX0_standAt_49 : decode cX0_standAt 49 = .ok (.return_, 1) := by decide +kernel
theorem dX0_numberTold_0 : decode cX0_numberTold 0 = .ok (.iload_n 0, 1) := by decide +kernel
theorem dX0_numberTold_1 : decode cX0_numberTold 1 = .ok (.tableswitch 62 1 4 #[31, 62, 46, 52], 31) := by decide +kernel
theorem dX0_numberTold_32 : decode cX0_numberTold 32 = .ok (.iload_n 2, 1) := by decide +kernel
theorem dX0_numberTold_33 : decode cX0_numberTold 33 = .ok (.iconst 1, 1) := by decide +kernel
theorem dX0_numberTold_34 : decode cX0_numberTold 34 = .ok (.iadd, 1) := by decide +kernel
theorem dX0_numberTold_35 : decode cX0_numberTold 35 = .ok (.iload_n 1, 1) := by decide +kernel
theorem dX0_numberTold_36 : decode cX0_numberTold 36 = .ok (.if_icmp .ge 9, 3) := by decide +kernel
theorem dX0_numberTold_39 : decode cX0_numberTold 39 = .ok (.iload_n 2, 1) := by decide +kernel
theorem dX0_numberTold_40 : decode cX0_numberTold 40 = .ok (.iconst 1, 1) := by decide +kernel
theorem dX0_numberTold_41 : decode cX0_numberTold 41 = .ok (.iadd, 1) := by decide +kernel
theorem dX0_numberTold_42 : decode cX0_numberTold 42 = .ok (.goto 4, 3) := by decide +kernel
theorem dX0_numberTold_45 : decode cX0_numberTold 45 = .ok (.iconst 0, 1) := by decide +kernel
theorem dX0_numberTold_46 : decode cX0_numberTold 46 = .ok (.ireturn, 1) := by decide +kernel
theorem dX0_numberTold_47 : decode cX0_numberTold 47 = .ok (.iload_n 1, 1) := by decide +kernel
theorem dX0_numberTold_48 : decode cX0_numberTold 48 = .ok (.iconst 1, 1) := by decide +kernel
theorem dX0_numberTold_49 : decode cX0_numberTold 49 = .ok (.isub, 1) := by decide +kernel
theorem dX0_numberTold_50 : decode cX0_numberTold 50 = .ok (.iload_n 2, 1) := by decide +kernel
theorem dX0_numberTold_51 : decode cX0_numberTold 51 = .ok (.isub, 1) := by decide +kernel
theorem dX0_numberTold_52 : decode cX0_numberTold 52 = .ok (.ireturn, 1) := by decide +kernel
theorem dX0_numberTold_53 : decode cX0_numberTold 53 = .ok (.iload_n 2, 1) := by decide +kernel
theorem dX0_numberTold_54 : decode cX0_numberTold 54 = .ok (.ifCond .ne 7, 3) := by decide +kernel
theorem dX0_numberTold_57 : decode cX0_numberTold 57 = .ok (.iconst 0, 1) := by decide +kernel
theorem dX0_numberTold_58 : decode cX0_numberTold 58 = .ok (.goto 4, 3) := by decide +kernel
theorem dX0_numberTold_61 : decode cX0_numberTold 61 = .ok (.iconst 1, 1) := by decide +kernel
theorem dX0_numberTold_62 : decode cX0_numberTold 62 = .ok (.ireturn, 1) := by decide +kernel
theorem dX0_numberTold_63 : decode cX0_numberTold 63 = .ok (.iload_n 2, 1) := by decide +kernel
theorem dX0_numberTold_64 : decode cX0_numberTold 64 = .ok (.ireturn, 1) := by decide +kernel
theorem dX0_judge_0 : decode cX0_judge 0 = .ok (.aload_n 0, 1) := by decide +kernel
theorem dX0_judge_1 : decode cX0_judge 1 = .ok (.getfield 36, 3) := by decide +kernel
theorem dX0_judge_4 : decode cX0_judge 4 = .ok (.getfield 113, 3) := by decide +kernel
theorem dX0_judge_7 : decode cX0_judge 7 = .ok (.iload_n 1, 1) := by decide +kernel
theorem dX0_judge_8 : decode cX0_judge 8 = .ok (.iaload, 1) := by decide +kernel
theorem dX0_judge_9 : decode cX0_judge 9 = .ok (.istore_n 3, 1) := by decide +kernel
theorem dX0_judge_10 : decode cX0_judge 10 = .ok (.aload_n 0, 1) := by decide +kernel
theorem dX0_judge_11 : decode cX0_judge 11 = .ok (.iload_n 3, 1) := by decide +kernel
theorem dX0_judge_12 : decode cX0_judge 12 = .ok (.iconst 1, 1) := by decide +kernel
theorem dX0_judge_13 : decode cX0_judge 13 = .ok (.invokevirtual 127, 3) := by decide +kernel
theorem dX0_judge_16 : decode cX0_judge 16 = .ok (.istore 4, 2) := by decide +kernel
theorem dX0_judge_18 : decode cX0_judge 18 = .ok (.iload 4, 2) := by decide +kernel
theorem dX0_judge_20 : decode cX0_judge 20 = .ok (.ifCond .eq 7, 3) := by decide +kernel
theorem dX0_judge_23 : decode cX0_judge 23 = .ok (.iload 4, 2) := by decide +kernel
theorem dX0_judge_25 : decode cX0_judge 25 = .ok (.ineg, 1) := by decide +kernel
theorem dX0_judge_26 : decode cX0_judge 26 = .ok (.ireturn, 1) := by decide +kernel
theorem dX0_judge_27 : decode cX0_judge 27 = .ok (.aload_n 0, 1) := by decide +kernel
theorem dX0_judge_28 : decode cX0_judge 28 = .ok (.getfield 15, 3) := by decide +kernel
theorem dX0_judge_31 : decode cX0_judge 31 = .ok (.iload_n 3, 1) := by decide +kernel
theorem dX0_judge_32 : decode cX0_judge 32 = .ok (.iaload, 1) := by decide +kernel
theorem dX0_judge_33 : decode cX0_judge 33 = .ok (.iconst 5, 1) := by decide +kernel
theorem dX0_judge_34 : decode cX0_judge 34 = .ok (.if_icmp .ne 6, 3) := by decide +kernel
theorem dX0_judge_37 : decode cX0_judge 37 = .ok (.bipush (-3), 2) := by decide +kernel
theorem dX0_judge_39 : decode cX0_judge 39 = .ok (.ireturn, 1) := by decide +kernel
theorem dX0_judge_40 : decode cX0_judge 40 = .ok (.iload_n 2, 1) := by decide +kernel
theorem dX0_judge_41 : decode cX0_judge 41 = .ok (.ifCond .eq 16, 3) := by decide +kernel
theorem dX0_judge_44 : decode cX0_judge 44 = .ok (.aload_n 0, 1) := by decide +kernel
theorem dX0_judge_45 : decode cX0_judge 45 = .ok (.getfield 47, 3) := by decide +kernel
theorem dX0_judge_48 : decode cX0_judge 48 = .ok (.aload_n 0, 1) := by decide +kernel
theorem dX0_judge_49 : decode cX0_judge 49 = .ok (.getfield 15, 3) := by decide +kernel
theorem dX0_judge_52 : decode cX0_judge 52 = .ok (.iload_n 3, 1) := by decide +kernel
theorem dX0_judge_53 : decode cX0_judge 53 = .ok (.iaload, 1) := by decide +kernel
theorem dX0_judge_54 : decode cX0_judge 54 = .ok (.invokevirtual 131, 3) := by decide +kernel
theorem dX0_judge_57 : decode cX0_judge 57 = .ok (.aload_n 0, 1) := by decide +kernel
theorem dX0_judge_58 : decode cX0_judge 58 = .ok (.getfield 15, 3) := by decide +kernel
theorem dX0_judge_61 : decode cX0_judge 61 = .ok (.iload_n 3, 1) := by decide +kernel
theorem dX0_judge_62 : decode cX0_judge 62 = .ok (.iaload, 1) := by decide +kernel
theorem dX0_judge_63 : decode cX0_judge 63 = .ok (.aload_n 0, 1) := by decide +kernel
theorem dX0_judge_64 : decode cX0_judge 64 = .ok (.getfield 18, 3) := by decide +kernel
theorem dX0_judge_67 : decode cX0_judge 67 = .ok (.iload_n 3, 1) := by decide +kernel
theorem dX0_judge_68 : decode cX0_judge 68 = .ok (.iaload, 1) := by decide +kernel
theorem dX0_judge_69 : decode cX0_judge 69 = .ok (.aload_n 0, 1) := by decide +kernel
theorem dX0_judge_70 : decode cX0_judge 70 = .ok (.getfield 21, 3) := by decide +kernel
theorem dX0_judge_73 : decode cX0_judge 73 = .ok (.iload_n 3, 1) := by decide +kernel
theorem dX0_judge_74 : decode cX0_judge 74 = .ok (.iaload, 1) := by decide +kernel
theorem dX0_judge_75 : decode cX0_judge 75 = .ok (.invokestatic 116, 3) := by decide +kernel
theorem dX0_judge_78 : decode cX0_judge 78 = .ok (.istore 5, 2) := by decide +kernel
theorem dX0_judge_80 : decode cX0_judge 80 = .ok (.aload_n 0, 1) := by decide +kernel
theorem dX0_judge_81 : decode cX0_judge 81 = .ok (.getfield 36, 3) := by decide +kernel
theorem dX0_judge_84 : decode cX0_judge 84 = .ok (.iload_n 1, 1) := by decide +kernel
theorem dX0_judge_85 : decode cX0_judge 85 = .ok (.iload 5, 2) := by decide +kernel
theorem dX0_judge_87 : decode cX0_judge 87 = .ok (.iconst 1, 1) := by decide +kernel
theorem dX0_judge_88 : decode cX0_judge 88 = .ok (.invokevirtual 137, 3) := by decide +kernel
theorem dX0_judge_91 : decode cX0_judge 91 = .ok (.istore 4, 2) := by decide +kernel
theorem dX0_judge_93 : decode cX0_judge 93 = .ok (.iload 4, 2) := by decide +kernel
theorem dX0_judge_95 : decode cX0_judge 95 = .ok (.ifCond .eq 9, 3) := by decide +kernel
theorem dX0_judge_98 : decode cX0_judge 98 = .ok (.iload 4, 2) := by decide +kernel
theorem dX0_judge_100 : decode cX0_judge 100 = .ok (.ineg, 1) := by decide +kernel
theorem dX0_judge_101 : decode cX0_judge 101 = .ok (.goto 13, 3) := by decide +kernel
theorem dX0_judge_104 : decode cX0_judge 104 = .ok (.aload_n 0, 1) := by decide +kernel
theorem dX0_judge_105 : decode cX0_judge 105 = .ok (.getfield 36, 3) := by decide +kernel
theorem dX0_judge_108 : decode cX0_judge 108 = .ok (.iload_n 1, 1) := by decide +kernel
theorem dX0_judge_109 : decode cX0_judge 109 = .ok (.iload 5, 2) := by decide +kernel
theorem dX0_judge_111 : decode cX0_judge 111 = .ok (.invokevirtual 123, 3) := by decide +kernel
theorem dX0_judge_114 : decode cX0_judge 114 = .ok (.ireturn, 1) := by decide +kernel
theorem dX0_firstThatFails_0 : decode cX0_firstThatFails 0 = .ok (.aload_n 0, 1) := by decide +kernel
theorem dX0_firstThatFails_1 : decode cX0_firstThatFails 1 = .ok (.getfield 36, 3) := by decide +kernel
theorem dX0_firstThatFails_4 : decode cX0_firstThatFails 4 = .ok (.getfield 140, 3) := by decide +kernel
theorem dX0_firstThatFails_7 : decode cX0_firstThatFails 7 = .ok (.iload_n 1, 1) := by decide +kernel
theorem dX0_firstThatFails_8 : decode cX0_firstThatFails 8 = .ok (.iconst 1, 1) := by decide +kernel
theorem dX0_firstThatFails_9 : decode cX0_firstThatFails 9 = .ok (.iadd, 1) := by decide +kernel
theorem dX0_firstThatFails_10 : decode cX0_firstThatFails 10 = .ok (.iaload, 1) := by decide +kernel
theorem dX0_firstThatFails_11 : decode cX0_firstThatFails 11 = .ok (.istore_n 3, 1) := by decide +kernel
theorem dX0_firstThatFails_12 : decode cX0_firstThatFails 12 = .ok (.iload_n 3, 1) := by decide +kernel
theorem dX0_firstThatFails_13 : decode cX0_firstThatFails 13 = .ok (.aload_n 0, 1) := by decide +kernel
theorem dX0_firstThatFails_14 : decode cX0_firstThatFails 14 = .ok (.getfield 36, 3) := by decide +kernel
theorem dX0_firstThatFails_17 : decode cX0_firstThatFails 17 = .ok (.getfield 140, 3) := by decide +kernel
theorem dX0_firstThatFails_20 : decode cX0_firstThatFails 20 = .ok (.iload_n 1, 1) := by decide +kernel
theorem dX0_firstThatFails_21 : decode cX0_firstThatFails 21 = .ok (.iconst 2, 1) := by decide +kernel
theorem dX0_firstThatFails_22 : decode cX0_firstThatFails 22 = .ok (.iadd, 1) := by decide +kernel
theorem dX0_firstThatFails_23 : decode cX0_firstThatFails 23 = .ok (.iaload, 1) := by decide +kernel
theorem dX0_firstThatFails_24 : decode cX0_firstThatFails 24 = .ok (.if_icmp .ge 89, 3) := by decide +kernel
theorem dX0_firstThatFails_27 : decode cX0_firstThatFails 27 = .ok (.aload_n 0, 1) := by decide +kernel
theorem dX0_firstThatFails_28 : decode cX0_firstThatFails 28 = .ok (.getfield 36, 3) := by decide +kernel
theorem dX0_firstThatFails_31 : decode cX0_firstThatFails 31 = .ok (.getfield 143, 3) := by decide +kernel
theorem dX0_firstThatFails_34 : decode cX0_firstThatFails 34 = .ok (.iload_n 3, 1) := by decide +kernel
theorem dX0_firstThatFails_35 : decode cX0_firstThatFails 35 = .ok (.iaload, 1) := by decide +kernel
theorem dX0_firstThatFails_36 : decode cX0_firstThatFails 36 = .ok (.istore 4, 2) := by decide +kernel
theorem dX0_firstThatFails_38 : decode cX0_firstThatFails 38 = .ok (.iload_n 2, 1) := by decide +kernel
theorem dX0_firstThatFails_39 : decode cX0_firstThatFails 39 = .ok (.ifCond .eq 13, 3) := by decide +kernel
theorem dX0_firstThatFails_42 : decode cX0_firstThatFails 42 = .ok (.aload_n 0, 1) := by decide +kernel
theorem dX0_firstThatFails_43 : decode cX0_firstThatFails 43 = .ok (.iload 4, 2) := by decide +kernel
theorem dX0_firstThatFails_45 : decode cX0_firstThatFails 45 = .ok (.iconst 1, 1) := by decide +kernel
theorem dX0_firstThatFails_46 : decode cX0_firstThatFails 46 = .ok (.invokevirtual 146, 3) := by decide +kernel
theorem dX0_firstThatFails_49 : decode cX0_firstThatFails 49 = .ok (.goto 31, 3) := by decide +kernel
theorem dX0_firstThatFails_52 : decode cX0_firstThatFails 52 = .ok (.aload_n 0, 1) := by decide +kernel
theorem dX0_firstThatFails_53 : decode cX0_firstThatFails 53 = .ok (.getfield 36, 3) := by decide +kernel
theorem dX0_firstThatFails_56 : decode cX0_firstThatFails 56 = .ok (.getfield 106, 3) := by decide +kernel
theorem dX0_firstThatFails_59 : decode cX0_firstThatFails 59 = .ok (.iload 4, 2) := by decide +kernel
theorem dX0_firstThatFails_61 : decode cX0_firstThatFails 61 = .ok (.iaload, 1) := by decide +kernel
theorem dX0_firstThatFails_62 : decode cX0_firstThatFails 62 = .ok (.aload_n 0, 1) := by decide +kernel
theorem dX0_firstThatFails_63 : decode cX0_firstThatFails 63 = .ok (.getfield 21, 3) := by decide +kernel
theorem dX0_firstThatFails_66 : decode cX0_firstThatFails 66 = .ok (.aload_n 0, 1) := by decide +kernel
theorem dX0_firstThatFails_67 : decode cX0_firstThatFails 67 = .ok (.getfield 36, 3) := by decide +kernel
theorem dX0_firstThatFails_70 : decode cX0_firstThatFails 70 = .ok (.getfield 113, 3) := by decide +kernel
theorem dX0_firstThatFails_73 : decode cX0_firstThatFails 73 = .ok (.iload 4, 2) := by decide +kernel
theorem dX0_firstThatFails_75 : decode cX0_firstThatFails 75 = .ok (.iaload, 1) := by decide +kernel
theorem dX0_firstThatFails_76 : decode cX0_firstThatFails 76 = .ok (.iaload, 1) := by decide +kernel
theorem dX0_firstThatFails_77 : decode cX0_firstThatFails 77 = .ok (.ishr, 1) := by decide +kernel
theorem dX0_firstThatFails_78 : decode cX0_firstThatFails 78 = .ok (.iconst 1, 1) := by decide +kernel
theorem dX0_firstThatFails_79 : decode cX0_firstThatFails 79 = .ok (.iand, 1) := by decide +kernel
theorem dX0_firstThatFails_80 : decode cX0_firstThatFails 80 = .ok (.istore 5, 2) := by decide +kernel
theorem dX0_firstThatFails_82 : decode cX0_firstThatFails 82 = .ok (.iload 5, 2) := by decide +kernel
theorem dX0_firstThatFails_84 : decode cX0_firstThatFails 84 = .ok (.ifCond .ge 14, 3) := by decide +kernel
theorem dX0_firstThatFails_87 : decode cX0_firstThatFails 87 = .ok (.aload_n 0, 1) := by decide +kernel
theorem dX0_firstThatFails_88 : decode cX0_firstThatFails 88 = .ok (.getfield 47, 3) := by decide +kernel
theorem dX0_firstThatFails_91 : decode cX0_firstThatFails 91 = .ok (.iload 5, 2) := by decide +kernel
theorem dX0_firstThatFails_93 : decode cX0_firstThatFails 93 = .ok (.ineg, 1) := by decide +kernel
theorem dX0_firstThatFails_94 : decode cX0_firstThatFails 94 = .ok (.invokevirtual 149, 3) := by decide +kernel
theorem dX0_firstThatFails_97 : decode cX0_firstThatFails 97 = .ok (.pop, 1) := by decide +kernel
theorem dX0_firstThatFails_98 : decode cX0_firstThatFails 98 = .ok (.iload 5, 2) := by decide +kernel
theorem dX0_firstThatFails_100 : decode cX0_firstThatFails 100 = .ok (.iconst 1, 1) := by decide +kernel
theorem dX0_firstThatFails_101 : decode cX0_firstThatFails 101 = .ok (.if_icmp .eq 6, 3) := by decide +kernel
theorem dX0_firstThatFails_104 : decode cX0_firstThatFails 104 = .ok (.iload 4, 2) := by decide +kernel
theorem dX0_firstThatFails_106 : decode cX0_firstThatFails 106 = .ok (.ireturn, 1) := by decide +kernel
theorem dX0_firstThatFails_107 : decode cX0_firstThatFails 107 = .ok (.iinc 3 1, 3) := by decide +kernel
theorem dX0_firstThatFails_110 : decode cX0_firstThatFails 110 = .ok (.goto (-98), 3) := by decide +kernel
theorem dX0_firstThatFails_113 : decode cX0_firstThatFails 113 = .ok (.iconst (-1), 1) := by decide +kernel
theorem dX0_firstThatFails_114 : decode cX0_firstThatFails 114 = .ok (.ireturn, 1) := by decide +kernel
theorem dX0_opens_0 : decode cX0_opens 0 = .ok (.aload_n 0, 1) := by decide +kernel
theorem dX0_opens_1 : decode cX0_opens 1 = .ok (.getfield 36, 3) := by decide +kernel
theorem dX0_opens_4 : decode cX0_opens 4 = .ok (.iconst (-1), 1) := by decide +kernel
theorem dX0_opens_5 : decode cX0_opens 5 = .ok (.invokevirtual 152, 3) := by decide +kernel
theorem dX0_opens_8 : decode cX0_opens 8 = .ok (.ifCond .eq 17, 3) := by decide +kernel
theorem dX0_opens_11 : decode cX0_opens 11 = .ok (.aload_n 0, 1) := by decide +kernel
theorem dX0_opens_12 : decode cX0_opens 12 = .ok (.iconst (-1), 1) := by decide +kernel
theorem dX0_opens_13 : decode cX0_opens 13 = .ok (.iload_n 1, 1) := by decide +kernel
theorem dX0_opens_14 : decode cX0_opens 14 = .ok (.invokevirtual 155, 3) := by decide +kernel
theorem dX0_opens_17 : decode cX0_opens 17 = .ok (.iconst (-1), 1) := by decide +kernel
theorem dX0_opens_18 : decode cX0_opens 18 = .ok (.if_icmp .ne 7, 3) := by decide +kernel
theorem dX0_opens_21 : decode cX0_opens 21 = .ok (.iconst 1, 1) := by decide +kernel
theorem dX0_opens_22 : decode cX0_opens 22 = .ok (.goto 4, 3) := by decide +kernel
theorem dX0_opens_25 : decode cX0_opens 25 = .ok (.iconst 0, 1) := by decide +kernel
theorem dX0_opens_26 : decode cX0_opens 26 = .ok (.ireturn, 1) := by decide +kernel
theorem dX0_isHandled_0 : decode cX0_isHandled 0 = .ok (.iload_n 0, 1) := by decide +kernel
theorem dX0_isHandled_1 : decode cX0_isHandled 1 = .ok (.ifCond .eq 13, 3) := by decide +kernel
theorem dX0_isHandled_4 : decode cX0_isHandled 4 = .ok (.iload_n 0, 1) := by decide +kernel
theorem dX0_isHandled_5 : decode cX0_isHandled 5 = .ok (.iconst 1, 1) := by decide +kernel
theorem dX0_isHandled_6 : decode cX0_isHandled 6 = .ok (.if_icmp .eq 8, 3) := by decide +kernel
theorem dX0_isHandled_9 : decode cX0_isHandled 9 = .ok (.iload_n 0, 1) := by decide +kernel
theorem dX0_isHandled_10 : decode cX0_isHandled 10 = .ok (.iconst 4, 1) := by decide +kernel
theorem dX0_isHandled_11 : decode cX0_isHandled 11 = .ok (.if_icmp .ne 7, 3) := by decide +kernel
theorem dX0_isHandled_14 : decode cX0_isHandled 14 = .ok (.iconst 1, 1) := by decide +kernel
theorem dX0_isHandled_15 : decode cX0_isHandled 15 = .ok (.goto 4, 3) := by decide +kernel
theorem dX0_isHandled_18 : decode cX0_isHandled 18 = .ok (.iconst 0, 1) := by decide +kernel
theorem dX0_isHandled_19 : decode cX0_isHandled 19 = .ok (.ireturn, 1) := by decide +kernel
theorem dX0_isFaller_0 : decode cX0_isFaller 0 = .ok (.iload_n 0, 1) := by decide +kernel
theorem dX0_isFaller_1 : decode cX0_isFaller 1 = .ok (.iconst 2, 1) := by decide +kernel
theorem dX0_isFaller_2 : decode cX0_isFaller 2 = .ok (.if_icmp .eq 8, 3) := by decide +kernel
theorem dX0_isFaller_5 : decode cX0_isFaller 5 = .ok (.iload_n 0, 1) := by decide +kernel
theorem dX0_isFaller_6 : decode cX0_isFaller 6 = .ok (.iconst 3, 1) := by decide +kernel
theorem dX0_isFaller_7 : decode cX0_isFaller 7 = .ok (.if_icmp .ne 7, 3) := by decide +kernel
theorem dX0_isFaller_10 : decode cX0_isFaller 10 = .ok (.iconst 1, 1) := by decide +kernel
theorem dX0_isFaller_11 : decode cX0_isFaller 11 = .ok (.goto 4, 3) := by decide +kernel
theorem dX0_isFaller_14 : decode cX0_isFaller 14 = .ok (.iconst 0, 1) := by decide +kernel
theorem dX0_isFaller_15 : decode cX0_isFaller 15 = .ok (.ireturn, 1) := by decide +kernel
theorem dX0_bodyOfGoing_0 : decode cX0_bodyOfGoing 0 = .ok (.iload_n 0, 1) := by decide +kernel
theorem dX0_bodyOfGoing_1 : decode cX0_bodyOfGoing 1 = .ok (.lookupswitch 33 #[(1, 27), (4, 30)], 27) := by decide +kernel
theorem dX0_bodyOfGoing_28 : decode cX0_bodyOfGoing 28 = .ok (.bipush 12, 2) := by decide +kernel
theorem dX0_bodyOfGoing_30 : decode cX0_bodyOfGoing 30 = .ok (.ireturn, 1) := by decide +kernel
theorem dX0_bodyOfGoing_31 : decode cX0_bodyOfGoing 31 = .ok (.bipush 14, 2) := by decide +kernel
theorem dX0_bodyOfGoing_33 : decode cX0_bodyOfGoing 33 = .ok (.ireturn, 1) := by decide +kernel
theorem dX0_bodyOfGoing_34 : decode cX0_bodyOfGoing 34 = .ok (.bipush 11, 2) := by decide +kernel
theorem dX0_bodyOfGoing_36 : decode cX0_bodyOfGoing 36 = .ok (.ireturn, 1) := by decide +kernel
theorem dX0_goalOf_0 : decode cX0_goalOf 0 = .ok (.iload_n 1, 1) := by decide +kernel
theorem dX0_goalOf_1 : decode cX0_goalOf 1 = .ok (.iconst 2, 1) := by decide +kernel
theorem dX0_goalOf_2 : decode cX0_goalOf 2 = .ok (.idiv, 1) := by decide +kernel
theorem dX0_goalOf_3 : decode cX0_goalOf 3 = .ok (.istore_n 2, 1) := by decide +kernel
theorem dX0_goalOf_4 : decode cX0_goalOf 4 = .ok (.iload_n 1, 1) := by decide +kernel
theorem dX0_goalOf_5 : decode cX0_goalOf 5 = .ok (.iconst 2, 1) := by decide +kernel
theorem dX0_goalOf_6 : decode cX0_goalOf 6 = .ok (.irem, 1) := by decide +kernel
theorem dX0_goalOf_7 : decode cX0_goalOf 7 = .ok (.ifCond .ne 14, 3) := by decide +kernel
theorem dX0_goalOf_10 : decode cX0_goalOf 10 = .ok (.aload_n 0, 1) := by decide +kernel
theorem dX0_goalOf_11 : decode cX0_goalOf 11 = .ok (.getfield 21, 3) := by decide +kernel
theorem dX0_goalOf_14 : decode cX0_goalOf 14 = .ok (.iload_n 2, 1) := by decide +kernel
theorem dX0_goalOf_15 : decode cX0_goalOf 15 = .ok (.iaload, 1) := by decide +kernel
theorem dX0_goalOf_16 : decode cX0_goalOf 16 = .ok (.iconst 1, 1) := by decide +kernel
theorem dX0_goalOf_17 : decode cX0_goalOf 17 = .ok (.isub, 1) := by decide +kernel
theorem dX0_goalOf_18 : decode cX0_goalOf 18 = .ok (.goto 11, 3) := by decide +kernel
theorem dX0_goalOf_21 : decode cX0_goalOf 21 = .ok (.aload_n 0, 1) := by decide +kernel
theorem dX0_goalOf_22 : decode cX0_goalOf 22 = .ok (.getfield 21, 3) := by decide +kernel
theorem dX0_goalOf_25 : decode cX0_goalOf 25 = .ok (.iload_n 2, 1) := by decide +kernel
theorem dX0_goalOf_26 : decode cX0_goalOf 26 = .ok (.iaload, 1) := by decide +kernel
theorem dX0_goalOf_27 : decode cX0_goalOf 27 = .ok (.iconst 1, 1) := by decide +kernel
theorem dX0_goalOf_28 : decode cX0_goalOf 28 = .ok (.iadd, 1) := by decide +kernel
theorem dX0_goalOf_29 : decode cX0_goalOf 29 = .ok (.istore_n 3, 1) := by decide +kernel
theorem dX0_goalOf_30 : decode cX0_goalOf 30 = .ok (.iload_n 3, 1) := by decide +kernel
theorem dX0_goalOf_31 : decode cX0_goalOf 31 = .ok (.ifCond .lt 15, 3) := by decide +kernel
theorem dX0_goalOf_34 : decode cX0_goalOf 34 = .ok (.iload_n 3, 1) := by decide +kernel
theorem dX0_goalOf_35 : decode cX0_goalOf 35 = .ok (.aload_n 0, 1) := by decide +kernel
theorem dX0_goalOf_36 : decode cX0_goalOf 36 = .ok (.getfield 18, 3) := by decide +kernel
theorem dX0_goalOf_39 : decode cX0_goalOf 39 = .ok (.iload_n 2, 1) := by decide +kernel
theorem dX0_goalOf_40 : decode cX0_goalOf 40 = .ok (.iaload, 1) := by decide +kernel
theorem dX0_goalOf_41 : decode cX0_goalOf 41 = .ok (.if_icmp .ge 5, 3) := by decide +kernel
theorem dX0_goalOf_44 : decode cX0_goalOf 44 = .ok (.iload_n 3, 1) := by decide +kernel
theorem dX0_goalOf_45 : decode cX0_goalOf 45 = .ok (.ireturn, 1) := by decide +kernel
theorem dX0_goalOf_46 : decode cX0_goalOf 46 = .ok (.aload_n 0, 1) := by decide +kernel
theorem dX0_goalOf_47 : decode cX0_goalOf 47 = .ok (.getfield 15, 3) := by decide +kernel
theorem dX0_goalOf_50 : decode cX0_goalOf 50 = .ok (.iload_n 2, 1) := by decide +kernel
theorem dX0_goalOf_51 : decode cX0_goalOf 51 = .ok (.iaload, 1) := by decide +kernel
theorem dX0_goalOf_52 : decode cX0_goalOf 52 = .ok (.iconst 1, 1) := by decide +kernel
theorem dX0_goalOf_53 : decode cX0_goalOf 53 = .ok (.if_icmp .ne 20, 3) := by decide +kernel
theorem dX0_goalOf_56 : decode cX0_goalOf 56 = .ok (.iload_n 3, 1) := by decide +kernel
theorem dX0_goalOf_57 : decode cX0_goalOf 57 = .ok (.ifCond .ge 14, 3) := by decide +kernel
theorem dX0_goalOf_60 : decode cX0_goalOf 60 = .ok (.aload_n 0, 1) := by decide +kernel
theorem dX0_goalOf_61 : decode cX0_goalOf 61 = .ok (.getfield 18, 3) := by decide +kernel
theorem dX0_goalOf_64 : decode cX0_goalOf 64 = .ok (.iload_n 2, 1) := by decide +kernel
theorem dX0_goalOf_65 : decode cX0_goalOf 65 = .ok (.iaload, 1) := by decide +kernel
theorem dX0_goalOf_66 : decode cX0_goalOf 66 = .ok (.iconst 1, 1) := by decide +kernel
theorem dX0_goalOf_67 : decode cX0_goalOf 67 = .ok (.isub, 1) := by decide +kernel
theorem dX0_goalOf_68 : decode cX0_goalOf 68 = .ok (.goto 4, 3) := by decide +kernel
theorem dX0_goalOf_71 : decode cX0_goalOf 71 = .ok (.iconst 0, 1) := by decide +kernel
theorem dX0_goalOf_72 : decode cX0_goalOf 72 = .ok (.ireturn, 1) := by decide +kernel
theorem dX0_goalOf_73 : decode cX0_goalOf 73 = .ok (.iconst (-1), 1) := by decide +kernel
theorem dX0_goalOf_74 : decode cX0_goalOf 74 = .ok (.ireturn, 1) := by decide +kernel
theorem dX0_barOf_0 : decode cX0_barOf 0 = .ok (.iload_n 1, 1) := by decide +kernel
theorem dX0_barOf_1 : decode cX0_barOf 1 = .ok (.bipush 32, 2) := by decide +kernel
theorem dX0_barOf_3 : decode cX0_barOf 3 = .ok (.if_icmp .lt 5, 3) := by decide +kernel
theorem dX0_barOf_6 : decode cX0_barOf 6 = .ok (.iconst (-1), 1) := by decide +kernel
theorem dX0_barOf_7 : decode cX0_barOf 7 = .ok (.ireturn, 1) := by decide +kernel
theorem dX0_barOf_8 : decode cX0_barOf 8 = .ok (.iload_n 1, 1) := by decide +kernel
theorem dX0_barOf_9 : decode cX0_barOf 9 = .ok (.iconst 2, 1) := by decide +kernel
theorem dX0_barOf_10 : decode cX0_barOf 10 = .ok (.idiv, 1) := by decide +kernel
theorem dX0_barOf_11 : decode cX0_barOf 11 = .ok (.istore_n 2, 1) := by decide +kernel
theorem dX0_barOf_12 : decode cX0_barOf 12 = .ok (.aload_n 0, 1) := by decide +kernel
theorem dX0_barOf_13 : decode cX0_barOf 13 = .ok (.iload_n 2, 1) := by decide +kernel
theorem dX0_barOf_14 : decode cX0_barOf 14 = .ok (.iconst 1, 1) := by decide +kernel
theorem dX0_barOf_15 : decode cX0_barOf 15 = .ok (.invokevirtual 127, 3) := by decide +kernel
theorem dX0_barOf_18 : decode cX0_barOf 18 = .ok (.istore_n 3, 1) := by decide +kernel
theorem dX0_barOf_19 : decode cX0_barOf 19 = .ok (.iload_n 3, 1) := by decide +kernel
theorem dX0_barOf_20 : decode cX0_barOf 20 = .ok (.ifCond .ne 17, 3) := by decide +kernel
theorem dX0_barOf_23 : decode cX0_barOf 23 = .ok (.aload_n 0, 1) := by decide +kernel
theorem dX0_barOf_24 : decode cX0_barOf 24 = .ok (.getfield 15, 3) := by decide +kernel
theorem dX0_barOf_27 : decode cX0_barOf 27 = .ok (.iload_n 2, 1) := by decide +kernel
theorem dX0_barOf_28 : decode cX0_barOf 28 = .ok (.iaload, 1) := by decide +kernel
theorem dX0_barOf_29 : decode cX0_barOf 29 = .ok (.invokestatic 158, 3) := by decide +kernel
theorem dX0_barOf_32 : decode cX0_barOf 32 = .ok (.ifCond .ne 5, 3) := by decide +kernel
theorem dX0_barOf_35 : decode cX0_barOf 35 = .ok (.iconst 3, 1) := by decide +kernel
theorem dX0_barOf_36 : decode cX0_barOf 36 = .ok (.istore_n 3, 1) := by decide +kernel
theorem dX0_barOf_37 : decode cX0_barOf 37 = .ok (.iload_n 3, 1) := by decide +kernel
theorem dX0_barOf_38 : decode cX0_barOf 38 = .ok (.ifCond .eq 12, 3) := by decide +kernel
theorem dX0_barOf_41 : decode cX0_barOf 41 = .ok (.aload_n 0, 1) := by decide +kernel
theorem dX0_barOf_42 : decode cX0_barOf 42 = .ok (.getfield 47, 3) := by decide +kernel
theorem dX0_barOf_45 : decode cX0_barOf 45 = .ok (.iload_n 3, 1) := by decide +kernel
theorem dX0_barOf_46 : decode cX0_barOf 46 = .ok (.invokevirtual 149, 3) := by decide +kernel
theorem dX0_barOf_49 : decode cX0_barOf 49 = .ok (.ireturn, 1) := by decide +kernel
theorem dX0_barOf_50 : decode cX0_barOf 50 = .ok (.aload_n 0, 1) := by decide +kernel
theorem dX0_barOf_51 : decode cX0_barOf 51 = .ok (.getfield 47, 3) := by decide +kernel
theorem dX0_barOf_54 : decode cX0_barOf 54 = .ok (.aload_n 0, 1) := by decide +kernel
theorem dX0_barOf_55 : decode cX0_barOf 55 = .ok (.getfield 15, 3) := by decide +kernel
theorem dX0_barOf_58 : decode cX0_barOf 58 = .ok (.iload_n 2, 1) := by decide +kernel
theorem dX0_barOf_59 : decode cX0_barOf 59 = .ok (.iaload, 1) := by decide +kernel
theorem dX0_barOf_60 : decode cX0_barOf 60 = .ok (.invokestatic 161, 3) := by decide +kernel
theorem dX0_barOf_63 : decode cX0_barOf 63 = .ok (.invokevirtual 164, 3) := by decide +kernel
theorem dX0_barOf_66 : decode cX0_barOf 66 = .ok (.aload_n 0, 1) := by decide +kernel
theorem dX0_barOf_67 : decode cX0_barOf 67 = .ok (.iload_n 1, 1) := by decide +kernel
theorem dX0_barOf_68 : decode cX0_barOf 68 = .ok (.invokevirtual 167, 3) := by decide +kernel
theorem dX0_barOf_71 : decode cX0_barOf 71 = .ok (.iconst (-1), 1) := by decide +kernel
theorem dX0_barOf_72 : decode cX0_barOf 72 = .ok (.if_icmp .ne 8, 3) := by decide +kernel
theorem dX0_barOf_75 : decode cX0_barOf 75 = .ok (.bipush (-3), 2) := by decide +kernel
theorem dX0_barOf_77 : decode cX0_barOf 77 = .ok (.goto 9, 3) := by decide +kernel
theorem dX0_barOf_80 : decode cX0_barOf 80 = .ok (.aload_n 0, 1) := by decide +kernel
theorem dX0_barOf_81 : decode cX0_barOf 81 = .ok (.iload_n 2, 1) := by decide +kernel
theorem dX0_barOf_82 : decode cX0_barOf 82 = .ok (.iconst 1, 1) := by decide +kernel
theorem dX0_barOf_83 : decode cX0_barOf 83 = .ok (.invokevirtual 155, 3) := by decide +kernel
theorem dX0_barOf_86 : decode cX0_barOf 86 = .ok (.ireturn, 1) := by decide +kernel
theorem dX0_perform_0 : decode cX0_perform 0 = .ok (.aload_n 0, 1) := by decide +kernel
theorem dX0_perform_1 : decode cX0_perform 1 = .ok (.iload_n 1, 1) := by decide +kernel
theorem dX0_perform_2 : decode cX0_perform 2 = .ok (.invokevirtual 170, 3) := by decide +kernel
theorem dX0_perform_5 : decode cX0_perform 5 = .ok (.iconst (-1), 1) := by decide +kernel
theorem dX0_perform_6 : decode cX0_perform 6 = .ok (.if_icmp .eq 5, 3) := by decide +kernel
theorem dX0_perform_9 : decode cX0_perform 9 = .ok (.iconst 0, 1) := by decide +kernel
theorem dX0_perform_10 : decode cX0_perform 10 = .ok (.ireturn, 1) := by decide +kernel
theorem dX0_perform_11 : decode cX0_perform 11 = .ok (.iload_n 1, 1) := by decide +kernel
theorem dX0_perform_12 : decode cX0_perform 12 = .ok (.bipush 32, 2) := by decide +kernel
theorem dX0_perform_14 : decode cX0_perform 14 = .ok (.if_icmp .lt 14, 3) := by decide +kernel
theorem dX0_perform_17 : decode cX0_perform 17 = .ok (.aload_n 0, 1) := by decide +kernel
theorem dX0_perform_18 : decode cX0_perform 18 = .ok (.iload_n 1, 1) := by decide +kernel
theorem dX0_perform_19 : decode cX0_perform 19 = .ok (.bipush 32, 2) := by decide +kernel
theorem dX0_perform_21 : decode cX0_perform 21 = .ok (.isub, 1) := by decide +kernel
theorem dX0_perform_22 : decode cX0_perform 22 = .ok (.iconst 1, 1) := by decide +kernel
theorem dX0_perform_23 : decode cX0_perform 23 = .ok (.invokevirtual 173, 3) := by decide +kernel
theorem dX0_perform_26 : decode cX0_perform 26 = .ok (.iconst 1, 1) := by decide +kernel
theorem dX0_perform_27 : decode cX0_perform 27 = .ok (.ireturn, 1) := by decide +kernel
theorem dX0_perform_28 : decode cX0_perform 28 = .ok (.iload_n 1, 1) := by decide +kernel
theorem dX0_perform_29 : decode cX0_perform 29 = .ok (.iconst 2, 1) := by decide +kernel
theorem dX0_perform_30 : decode cX0_perform 30 = .ok (.idiv, 1) := by decide +kernel
theorem dX0_perform_31 : decode cX0_perform 31 = .ok (.istore_n 2, 1) := by decide +kernel
theorem dX0_perform_32 : decode cX0_perform 32 = .ok (.iload_n 2, 1) := by decide +kernel
theorem dX0_perform_33 : decode cX0_perform 33 = .ok (.aload_n 0, 1) := by decide +kernel
theorem dX0_perform_34 : decode cX0_perform 34 = .ok (.getfield 51, 3) := by decide +kernel
theorem dX0_perform_37 : decode cX0_perform 37 = .ok (.if_icmp .ne 23, 3) := by decide +kernel
theorem dX0_perform_40 : decode cX0_perform 40 = .ok (.aload_n 0, 1) := by decide +kernel
theorem dX0_perform_41 : decode cX0_perform 41 = .ok (.getfield 47, 3) := by decide +kernel
theorem dX0_perform_44 : decode cX0_perform 44 = .ok (.aload_n 0, 1) := by decide +kernel
theorem dX0_perform_45 : decode cX0_perform 45 = .ok (.getfield 177, 3) := by decide +kernel
theorem dX0_perform_48 : decode cX0_perform 48 = .ok (.ifCond .ne 7, 3) := by decide +kernel
theorem dX0_perform_51 : decode cX0_perform 51 = .ok (.iconst 1, 1) := by decide +kernel
theorem dX0_perform_52 : decode cX0_perform 52 = .ok (.goto 4, 3) := by decide +kernel
theorem dX0_perform_55 : decode cX0_perform 55 = .ok (.iconst 5, 1) := by decide +kernel
theorem dX0_perform_56 : decode cX0_perform 56 = .ok (.invokevirtual 149, 3) := by decide +kernel
theorem dX0_perform_59 : decode cX0_perform 59 = .ok (.ireturn, 1) := by decide +kernel
theorem dX0_perform_60 : decode cX0_perform 60 = .ok (.aload_n 0, 1) := by decide +kernel
theorem dX0_perform_61 : decode cX0_perform 61 = .ok (.getfield 21, 3) := by decide +kernel
theorem dX0_perform_64 : decode cX0_perform 64 = .ok (.iload_n 2, 1) := by decide +kernel
theorem dX0_perform_65 : decode cX0_perform 65 = .ok (.aload_n 0, 1) := by decide +kernel
theorem dX0_perform_66 : decode cX0_perform 66 = .ok (.iload_n 1, 1) := by decide +kernel
theorem dX0_perform_67 : decode cX0_perform 67 = .ok (.invokevirtual 167, 3) := by decide +kernel
theorem dX0_perform_70 : decode cX0_perform 70 = .ok (.iastore, 1) := by decide +kernel
theorem dX0_perform_71 : decode cX0_perform 71 = .ok (.iconst 1, 1) := by decide +kernel
theorem dX0_perform_72 : decode cX0_perform 72 = .ok (.ireturn, 1) := by decide +kernel
theorem dX0_numberBehind_0 : decode cX0_numberBehind 0 = .ok (.iload_n 1, 1) := by decide +kernel
theorem dX0_numberBehind_1 : decode cX0_numberBehind 1 = .ok (.bipush 32, 2) := by decide +kernel
theorem dX0_numberBehind_3 : decode cX0_numberBehind 3 = .ok (.if_icmp .lt 12, 3) := by decide +kernel
theorem dX0_numberBehind_6 : decode cX0_numberBehind 6 = .ok (.aload_n 0, 1) := by decide +kernel
theorem dX0_numberBehind_7 : decode cX0_numberBehind 7 = .ok (.getfield 98, 3) := by decide +kernel
theorem dX0_numberBehind_10 : decode cX0_numberBehind 10 = .ok (.ifCond .ne 5, 3) := by decide +kernel
theorem dX0_numberBehind_13 : decode cX0_numberBehind 13 = .ok (.iload_n 2, 1) := by decide +kernel
theorem dX0_numberBehind_14 : decode cX0_numberBehind 14 = .ok (.ireturn, 1) := by decide +kernel
theorem dX0_numberBehind_15 : decode cX0_numberBehind 15 = .ok (.iload_n 1, 1) := by decide +kernel
theorem dX0_numberBehind_16 : decode cX0_numberBehind 16 = .ok (.bipush 32, 2) := by decide +kernel
theorem dX0_numberBehind_18 : decode cX0_numberBehind 18 = .ok (.if_icmp .lt 49, 3) := by decide +kernel
theorem dX0_numberBehind_21 : decode cX0_numberBehind 21 = .ok (.aload_n 0, 1) := by decide +kernel
theorem dX0_numberBehind_22 : decode cX0_numberBehind 22 = .ok (.getfield 21, 3) := by decide +kernel
theorem dX0_numberBehind_25 : decode cX0_numberBehind 25 = .ok (.iconst 0, 1) := by decide +kernel
theorem dX0_numberBehind_26 : decode cX0_numberBehind 26 = .ok (.aload_n 0, 1) := by decide +kernel
theorem dX0_numberBehind_27 : decode cX0_numberBehind 27 = .ok (.getfield 30, 3) := by decide +kernel
theorem dX0_numberBehind_30 : decode cX0_numberBehind 30 = .ok (.iconst 0, 1) := by decide +kernel
theorem dX0_numberBehind_31 : decode cX0_numberBehind 31 = .ok (.bipush 16, 2) := by decide +kernel
theorem dX0_numberBehind_33 : decode cX0_numberBehind 33 = .ok (.invokestatic 65, 3) := by decide +kernel
theorem dX0_numberBehind_36 : decode cX0_numberBehind 36 = .ok (.aload_n 0, 1) := by decide +kernel
theorem dX0_numberBehind_37 : decode cX0_numberBehind 37 = .ok (.iload_n 1, 1) := by decide +kernel
theorem dX0_numberBehind_38 : decode cX0_numberBehind 38 = .ok (.bipush 32, 2) := by decide +kernel
theorem dX0_numberBehind_40 : decode cX0_numberBehind 40 = .ok (.isub, 1) := by decide +kernel
theorem dX0_numberBehind_41 : decode cX0_numberBehind 41 = .ok (.iconst 0, 1) := by decide +kernel
theorem dX0_numberBehind_42 : decode cX0_numberBehind 42 = .ok (.invokevirtual 173, 3) := by decide +kernel
theorem dX0_numberBehind_45 : decode cX0_numberBehind 45 = .ok (.aload_n 0, 1) := by decide +kernel
theorem dX0_numberBehind_46 : decode cX0_numberBehind 46 = .ok (.invokevirtual 180, 3) := by decide +kernel
theorem dX0_numberBehind_49 : decode cX0_numberBehind 49 = .ok (.istore_n 3, 1) := by decide +kernel
theorem dX0_numberBehind_50 : decode cX0_numberBehind 50 = .ok (.aload_n 0, 1) := by decide +kernel
theorem dX0_numberBehind_51 : decode cX0_numberBehind 51 = .ok (.getfield 30, 3) := by decide +kernel
theorem dX0_numberBehind_54 : decode cX0_numberBehind 54 = .ok (.iconst 0, 1) := by decide +kernel
theorem dX0_numberBehind_55 : decode cX0_numberBehind 55 = .ok (.aload_n 0, 1) := by decide +kernel
theorem dX0_numberBehind_56 : decode cX0_numberBehind 56 = .ok (.getfield 21, 3) := by decide +kernel
theorem dX0_numberBehind_59 : decode cX0_numberBehind 59 = .ok (.iconst 0, 1) := by decide +kernel
theorem dX0_numberBehind_60 : decode cX0_numberBehind 60 = .ok (.bipush 16, 2) := by decide +kernel
theorem dX0_numberBehind_62 : decode cX0_numberBehind 62 = .ok (.invokestatic 65, 3) := by decide +kernel
theorem dX0_numberBehind_65 : decode cX0_numberBehind 65 = .ok (.iload_n 3, 1) := by decide +kernel
theorem dX0_numberBehind_66 : decode cX0_numberBehind 66 = .ok (.ireturn, 1) := by decide +kernel
theorem dX0_numberBehind_67 : decode cX0_numberBehind 67 = .ok (.iload_n 1, 1) := by decide +kernel
theorem dX0_numberBehind_68 : decode cX0_numberBehind 68 = .ok (.iconst 2, 1) := by decide +kernel
theorem dX0_numberBehind_69 : decode cX0_numberBehind 69 = .ok (.idiv, 1) := by decide +kernel
theorem dX0_numberBehind_70 : decode cX0_numberBehind 70 = .ok (.istore_n 3, 1) := by decide +kernel
theorem dX0_numberBehind_71 : decode cX0_numberBehind 71 = .ok (.aload_n 0, 1) := by decide +kernel
theorem dX0_numberBehind_72 : decode cX0_numberBehind 72 = .ok (.getfield 15, 3) := by decide +kernel
theorem dX0_numberBehind_75 : decode cX0_numberBehind 75 = .ok (.iload_n 3, 1) := by decide +kernel
theorem dX0_numberBehind_76 : decode cX0_numberBehind 76 = .ok (.iaload, 1) := by decide +kernel
theorem dX0_numberBehind_77 : decode cX0_numberBehind 77 = .ok (.invokestatic 158, 3) := by decide +kernel
theorem dX0_numberBehind_80 : decode cX0_numberBehind 80 = .ok (.ifCond .ne 5, 3) := by decide +kernel
theorem dX0_numberBehind_83 : decode cX0_numberBehind 83 = .ok (.iconst (-1), 1) := by decide +kernel
theorem dX0_numberBehind_84 : decode cX0_numberBehind 84 = .ok (.ireturn, 1) := by decide +kernel
theorem dX0_numberBehind_85 : decode cX0_numberBehind 85 = .ok (.aload_n 0, 1) := by decide +kernel
theorem dX0_numberBehind_86 : decode cX0_numberBehind 86 = .ok (.iload_n 1, 1) := by decide +kernel
theorem dX0_numberBehind_87 : decode cX0_numberBehind 87 = .ok (.invokevirtual 167, 3) := by decide +kernel
theorem dX0_numberBehind_90 : decode cX0_numberBehind 90 = .ok (.istore 4, 2) := by decide +kernel
theorem dX0_numberBehind_92 : decode cX0_numberBehind 92 = .ok (.iload 4, 2) := by decide +kernel
theorem dX0_numberBehind_94 : decode cX0_numberBehind 94 = .ok (.iconst (-1), 1) := by decide +kernel
theorem dX0_numberBehind_95 : decode cX0_numberBehind 95 = .ok (.if_icmp .eq 13, 3) := by decide +kernel
theorem dX0_numberBehind_98 : decode cX0_numberBehind 98 = .ok (.aload_n 0, 1) := by decide +kernel
theorem dX0_numberBehind_99 : decode cX0_numberBehind 99 = .ok (.iload_n 3, 1) := by decide +kernel
theorem dX0_numberBehind_100 : decode cX0_numberBehind 100 = .ok (.iconst 0, 1) := by decide +kernel
theorem dX0_numberBehind_101 : decode cX0_numberBehind 101 = .ok (.invokevirtual 155, 3) := by decide +kernel
theorem dX0_numberBehind_104 : decode cX0_numberBehind 104 = .ok (.iconst (-1), 1) := by decide +kernel
theorem dX0_numberBehind_105 : decode cX0_numberBehind 105 = .ok (.if_icmp .eq 5, 3) := by decide +kernel
theorem dX0_numberBehind_108 : decode cX0_numberBehind 108 = .ok (.iconst (-1), 1) := by decide +kernel
theorem dX0_numberBehind_109 : decode cX0_numberBehind 109 = .ok (.ireturn, 1) := by decide +kernel
theorem dX0_numberBehind_110 : decode cX0_numberBehind 110 = .ok (.iload_n 2, 1) := by decide +kernel
theorem dX0_numberBehind_111 : decode cX0_numberBehind 111 = .ok (.iload 4, 2) := by decide +kernel
theorem dX0_numberBehind_113 : decode cX0_numberBehind 113 = .ok (.aload_n 0, 1) := by decide +kernel
theorem dX0_numberBehind_114 : decode cX0_numberBehind 114 = .ok (.getfield 21, 3) := by decide +kernel
theorem dX0_numberBehind_117 : decode cX0_numberBehind 117 = .ok (.iload_n 3, 1) := by decide +kernel
theorem dX0_numberBehind_118 : decode cX0_numberBehind 118 = .ok (.iaload, 1) := by decide +kernel
theorem dX0_numberBehind_119 : decode cX0_numberBehind 119 = .ok (.isub, 1) := by decide +kernel
theorem dX0_numberBehind_120 : decode cX0_numberBehind 120 = .ok (.aload_n 0, 1) := by decide +kernel
theorem dX0_numberBehind_121 : decode cX0_numberBehind 121 = .ok (.getfield 27, 3) := by decide +kernel
theorem dX0_numberBehind_124 : decode cX0_numberBehind 124 = .ok (.iload_n 3, 1) := by decide +kernel
theorem dX0_numberBehind_125 : decode cX0_numberBehind 125 = .ok (.iaload, 1) := by decide +kernel
theorem dX0_numberBehind_126 : decode cX0_numberBehind 126 = .ok (.imul, 1) := by decide +kernel
theorem dX0_numberBehind_127 : decode cX0_numberBehind 127 = .ok (.iadd, 1) := by decide +kernel
theorem dX0_numberBehind_128 : decode cX0_numberBehind 128 = .ok (.ireturn, 1) := by decide +kernel
theorem dX0_tilt_0 : decode cX0_tilt 0 = .ok (.iconst 0, 1) := by decide +kernel
theorem dX0_tilt_1 : decode cX0_tilt 1 = .ok (.istore_n 3, 1) := by decide +kernel
theorem dX0_tilt_2 : decode cX0_tilt 2 = .ok (.iload_n 3, 1) := by decide +kernel
theorem dX0_tilt_3 : decode cX0_tilt 3 = .ok (.bipush 16, 2) := by decide +kernel
theorem dX0_tilt_5 : decode cX0_tilt 5 = .ok (.if_icmp .ge 120, 3) := by decide +kernel
theorem dX0_tilt_8 : decode cX0_tilt 8 = .ok (.aload_n 0, 1) := by decide +kernel
theorem dX0_tilt_9 : decode cX0_tilt 9 = .ok (.iload_n 3, 1) := by decide +kernel
theorem dX0_tilt_10 : decode cX0_tilt 10 = .ok (.iload_n 1, 1) := by decide +kernel
theorem dX0_tilt_11 : decode cX0_tilt 11 = .ok (.invokevirtual 183, 3) := by decide +kernel
theorem dX0_tilt_14 : decode cX0_tilt 14 = .ok (.istore 4, 2) := by decide +kernel
theorem dX0_tilt_16 : decode cX0_tilt 16 = .ok (.iload 4, 2) := by decide +kernel
theorem dX0_tilt_18 : decode cX0_tilt 18 = .ok (.ifCond .eq 16, 3) := by decide +kernel
theorem dX0_tilt_21 : decode cX0_tilt 21 = .ok (.aload_n 0, 1) := by decide +kernel
theorem dX0_tilt_22 : decode cX0_tilt 22 = .ok (.iload_n 3, 1) := by decide +kernel
theorem dX0_tilt_23 : decode cX0_tilt 23 = .ok (.iload_n 2, 1) := by decide +kernel
theorem dX0_tilt_24 : decode cX0_tilt 24 = .ok (.invokevirtual 186, 3) := by decide +kernel
theorem dX0_tilt_27 : decode cX0_tilt 27 = .ok (.ifCond .eq 7, 3) := by decide +kernel
theorem dX0_tilt_30 : decode cX0_tilt 30 = .ok (.iconst 1, 1) := by decide +kernel
theorem dX0_tilt_31 : decode cX0_tilt 31 = .ok (.goto 4, 3) := by decide +kernel
theorem dX0_tilt_34 : decode cX0_tilt 34 = .ok (.iconst 0, 1) := by decide +kernel
theorem dX0_tilt_35 : decode cX0_tilt 35 = .ok (.istore 5, 2) := by decide +kernel
theorem dX0_tilt_37 : decode cX0_tilt 37 = .ok (.iconst 1, 1) := by decide +kernel
theorem dX0_tilt_38 : decode cX0_tilt 38 = .ok (.istore 6, 2) := by decide +kernel
theorem dX0_tilt_40 : decode cX0_tilt 40 = .ok (.iload 6, 2) := by decide +kernel
theorem dX0_tilt_42 : decode cX0_tilt 42 = .ok (.aload_n 0, 1) := by decide +kernel
theorem dX0_tilt_43 : decode cX0_tilt 43 = .ok (.getfield 18, 3) := by decide +kernel
theorem dX0_tilt_46 : decode cX0_tilt 46 = .ok (.iload_n 3, 1) := by decide +kernel
theorem dX0_tilt_47 : decode cX0_tilt 47 = .ok (.iaload, 1) := by decide +kernel
theorem dX0_tilt_48 : decode cX0_tilt 48 = .ok (.if_icmp .ge 71, 3) := by decide +kernel
theorem dX0_tilt_51 : decode cX0_tilt 51 = .ok (.iload 5, 2) := by decide +kernel
theorem dX0_tilt_53 : decode cX0_tilt 53 = .ok (.ifCond .eq 66, 3) := by decide +kernel
theorem dX0_tilt_56 : decode cX0_tilt 56 = .ok (.aload_n 0, 1) := by decide +kernel
theorem dX0_tilt_57 : decode cX0_tilt 57 = .ok (.getfield 21, 3) := by decide +kernel
theorem dX0_tilt_60 : decode cX0_tilt 60 = .ok (.iload_n 3, 1) := by decide +kernel
theorem dX0_tilt_61 : decode cX0_tilt 61 = .ok (.iaload, 1) := by decide +kernel
theorem dX0_tilt_62 : decode cX0_tilt 62 = .ok (.iload 4, 2) := by decide +kernel
theorem dX0_tilt_64 : decode cX0_tilt 64 = .ok (.iadd, 1) := by decide +kernel
theorem dX0_tilt_65 : decode cX0_tilt 65 = .ok (.istore 7, 2) := by decide +kernel
theorem dX0_tilt_67 : decode cX0_tilt 67 = .ok (.iload 7, 2) := by decide +kernel
theorem dX0_tilt_69 : decode cX0_tilt 69 = .ok (.ifCond .lt 28, 3) := by decide +kernel
theorem dX0_tilt_72 : decode cX0_tilt 72 = .ok (.iload 7, 2) := by decide +kernel
theorem dX0_tilt_74 : decode cX0_tilt 74 = .ok (.aload_n 0, 1) := by decide +kernel
theorem dX0_tilt_75 : decode cX0_tilt 75 = .ok (.getfield 18, 3) := by decide +kernel
theorem dX0_tilt_78 : decode cX0_tilt 78 = .ok (.iload_n 3, 1) := by decide +kernel
theorem dX0_tilt_79 : decode cX0_tilt 79 = .ok (.iaload, 1) := by decide +kernel
theorem dX0_tilt_80 : decode cX0_tilt 80 = .ok (.if_icmp .ge 17, 3) := by decide +kernel
theorem dX0_tilt_83 : decode cX0_tilt 83 = .ok (.aload_n 0, 1) := by decide +kernel
theorem dX0_tilt_84 : decode cX0_tilt 84 = .ok (.iload_n 3, 1) := by decide +kernel
theorem dX0_tilt_85 : decode cX0_tilt 85 = .ok (.iload_n 2, 1) := by decide +kernel
theorem dX0_tilt_86 : decode cX0_tilt 86 = .ok (.invokevirtual 155, 3) := by decide +kernel
theorem dX0_tilt_89 : decode cX0_tilt 89 = .ok (.iconst (-1), 1) := by decide +kernel
theorem dX0_tilt_90 : decode cX0_tilt 90 = .ok (.if_icmp .ne 7, 3) := by decide +kernel
theorem dX0_tilt_93 : decode cX0_tilt 93 = .ok (.iconst 1, 1) := by decide +kernel
theorem dX0_tilt_94 : decode cX0_tilt 94 = .ok (.goto 4, 3) := by decide +kernel
theorem dX0_tilt_97 : decode cX0_tilt 97 = .ok (.iconst 0, 1) := by decide +kernel
theorem dX0_tilt_98 : decode cX0_tilt 98 = .ok (.istore 5, 2) := by decide +kernel
theorem dX0_tilt_100 : decode cX0_tilt 100 = .ok (.iload 5, 2) := by decide +kernel
theorem dX0_tilt_102 : decode cX0_tilt 102 = .ok (.ifCond .eq 11, 3) := by decide +kernel
theorem dX0_tilt_105 : decode cX0_tilt 105 = .ok (.aload_n 0, 1) := by decide +kernel
theorem dX0_tilt_106 : decode cX0_tilt 106 = .ok (.getfield 21, 3) := by decide +kernel
theorem dX0_tilt_109 : decode cX0_tilt 109 = .ok (.iload_n 3, 1) := by decide +kernel
theorem dX0_tilt_110 : decode cX0_tilt 110 = .ok (.iload 7, 2) := by decide +kernel
theorem dX0_tilt_112 : decode cX0_tilt 112 = .ok (.iastore, 1) := by decide +kernel
theorem dX0_tilt_113 : decode cX0_tilt 113 = .ok (.iinc 6 1, 3) := by decide +kernel
theorem dX0_tilt_116 : decode cX0_tilt 116 = .ok (.goto (-76), 3) := by decide +kernel
theorem dX0_tilt_119 : decode cX0_tilt 119 = .ok (.iinc 3 1, 3) := by decide +kernel
theorem dX0_tilt_122 : decode cX0_tilt 122 = .ok (.goto (-120), 3) := by decide +kernel
theorem dX0_tilt_125 : decode cX0_tilt 125 = .ok (.return_, 1) := by decide +kernel
theorem dX0_stepOfFall_0 : decode cX0_stepOfFall 0 = .ok (.aload_n 0, 1) := by decide +kernel
theorem dX0_stepOfFall_1 : decode cX0_stepOfFall 1 = .ok (.getfield 15, 3) := by decide +kernel
theorem dX0_stepOfFall_4 : decode cX0_stepOfFall 4 = .ok (.iload_n 1, 1) := by decide +kernel
theorem dX0_stepOfFall_5 : decode cX0_stepOfFall 5 = .ok (.iaload, 1) := by decide +kernel
theorem dX0_stepOfFall_6 : decode cX0_stepOfFall 6 = .ok (.invokestatic 102, 3) := by decide +kernel
theorem dX0_stepOfFall_9 : decode cX0_stepOfFall 9 = .ok (.ifCond .ne 5, 3) := by decide +kernel
theorem dX0_stepOfFall_12 : decode cX0_stepOfFall 12 = .ok (.iconst 0, 1) := by decide +kernel
theorem dX0_stepOfFall_13 : decode cX0_stepOfFall 13 = .ok (.ireturn, 1) := by decide +kernel
theorem dX0_stepOfFall_14 : decode cX0_stepOfFall 14 = .ok (.aload_n 0, 1) := by decide +kernel
theorem dX0_stepOfFall_15 : decode cX0_stepOfFall 15 = .ok (.getfield 24, 3) := by decide +kernel
theorem dX0_stepOfFall_18 : decode cX0_stepOfFall 18 = .ok (.iload_n 1, 1) := by decide +kernel
theorem dX0_stepOfFall_19 : decode cX0_stepOfFall 19 = .ok (.iaload, 1) := by decide +kernel
theorem dX0_stepOfFall_20 : decode cX0_stepOfFall 20 = .ok (.iload_n 2, 1) := by decide +kernel
theorem dX0_stepOfFall_21 : decode cX0_stepOfFall 21 = .ok (.if_icmp .ne 5, 3) := by decide +kernel
theorem dX0_stepOfFall_24 : decode cX0_stepOfFall 24 = .ok (.iconst 1, 1) := by decide +kernel
theorem dX0_stepOfFall_25 : decode cX0_stepOfFall 25 = .ok (.ireturn, 1) := by decide +kernel
theorem dX0_stepOfFall_26 : decode cX0_stepOfFall 26 = .ok (.aload_n 0, 1) := by decide +kernel
theorem dX0_stepOfFall_27 : decode cX0_stepOfFall 27 = .ok (.getfield 24, 3) := by decide +kernel
theorem dX0_stepOfFall_30 : decode cX0_stepOfFall 30 = .ok (.iload_n 1, 1) := by decide +kernel
theorem dX0_stepOfFall_31 : decode cX0_stepOfFall 31 = .ok (.iaload, 1) := by decide +kernel
theorem dX0_stepOfFall_32 : decode cX0_stepOfFall 32 = .ok (.iload_n 2, 1) := by decide +kernel
theorem dX0_stepOfFall_33 : decode cX0_stepOfFall 33 = .ok (.iconst 1, 1) := by decide +kernel
theorem dX0_stepOfFall_34 : decode cX0_stepOfFall 34 = .ok (.ixor, 1) := by decide +kernel
theorem dX0_stepOfFall_35 : decode cX0_stepOfFall 35 = .ok (.if_icmp .ne 7, 3) := by decide +kernel
theorem dX0_stepOfFall_38 : decode cX0_stepOfFall 38 = .ok (.iconst (-1), 1) := by decide +kernel
theorem dX0_stepOfFall_39 : decode cX0_stepOfFall 39 = .ok (.goto 4, 3) := by decide +kernel
theorem dX0_stepOfFall_42 : decode cX0_stepOfFall 42 = .ok (.iconst 0, 1) := by decide +kernel
theorem dX0_stepOfFall_43 : decode cX0_stepOfFall 43 = .ok (.ireturn, 1) := by decide +kernel
theorem dX0_beginsToFall_0 : decode cX0_beginsToFall 0 = .ok (.aload_n 0, 1) := by decide +kernel
theorem dX0_beginsToFall_1 : decode cX0_beginsToFall 1 = .ok (.getfield 15, 3) := by decide +kernel
theorem dX0_beginsToFall_4 : decode cX0_beginsToFall 4 = .ok (.iload_n 1, 1) := by decide +kernel
theorem dX0_beginsToFall_5 : decode cX0_beginsToFall 5 = .ok (.iaload, 1) := by decide +kernel
theorem dX0_beginsToFall_6 : decode cX0_beginsToFall 6 = .ok (.iconst 3, 1) := by decide +kernel
theorem dX0_beginsToFall_7 : decode cX0_beginsToFall 7 = .ok (.if_icmp .ne 35, 3) := by decide +kernel
theorem dX0_beginsToFall_10 : decode cX0_beginsToFall 10 = .ok (.iload_n 2, 1) := by decide +kernel
theorem dX0_beginsToFall_11 : decode cX0_beginsToFall 11 = .ok (.ifCond .eq 12, 3) := by decide +kernel
theorem dX0_beginsToFall_14 : decode cX0_beginsToFall 14 = .ok (.aload_n 0, 1) := by decide +kernel
theorem dX0_beginsToFall_15 : decode cX0_beginsToFall 15 = .ok (.getfield 47, 3) := by decide +kernel
theorem dX0_beginsToFall_18 : decode cX0_beginsToFall 18 = .ok (.bipush 15, 2) := by decide +kernel
theorem dX0_beginsToFall_20 : decode cX0_beginsToFall 20 = .ok (.invokevirtual 164, 3) := by decide +kernel
theorem dX0_beginsToFall_23 : decode cX0_beginsToFall 23 = .ok (.aload_n 0, 1) := by decide +kernel
theorem dX0_beginsToFall_24 : decode cX0_beginsToFall 24 = .ok (.getfield 21, 3) := by decide +kernel
theorem dX0_beginsToFall_27 : decode cX0_beginsToFall 27 = .ok (.iload_n 1, 1) := by decide +kernel
theorem dX0_beginsToFall_28 : decode cX0_beginsToFall 28 = .ok (.iaload, 1) := by decide +kernel
theorem dX0_beginsToFall_29 : decode cX0_beginsToFall 29 = .ok (.aload_n 0, 1) := by decide +kernel
theorem dX0_beginsToFall_30 : decode cX0_beginsToFall 30 = .ok (.getfield 18, 3) := by decide +kernel
theorem dX0_beginsToFall_33 : decode cX0_beginsToFall 33 = .ok (.iload_n 1, 1) := by decide +kernel
theorem dX0_beginsToFall_34 : decode cX0_beginsToFall 34 = .ok (.iaload, 1) := by decide +kernel
theorem dX0_beginsToFall_35 : decode cX0_beginsToFall 35 = .ok (.iconst 1, 1) := by decide +kernel
theorem dX0_beginsToFall_36 : decode cX0_beginsToFall 36 = .ok (.isub, 1) := by decide +kernel
theorem dX0_beginsToFall_37 : decode cX0_beginsToFall 37 = .ok (.if_icmp .ne 5, 3) := by decide +kernel
theorem dX0_beginsToFall_40 : decode cX0_beginsToFall 40 = .ok (.iconst 0, 1) := by decide +kernel
theorem dX0_beginsToFall_41 : decode cX0_beginsToFall 41 = .ok (.ireturn, 1) := by decide +kernel
theorem dX0_beginsToFall_42 : decode cX0_beginsToFall 42 = .ok (.iload_n 2, 1) := by decide +kernel
theorem dX0_beginsToFall_43 : decode cX0_beginsToFall 43 = .ok (.ifCond .eq 12, 3) := by decide +kernel
theorem dX0_beginsToFall_46 : decode cX0_beginsToFall 46 = .ok (.aload_n 0, 1) := by decide +kernel
theorem dX0_beginsToFall_47 : decode cX0_beginsToFall 47 = .ok (.getfield 47, 3) := by decide +kernel
theorem dX0_beginsToFall_50 : decode cX0_beginsToFall 50 = .ok (.bipush 13, 2) := by decide +kernel
theorem dX0_beginsToFall_52 : decode cX0_beginsToFall 52 = .ok (.invokevirtual 164, 3) := by decide +kernel
theorem dX0_beginsToFall_55 : decode cX0_beginsToFall 55 = .ok (.iconst 1, 1) := by decide +kernel
theorem dX0_beginsToFall_56 : decode cX0_beginsToFall 56 = .ok (.ireturn, 1) := by decide +kernel
theorem dX7_init_0 : decode cX7_init 0 = .ok (.aload_n 0, 1) := by decide +kernel
theorem dX7_init_1 : decode cX7_init 1 = .ok (.invokespecial 3, 3) := by decide +kernel
theorem dX7_init_4 : decode cX7_init 4 = .ok (.aload_n 0, 1) := by decide +kernel
theorem dX7_init_5 : decode cX7_init 5 = .ok (.sipush 1024, 3) := by decide +kernel
theorem dX7_init_8 : decode cX7_init 8 = .ok (.newarray .int, 2) := by decide +kernel
theorem dX7_init_10 : decode cX7_init 10 = .ok (.putfield 9, 3) := by decide +kernel
theorem dX7_init_13 : decode cX7_init 13 = .ok (.aload_n 0, 1) := by decide +kernel
theorem dX7_init_14 : decode cX7_init 14 = .ok (.sipush 1024, 3) := by decide +kernel
theorem dX7_init_17 : decode cX7_init 17 = .ok (.newarray .int, 2) := by decide +kernel
theorem dX7_init_19 : decode cX7_init 19 = .ok (.putfield 15, 3) := by decide +kernel
theorem dX7_init_22 : decode cX7_init 22 = .ok (.aload_n 0, 1) := by decide +kernel
theorem dX7_init_23 : decode cX7_init 23 = .ok (.sipush 1024, 3) := by decide +kernel
theorem dX7_init_26 : decode cX7_init 26 = .ok (.newarray .int, 2) := by decide +kernel
theorem dX7_init_28 : decode cX7_init 28 = .ok (.putfield 18, 3) := by decide +kernel
theorem dX7_init_31 : decode cX7_init 31 = .ok (.aload_n 0, 1) := by decide +kernel
theorem dX7_init_32 : decode cX7_init 32 = .ok (.sipush 1024, 3) := by decide +kernel
theorem dX7_init_35 : decode cX7_init 35 = .ok (.newarray .int, 2) := by decide +kernel
theorem dX7_init_37 : decode cX7_init 37 = .ok (.putfield 21, 3) := by decide +kernel
theorem dX7_init_40 : decode cX7_init 40 = .ok (.aload_n 0, 1) := by decide +kernel
theorem dX7_init_41 : decode cX7_init 41 = .ok (.sipush 1024, 3) := by decide +kernel
theorem dX7_init_44 : decode cX7_init 44 = .ok (.newarray .int, 2) := by decide +kernel
theorem dX7_init_46 : decode cX7_init 46 = .ok (.putfield 24, 3) := by decide +kernel
theorem dX7_init_49 : decode cX7_init 49 = .ok (.aload_n 0, 1) := by decide +kernel
theorem dX7_init_50 : decode cX7_init 50 = .ok (.sipush 1024, 3) := by decide +kernel
theorem dX7_init_53 : decode cX7_init 53 = .ok (.newarray .int, 2) := by decide +kernel
theorem dX7_init_55 : decode cX7_init 55 = .ok (.putfield 27, 3) := by decide +kernel
theorem dX7_init_58 : decode cX7_init 58 = .ok (.aload_n 0, 1) := by decide +kernel
theorem dX7_init_59 : decode cX7_init 59 = .ok (.sipush 1024, 3) := by decide +kernel
theorem dX7_init_62 : decode cX7_init 62 = .ok (.newarray .int, 2) := by decide +kernel
theorem dX7_init_64 : decode cX7_init 64 = .ok (.putfield 30, 3) := by decide +kernel
theorem dX7_init_67 : decode cX7_init 67 = .ok (.aload_n 0, 1) := by decide +kernel
theorem dX7_init_68 : decode cX7_init 68 = .ok (.new 33, 3) := by decide +kernel
theorem dX7_init_71 : decode cX7_init 71 = .ok (.dup, 1) := by decide +kernel
theorem dX7_init_72 : decode cX7_init 72 = .ok (.invokespecial 35, 3) := by decide +kernel
theorem dX7_init_75 : decode cX7_init 75 = .ok (.putfield 36, 3) := by decide +kernel
theorem dX7_init_78 : decode cX7_init 78 = .ok (.aload_n 0, 1) := by decide +kernel
theorem dX7_init_79 : decode cX7_init 79 = .ok (.aload_n 1, 1) := by decide +kernel
theorem dX7_init_80 : decode cX7_init 80 = .ok (.putfield 40, 3) := by decide +kernel
theorem dX7_init_83 : decode cX7_init 83 = .ok (.aload_n 0, 1) := by decide +kernel
theorem dX7_init_84 : decode cX7_init 84 = .ok (.iconst (-1), 1) := by decide +kernel
theorem dX7_init_85 : decode cX7_init 85 = .ok (.putfield 44, 3) := by decide +kernel
theorem dX7_init_88 : decode cX7_init 88 = .ok (.return_, 1) := by decide +kernel
theorem dX7_begin_0 : decode cX7_begin 0 = .ok (.aload_n 0, 1) := by decide +kernel
theorem dX7_begin_1 : decode cX7_begin 1 = .ok (.aload_n 1, 1) := by decide +kernel
theorem dX7_begin_2 : decode cX7_begin 2 = .ok (.putfield 40, 3) := by decide +kernel
theorem dX7_begin_5 : decode cX7_begin 5 = .ok (.aload_n 0, 1) := by decide +kernel
theorem dX7_begin_6 : decode cX7_begin 6 = .ok (.iload_n 2, 1) := by decide +kernel
theorem dX7_begin_7 : decode cX7_begin 7 = .ok (.putfield 44, 3) := by decide +kernel
theorem dX7_begin_10 : decode cX7_begin 10 = .ok (.aload_n 0, 1) := by decide +kernel
theorem dX7_begin_11 : decode cX7_begin 11 = .ok (.iconst 1, 1) := by decide +kernel
theorem dX7_begin_12 : decode cX7_begin 12 = .ok (.putfield 48, 3) := by decide +kernel
theorem dX7_begin_15 : decode cX7_begin 15 = .ok (.aload_n 0, 1) := by decide +kernel
theorem dX7_begin_16 : decode cX7_begin 16 = .ok (.iconst 0, 1) := by decide +kernel
theorem dX7_begin_17 : decode cX7_begin 17 = .ok (.putfield 52, 3) := by decide +kernel
theorem dX7_begin_20 : decode cX7_begin 20 = .ok (.aload_n 0, 1) := by decide +kernel
theorem dX7_begin_21 : decode cX7_begin 21 = .ok (.iconst 0, 1) := by decide +kernel
theorem dX7_begin_22 : decode cX7_begin 22 = .ok (.putfield 55, 3) := by decide +kernel
theorem dX7_begin_25 : decode cX7_begin 25 = .ok (.aload_n 0, 1) := by decide +kernel
theorem dX7_begin_26 : decode cX7_begin 26 = .ok (.iconst 0, 1) := by decide +kernel
theorem dX7_begin_27 : decode cX7_begin 27 = .ok (.putfield 58, 3) := by decide +kernel
theorem dX7_begin_30 : decode cX7_begin 30 = .ok (.aload_n 0, 1) := by decide +kernel
theorem dX7_begin_31 : decode cX7_begin 31 = .ok (.iconst 0, 1) := by decide +kernel
theorem dX7_begin_32 : decode cX7_begin 32 = .ok (.putfield 61, 3) := by decide +kernel
theorem dX7_begin_35 : decode cX7_begin 35 = .ok (.aload_n 0, 1) := by decide +kernel
theorem dX7_begin_36 : decode cX7_begin 36 = .ok (.iconst (-1), 1) := by decide +kernel
theorem dX7_begin_37 : decode cX7_begin 37 = .ok (.putfield 64, 3) := by decide +kernel
theorem dX7_begin_40 : decode cX7_begin 40 = .ok (.aload_n 0, 1) := by decide +kernel
theorem dX7_begin_41 : decode cX7_begin 41 = .ok (.getfield 24, 3) := by decide +kernel
theorem dX7_begin_44 : decode cX7_begin 44 = .ok (.iconst (-1), 1) := by decide +kernel
theorem dX7_begin_45 : decode cX7_begin 45 = .ok (.invokestatic 67, 3) := by decide +kernel
theorem dX7_begin_48 : decode cX7_begin 48 = .ok (.aload_n 0, 1) := by decide +kernel
theorem dX7_begin_49 : decode cX7_begin 49 = .ok (.getfield 36, 3) := by decide +kernel
theorem dX7_begin_52 : decode cX7_begin 52 = .ok (.invokevirtual 73, 3) := by decide +kernel
theorem dX7_begin_55 : decode cX7_begin 55 = .ok (.aload_n 0, 1) := by decide +kernel
theorem dX7_begin_56 : decode cX7_begin 56 = .ok (.aload_n 0, 1) := by decide +kernel
theorem dX7_begin_57 : decode cX7_begin 57 = .ok (.getfield 40, 3) := by decide +kernel
theorem dX7_begin_60 : decode cX7_begin 60 = .ok (.invokevirtual 76, 3) := by decide +kernel
theorem dX7_begin_63 : decode cX7_begin 63 = .ok (.iconst (-1), 1) := by decide +kernel
theorem dX7_begin_64 : decode cX7_begin 64 = .ok (.iconst (-1), 1) := by decide +kernel
theorem dX7_begin_65 : decode cX7_begin 65 = .ok (.invokevirtual 82, 3) := by decide +kernel
theorem dX7_begin_68 : decode cX7_begin 68 = .ok (.aload_n 0, 1) := by decide +kernel
theorem dX7_begin_69 : decode cX7_begin 69 = .ok (.iconst 0, 1) := by decide +kernel
theorem dX7_begin_70 : decode cX7_begin 70 = .ok (.invokevirtual 86, 3) := by decide +kernel
theorem dX7_begin_73 : decode cX7_begin 73 = .ok (.return_, 1) := by decide +kernel
theorem dX7_takeMore_0 : decode cX7_takeMore 0 = .ok (.aload_n 0, 1) := by decide +kernel
theorem dX7_takeMore_1 : decode cX7_takeMore 1 = .ok (.getfield 40, 3) := by decide +kernel
theorem dX7_takeMore_4 : decode cX7_takeMore 4 = .ok (.invokevirtual 76, 3) := by decide +kernel
theorem dX7_takeMore_7 : decode cX7_takeMore 7 = .ok (.istore_n 2, 1) := by decide +kernel
theorem dX7_takeMore_8 : decode cX7_takeMore 8 = .ok (.iconst 0, 1) := by decide +kernel
theorem dX7_takeMore_9 : decode cX7_takeMore 9 = .ok (.istore_n 3, 1) := by decide +kernel
theorem dX7_takeMore_10 : decode cX7_takeMore 10 = .ok (.iload_n 3, 1) := by decide +kernel
theorem dX7_takeMore_11 : decode cX7_takeMore 11 = .ok (.iload_n 1, 1) := by decide +kernel
theorem dX7_takeMore_12 : decode cX7_takeMore 12 = .ok (.if_icmp .ge 24, 3) := by decide +kernel
theorem dX7_takeMore_15 : decode cX7_takeMore 15 = .ok (.aload_n 0, 1) := by decide +kernel
theorem dX7_takeMore_16 : decode cX7_takeMore 16 = .ok (.getfield 61, 3) := by decide +kernel
theorem dX7_takeMore_19 : decode cX7_takeMore 19 = .ok (.aload_n 0, 1) := by decide +kernel
theorem dX7_takeMore_20 : decode cX7_takeMore 20 = .ok (.getfield 58, 3) := by decide +kernel
theorem dX7_takeMore_23 : decode cX7_takeMore 23 = .ok (.if_icmp .ge 13, 3) := by decide +kernel
theorem dX7_takeMore_26 : decode cX7_takeMore 26 = .ok (.aload_n 0, 1) := by decide +kernel
theorem dX7_takeMore_27 : decode cX7_takeMore 27 = .ok (.invokevirtual 90, 3) := by decide +kernel
theorem dX7_takeMore_30 : decode cX7_takeMore 30 = .ok (.iinc 3 1, 3) := by decide +kernel
theorem dX7_takeMore_33 : decode cX7_takeMore 33 = .ok (.goto (-23), 3) := by decide +kernel
theorem dX7_takeMore_36 : decode cX7_takeMore 36 = .ok (.aload_n 0, 1) := by decide +kernel
theorem dX7_takeMore_37 : decode cX7_takeMore 37 = .ok (.getfield 40, 3) := by decide +kernel
theorem dX7_takeMore_40 : decode cX7_takeMore 40 = .ok (.iload_n 2, 1) := by decide +kernel
theorem dX7_takeMore_41 : decode cX7_takeMore 41 = .ok (.invokevirtual 93, 3) := by decide +kernel
theorem dX7_takeMore_44 : decode cX7_takeMore 44 = .ok (.return_, 1) := by decide +kernel
theorem dX7_takeNext_0 : decode cX7_takeNext 0 = .ok (.aload_n 0, 1) := by decide +kernel
theorem dX7_takeNext_1 : decode cX7_takeNext 1 = .ok (.getfield 9, 3) := by decide +kernel
theorem dX7_takeNext_4 : decode cX7_takeNext 4 = .ok (.aload_n 0, 1) := by decide +kernel
theorem dX7_takeNext_5 : decode cX7_takeNext 5 = .ok (.getfield 61, 3) := by decide +kernel
theorem dX7_takeNext_8 : decode cX7_takeNext 8 = .ok (.iaload, 1) := by decide +kernel
theorem dX7_takeNext_9 : decode cX7_takeNext 9 = .ok (.istore_n 1, 1) := by decide +kernel
theorem dX7_takeNext_10 : decode cX7_takeNext 10 = .ok (.aload_n 0, 1) := by decide +kernel
theorem dX7_takeNext_11 : decode cX7_takeNext 11 = .ok (.getfield 58, 3) := by decide +kernel
theorem dX7_takeNext_14 : decode cX7_takeNext 14 = .ok (.istore_n 2, 1) := by decide +kernel
theorem dX7_takeNext_15 : decode cX7_takeNext 15 = .ok (.aload_n 0, 1) := by decide +kernel
theorem dX7_takeNext_16 : decode cX7_takeNext 16 = .ok (.getfield 40, 3) := by decide +kernel
theorem dX7_takeNext_19 : decode cX7_takeNext 19 = .ok (.iload_n 1, 1) := by decide +kernel
theorem dX7_takeNext_20 : decode cX7_takeNext 20 = .ok (.invokevirtual 93, 3) := by decide +kernel
theorem dX7_takeNext_23 : decode cX7_takeNext 23 = .ok (.iconst 0, 1) := by decide +kernel
theorem dX7_takeNext_24 : decode cX7_takeNext 24 = .ok (.istore_n 3, 1) := by decide +kernel
theorem dX7_takeNext_25 : decode cX7_takeNext 25 = .ok (.iload_n 3, 1) := by decide +kernel
theorem dX7_takeNext_26 : decode cX7_takeNext 26 = .ok (.bipush 38, 2) := by decide +kernel
theorem dX7_takeNext_28 : decode cX7_takeNext 28 = .ok (.if_icmp .ge 61, 3) := by decide +kernel
theorem dX7_takeNext_31 : decode cX7_takeNext 31 = .ok (.aload_n 0, 1) := by decide +kernel
theorem dX7_takeNext_32 : decode cX7_takeNext 32 = .ok (.getfield 40, 3) := by decide +kernel
theorem dX7_takeNext_35 : decode cX7_takeNext 35 = .ok (.iload_n 3, 1) := by decide +kernel
theorem dX7_takeNext_36 : decode cX7_takeNext 36 = .ok (.iload_n 1, 1) := by decide +kernel
theorem dX7_takeNext_37 : decode cX7_takeNext 37 = .ok (.invokevirtual 96, 3) := by decide +kernel
theorem dX7_takeNext_40 : decode cX7_takeNext 40 = .ok (.istore 4, 2) := by decide +kernel
theorem dX7_takeNext_42 : decode cX7_takeNext 42 = .ok (.iload 4, 2) := by decide +kernel
theorem dX7_takeNext_44 : decode cX7_takeNext 44 = .ok (.iconst (-1), 1) := by decide +kernel
theorem dX7_takeNext_45 : decode cX7_takeNext 45 = .ok (.if_icmp .eq 38, 3) := by decide +kernel
theorem dX7_takeNext_48 : decode cX7_takeNext 48 = .ok (.iload 4, 2) := by decide +kernel
theorem dX7_takeNext_50 : decode cX7_takeNext 50 = .ok (.iload_n 1, 1) := by decide +kernel
theorem dX7_takeNext_51 : decode cX7_takeNext 51 = .ok (.if_icmp .eq 32, 3) := by decide +kernel
theorem dX7_takeNext_54 : decode cX7_takeNext 54 = .ok (.aload_n 0, 1) := by decide +kernel
theorem dX7_takeNext_55 : decode cX7_takeNext 55 = .ok (.iload 4, 2) := by decide +kernel
theorem dX7_takeNext_57 : decode cX7_takeNext 57 = .ok (.iload_n 3, 1) := by decide +kernel
theorem dX7_takeNext_58 : decode cX7_takeNext 58 = .ok (.aload_n 0, 1) := by decide +kernel
theorem dX7_takeNext_59 : decode cX7_takeNext 59 = .ok (.getfield 61, 3) := by decide +kernel
theorem dX7_takeNext_62 : decode cX7_takeNext 62 = .ok (.invokevirtual 82, 3) := by decide +kernel
theorem dX7_takeNext_65 : decode cX7_takeNext 65 = .ok (.aload_n 0, 1) := by decide +kernel
theorem dX7_takeNext_66 : decode cX7_takeNext 66 = .ok (.getfield 36, 3) := by decide +kernel
theorem dX7_takeNext_69 : decode cX7_takeNext 69 = .ok (.aload_n 0, 1) := by decide +kernel
theorem dX7_takeNext_70 : decode cX7_takeNext 70 = .ok (.getfield 61, 3) := by decide +kernel
theorem dX7_takeNext_73 : decode cX7_takeNext 73 = .ok (.aload_n 0, 1) := by decide +kernel
theorem dX7_takeNext_74 : decode cX7_takeNext 74 = .ok (.getfield 24, 3) := by decide +kernel
theorem dX7_takeNext_77 : decode cX7_takeNext 77 = .ok (.iload 4, 2) := by decide +kernel
theorem dX7_takeNext_79 : decode cX7_takeNext 79 = .ok (.iaload, 1) := by decide +kernel
theorem dX7_takeNext_80 : decode cX7_takeNext 80 = .ok (.invokevirtual 100, 3) := by decide +kernel
theorem dX7_takeNext_83 : decode cX7_takeNext 83 = .ok (.iinc 3 1, 3) := by decide +kernel
theorem dX7_takeNext_86 : decode cX7_takeNext 86 = .ok (.goto (-61), 3) := by decide +kernel
theorem dX7_takeNext_89 : decode cX7_takeNext 89 = .ok (.aload_n 0, 1) := by decide +kernel
theorem dX7_takeNext_90 : decode cX7_takeNext 90 = .ok (.dup, 1) := by decide +kernel
theorem dX7_takeNext_91 : decode cX7_takeNext 91 = .ok (.getfield 61, 3) := by decide +kernel
theorem dX7_takeNext_94 : decode cX7_takeNext 94 = .ok (.iconst 1, 1) := by decide +kernel
theorem dX7_takeNext_95 : decode cX7_takeNext 95 = .ok (.iadd, 1) := by decide +kernel
theorem dX7_takeNext_96 : decode cX7_takeNext 96 = .ok (.putfield 61, 3) := by decide +kernel
theorem dX7_takeNext_99 : decode cX7_takeNext 99 = .ok (.iload_n 2, 1) := by decide +kernel
theorem dX7_takeNext_100 : decode cX7_takeNext 100 = .ok (.istore_n 3, 1) := by decide +kernel
theorem dX7_takeNext_101 : decode cX7_takeNext 101 = .ok (.iload_n 3, 1) := by decide +kernel
theorem dX7_takeNext_102 : decode cX7_takeNext 102 = .ok (.aload_n 0, 1) := by decide +kernel
theorem dX7_takeNext_103 : decode cX7_takeNext 103 = .ok (.getfield 58, 3) := by decide +kernel
theorem dX7_takeNext_106 : decode cX7_takeNext 106 = .ok (.if_icmp .ge 27, 3) := by decide +kernel
theorem dX7_takeNext_109 : decode cX7_takeNext 109 = .ok (.aload_n 0, 1) := by decide +kernel
theorem dX7_takeNext_110 : decode cX7_takeNext 110 = .ok (.getfield 40, 3) := by decide +kernel
theorem dX7_takeNext_113 : decode cX7_takeNext 113 = .ok (.aload_n 0, 1) := by decide +kernel
theorem dX7_takeNext_114 : decode cX7_takeNext 114 = .ok (.getfield 9, 3) := by decide +kernel
theorem dX7_takeNext_117 : decode cX7_takeNext 117 = .ok (.iload_n 3, 1) := by decide +kernel
theorem dX7_takeNext_118 : decode cX7_takeNext 118 = .ok (.iaload, 1) := by decide +kernel
theorem dX7_takeNext_119 : decode cX7_takeNext 119 = .ok (.invokevirtual 93, 3) := by decide +kernel
theorem dX7_takeNext_122 : decode cX7_takeNext 122 = .ok (.aload_n 0, 1) := by decide +kernel
theorem dX7_takeNext_123 : decode cX7_takeNext 123 = .ok (.iload_n 3, 1) := by decide +kernel
theorem dX7_takeNext_124 : decode cX7_takeNext 124 = .ok (.invokevirtual 86, 3) := by decide +kernel
theorem dX7_takeNext_127 : decode cX7_takeNext 127 = .ok (.iinc 3 1, 3) := by decide +kernel
theorem dX7_takeNext_130 : decode cX7_takeNext 130 = .ok (.goto (-29), 3) := by decide +kernel
theorem dX7_takeNext_133 : decode cX7_takeNext 133 = .ok (.return_, 1) := by decide +kernel
theorem dX7_comeTo_0 : decode cX7_comeTo 0 = .ok (.aload_n 0, 1) := by decide +kernel
theorem dX7_comeTo_1 : decode cX7_comeTo 1 = .ok (.getfield 24, 3) := by decide +kernel
theorem dX7_comeTo_4 : decode cX7_comeTo 4 = .ok (.iload_n 1, 1) := by decide +kernel
theorem dX7_comeTo_5 : decode cX7_comeTo 5 = .ok (.iaload, 1) := by decide +kernel
theorem dX7_comeTo_6 : decode cX7_comeTo 6 = .ok (.iconst (-1), 1) := by decide +kernel
theorem dX7_comeTo_7 : decode cX7_comeTo 7 = .ok (.if_icmp .ne 13, 3) := by decide +kernel
theorem dX7_comeTo_10 : decode cX7_comeTo 10 = .ok (.aload_n 0, 1) := by decide +kernel
theorem dX7_comeTo_11 : decode cX7_comeTo 11 = .ok (.getfield 58, 3) := by decide +kernel
theorem dX7_comeTo_14 : decode cX7_comeTo 14 = .ok (.sipush 1024, 3) := by decide +kernel
theorem dX7_comeTo_17 : decode cX7_comeTo 17 = .ok (.if_icmp .lt 4, 3) := by decide +kernel
theorem dX7_comeTo_20 : decode cX7_comeTo 20 = .ok (.return_, 1) := by decide +kernel
theorem dX7_comeTo_21 : decode cX7_comeTo 21 = .ok (.aload_n 0, 1) := by decide +kernel
theorem dX7_comeTo_22 : decode cX7_comeTo 22 = .ok (.getfield 24, 3) := by decide +kernel
theorem dX7_comeTo_25 : decode cX7_comeTo 25 = .ok (.iload_n 1, 1) := by decide +kernel
theorem dX7_comeTo_26 : decode cX7_comeTo 26 = .ok (.aload_n 0, 1) := by decide +kernel
theorem dX7_comeTo_27 : decode cX7_comeTo 27 = .ok (.getfield 58, 3) := by decide +kernel
theorem dX7_comeTo_30 : decode cX7_comeTo 30 = .ok (.iastore, 1) := by decide +kernel
theorem dX7_comeTo_31 : decode cX7_comeTo 31 = .ok (.aload_n 0, 1) := by decide +kernel
theorem dX7_comeTo_32 : decode cX7_comeTo 32 = .ok (.getfield 9, 3) := by decide +kernel
theorem dX7_comeTo_35 : decode cX7_comeTo 35 = .ok (.aload_n 0, 1) := by decide +kernel
theorem dX7_comeTo_36 : decode cX7_comeTo 36 = .ok (.getfield 58, 3) := by decide +kernel
theorem dX7_comeTo_39 : decode cX7_comeTo 39 = .ok (.iload_n 1, 1) := by decide +kernel
theorem dX7_comeTo_40 : decode cX7_comeTo 40 = .ok (.iastore, 1) := by decide +kernel
theorem dX7_comeTo_41 : decode cX7_comeTo 41 = .ok (.aload_n 0, 1) := by decide +kernel
theorem dX7_comeTo_42 : decode cX7_comeTo 42 = .ok (.getfield 18, 3) := by decide +kernel
theorem dX7_comeTo_45 : decode cX7_comeTo 45 = .ok (.aload_n 0, 1) := by decide +kernel
theorem dX7_comeTo_46 : decode cX7_comeTo 46 = .ok (.getfield 58, 3) := by decide +kernel
theorem dX7_comeTo_49 : decode cX7_comeTo 49 = .ok (.iload_n 2, 1) := by decide +kernel
theorem dX7_comeTo_50 : decode cX7_comeTo 50 = .ok (.iastore, 1) := by decide +kernel
theorem dX7_comeTo_51 : decode cX7_comeTo 51 = .ok (.aload_n 0, 1) := by decide +kernel
theorem dX7_comeTo_52 : decode cX7_comeTo 52 = .ok (.getfield 21, 3) := by decide +kernel
theorem dX7_comeTo_55 : decode cX7_comeTo 55 = .ok (.aload_n 0, 1) := by decide +kernel
theorem dX7_comeTo_56 : decode cX7_comeTo 56 = .ok (.getfield 58, 3) := by decide +kernel
theorem dX7_comeTo_59 : decode cX7_comeTo 59 = .ok (.iload_n 3, 1) := by decide +kernel
theorem dX7_comeTo_60 : decode cX7_comeTo 60 = .ok (.iastore, 1) := by decide +kernel
theorem dX7_comeTo_61 : decode cX7_comeTo 61 = .ok (.aload_n 0, 1) := by decide +kernel
theorem dX7_comeTo_62 : decode cX7_comeTo 62 = .ok (.getfield 15, 3) := by decide +kernel
theorem dX7_comeTo_65 : decode cX7_comeTo 65 = .ok (.aload_n 0, 1) := by decide +kernel
theorem dX7_comeTo_66 : decode cX7_comeTo 66 = .ok (.getfield 58, 3) := by decide +kernel
theorem dX7_comeTo_69 : decode cX7_comeTo 69 = .ok (.iload_n 3, 1) := by decide +kernel
theorem dX7_comeTo_70 : decode cX7_comeTo 70 = .ok (.iconst (-1), 1) := by decide +kernel
theorem dX7_comeTo_71 : decode cX7_comeTo 71 = .ok (.if_icmp .ne 7, 3) := by decide +kernel
theorem dX7_comeTo_74 : decode cX7_comeTo 74 = .ok (.iconst 0, 1) := by decide +kernel
theorem dX7_comeTo_75 : decode cX7_comeTo 75 = .ok (.goto 11, 3) := by decide +kernel
theorem dX7_comeTo_78 : decode cX7_comeTo 78 = .ok (.aload_n 0, 1) := by decide +kernel
theorem dX7_comeTo_79 : decode cX7_comeTo 79 = .ok (.getfield 15, 3) := by decide +kernel
theorem dX7_comeTo_82 : decode cX7_comeTo 82 = .ok (.iload_n 3, 1) := by decide +kernel
theorem dX7_comeTo_83 : decode cX7_comeTo 83 = .ok (.iaload, 1) := by decide +kernel
theorem dX7_comeTo_84 : decode cX7_comeTo 84 = .ok (.iconst 1, 1) := by decide +kernel
theorem dX7_comeTo_85 : decode cX7_comeTo 85 = .ok (.iadd, 1) := by decide +kernel
theorem dX7_comeTo_86 : decode cX7_comeTo 86 = .ok (.iastore, 1) := by decide +kernel
theorem dX7_comeTo_87 : decode cX7_comeTo 87 = .ok (.aload_n 0, 1) := by decide +kernel
theorem dX7_comeTo_88 : decode cX7_comeTo 88 = .ok (.dup, 1) := by decide +kernel
theorem dX7_comeTo_89 : decode cX7_comeTo 89 = .ok (.getfield 58, 3) := by decide +kernel
theorem dX7_comeTo_92 : decode cX7_comeTo 92 = .ok (.iconst 1, 1) := by decide +kernel
theorem dX7_comeTo_93 : decode cX7_comeTo 93 = .ok (.iadd, 1) := by decide +kernel
theorem dX7_comeTo_94 : decode cX7_comeTo 94 = .ok (.putfield 58, 3) := by decide +kernel
theorem dX7_comeTo_97 : decode cX7_comeTo 97 = .ok (.return_, 1) := by decide +kernel
theorem dX7_lookForOpen_0 : decode cX7_lookForOpen 0 = .ok (.aload_n 0, 1) := by decide +kernel
theorem dX7_lookForOpen_1 : decode cX7_lookForOpen 1 = .ok (.getfield 40, 3) := by decide +kernel
theorem dX7_lookForOpen_4 : decode cX7_lookForOpen 4 = .ok (.iconst 0, 1) := by decide +kernel
theorem dX7_lookForOpen_5 : decode cX7_lookForOpen 5 = .ok (.invokevirtual 104, 3) := by decide +kernel
theorem dX7_lookForOpen_8 : decode cX7_lookForOpen 8 = .ok (.istore_n 2, 1) := by decide +kernel
theorem dX7_lookForOpen_9 : decode cX7_lookForOpen 9 = .ok (.aload_n 0, 1) := by decide +kernel
theorem dX7_lookForOpen_10 : decode cX7_lookForOpen 10 = .ok (.getfield 27, 3) := by decide +kernel
theorem dX7_lookForOpen_13 : decode cX7_lookForOpen 13 = .ok (.iload_n 1, 1) := by decide +kernel
theorem dX7_lookForOpen_14 : decode cX7_lookForOpen 14 = .ok (.iload_n 2, 1) := by decide +kernel
theorem dX7_lookForOpen_15 : decode cX7_lookForOpen 15 = .ok (.ifCond .eq 7, 3) := by decide +kernel
theorem dX7_lookForOpen_18 : decode cX7_lookForOpen 18 = .ok (.iconst 0, 1) := by decide +kernel
theorem dX7_lookForOpen_19 : decode cX7_lookForOpen 19 = .ok (.goto 4, 3) := by decide +kernel
theorem dX7_lookForOpen_22 : decode cX7_lookForOpen 22 = .ok (.iconst (-1), 1) := by decide +kernel
theorem dX7_lookForOpen_23 : decode cX7_lookForOpen 23 = .ok (.iastore, 1) := by decide +kernel
theorem dX7_lookForOpen_24 : decode cX7_lookForOpen 24 = .ok (.iload_n 2, 1) := by decide +kernel
theorem dX7_lookForOpen_25 : decode cX7_lookForOpen 25 = .ok (.ifCond .eq 16, 3) := by decide +kernel
theorem dX7_lookForOpen_28 : decode cX7_lookForOpen 28 = .ok (.aload_n 0, 1) := by decide +kernel
theorem dX7_lookForOpen_29 : decode cX7_lookForOpen 29 = .ok (.getfield 64, 3) := by decide +kernel
theorem dX7_lookForOpen_32 : decode cX7_lookForOpen 32 = .ok (.iconst (-1), 1) := by decide +kernel
theorem dX7_lookForOpen_33 : decode cX7_lookForOpen 33 = .ok (.if_icmp .ne 8, 3) := by decide +kernel
theorem dX7_lookForOpen_36 : decode cX7_lookForOpen 36 = .ok (.aload_n 0, 1) := by decide +kernel
theorem dX7_lookForOpen_37 : decode cX7_lookForOpen 37 = .ok (.iload_n 1, 1) := by decide +kernel
theorem dX7_lookForOpen_38 : decode cX7_lookForOpen 38 = .ok (.putfield 64, 3) := by decide +kernel
theorem dX7_lookForOpen_41 : decode cX7_lookForOpen 41 = .ok (.return_, 1) := by decide +kernel
theorem dX7_isWhole_0 : decode cX7_isWhole 0 = .ok (.aload_n 0, 1) := by decide +kernel
theorem dX7_isWhole_1 : decode cX7_isWhole 1 = .ok (.getfield 61, 3) := by decide +kernel
theorem dX7_isWhole_4 : decode cX7_isWhole 4 = .ok (.aload_n 0, 1) := by decide +kernel
theorem dX7_isWhole_5 : decode cX7_isWhole 5 = .ok (.getfield 58, 3) := by decide +kernel
theorem dX7_isWhole_8 : decode cX7_isWhole 8 = .ok (.if_icmp .ne 7, 3) := by decide +kernel
theorem dX7_isWhole_11 : decode cX7_isWhole 11 = .ok (.iconst 1, 1) := by decide +kernel
theorem dX7_isWhole_12 : decode cX7_isWhole 12 = .ok (.goto 4, 3) := by decide +kernel
theorem dX7_isWhole_15 : decode cX7_isWhole 15 = .ok (.iconst 0, 1) := by decide +kernel
theorem dX7_isWhole_16 : decode cX7_isWhole 16 = .ok (.ireturn, 1) := by decide +kernel
theorem dX7_orderOf_0 : decode cX7_orderOf 0 = .ok (.iload_n 1, 1) := by decide +kernel
theorem dX7_orderOf_1 : decode cX7_orderOf 1 = .ok (.ifCond .lt 19, 3) := by decide +kernel
theorem dX7_orderOf_4 : decode cX7_orderOf 4 = .ok (.iload_n 1, 1) := by decide +kernel
theorem dX7_orderOf_5 : decode cX7_orderOf 5 = .ok (.sipush 1024, 3) := by decide +kernel
theorem dX7_orderOf_8 : decode cX7_orderOf 8 = .ok (.if_icmp .ge 12, 3) := by decide +kernel
theorem dX7_orderOf_11 : decode cX7_orderOf 11 = .ok (.aload_n 0, 1) := by decide +kernel
theorem dX7_orderOf_12 : decode cX7_orderOf 12 = .ok (.getfield 24, 3) := by decide +kernel
theorem dX7_orderOf_15 : decode cX7_orderOf 15 = .ok (.iload_n 1, 1) := by decide +kernel
theorem dX7_orderOf_16 : decode cX7_orderOf 16 = .ok (.iaload, 1) := by decide +kernel
theorem dX7_orderOf_17 : decode cX7_orderOf 17 = .ok (.goto 4, 3) := by decide +kernel
theorem dX7_orderOf_20 : decode cX7_orderOf 20 = .ok (.iconst (-1), 1) := by decide +kernel
theorem dX7_orderOf_21 : decode cX7_orderOf 21 = .ok (.ireturn, 1) := by decide +kernel
theorem dX7_about_0 : decode cX7_about 0 = .ok (.iload_n 1, 1) := by decide +kernel
theorem dX7_about_1 : decode cX7_about 1 = .ok (.tableswitch 105 0 5 #[39, 44, 49, 74, 79, 92], 39) := by decide +kernel
theorem dX7_about_40 : decode cX7_about 40 = .ok (.aload_n 0, 1) := by decide +kernel
theorem dX7_about_41 : decode cX7_about 41 = .ok (.getfield 58, 3) := by decide +kernel
theorem dX7_about_44 : decode cX7_about 44 = .ok (.ireturn, 1) := by decide +kernel
theorem dX7_about_45 : decode cX7_about 45 = .ok (.aload_n 0, 1) := by decide +kernel
theorem dX7_about_46 : decode cX7_about 46 = .ok (.getfield 61, 3) := by decide +kernel
theorem dX7_about_49 : decode cX7_about 49 = .ok (.ireturn, 1) := by decide +kernel
theorem dX7_about_50 : decode cX7_about 50 = .ok (.aload_n 0, 1) := by decide +kernel
theorem dX7_about_51 : decode cX7_about 51 = .ok (.getfield 58, 3) := by decide +kernel
theorem dX7_about_54 : decode cX7_about 54 = .ok (.ifCond .ne 7, 3) := by decide +kernel
theorem dX7_about_57 : decode cX7_about 57 = .ok (.iconst 0, 1) := by decide +kernel
theorem dX7_about_58 : decode cX7_about 58 = .ok (.goto 16, 3) := by decide +kernel
theorem dX7_about_61 : decode cX7_about 61 = .ok (.aload_n 0, 1) := by decide +kernel
theorem dX7_about_62 : decode cX7_about 62 = .ok (.getfield 15, 3) := by decide +kernel
theorem dX7_about_65 : decode cX7_about 65 = .ok (.aload_n 0, 1) := by decide +kernel
theorem dX7_about_66 : decode cX7_about 66 = .ok (.getfield 58, 3) := by decide +kernel
theorem dX7_about_69 : decode cX7_about 69 = .ok (.iconst 1, 1) := by decide +kernel
theorem dX7_about_70 : decode cX7_about 70 = .ok (.isub, 1) := by decide +kernel
theorem dX7_about_71 : decode cX7_about 71 = .ok (.iaload, 1) := by decide +kernel
theorem dX7_about_72 : decode cX7_about 72 = .ok (.iconst 1, 1) := by decide +kernel
theorem dX7_about_73 : decode cX7_about 73 = .ok (.iadd, 1) := by decide +kernel
theorem dX7_about_74 : decode cX7_about 74 = .ok (.ireturn, 1) := by decide +kernel
theorem dX7_about_75 : decode cX7_about 75 = .ok (.aload_n 0, 1) := by decide +kernel
theorem dX7_about_76 : decode cX7_about 76 = .ok (.getfield 44, 3) := by decide +kernel
theorem dX7_about_79 : decode cX7_about 79 = .ok (.ireturn, 1) := by decide +kernel
theorem dX7_about_80 : decode cX7_about 80 = .ok (.aload_n 0, 1) := by decide +kernel
theorem dX7_about_81 : decode cX7_about 81 = .ok (.invokevirtual 108, 3) := by decide +kernel
theorem dX7_about_84 : decode cX7_about 84 = .ok (.ifCond .eq 7, 3) := by decide +kernel
theorem dX7_about_87 : decode cX7_about 87 = .ok (.iconst 1, 1) := by decide +kernel
theorem dX7_about_88 : decode cX7_about 88 = .ok (.goto 4, 3) := by decide +kernel
theorem dX7_about_91 : decode cX7_about 91 = .ok (.iconst 0, 1) := by decide +kernel
theorem dX7_about_92 : decode cX7_about 92 = .ok (.ireturn, 1) := by decide +kernel
theorem dX7_about_93 : decode cX7_about 93 = .ok (.aload_n 0, 1) := by decide +kernel
theorem dX7_about_94 : decode cX7_about 94 = .ok (.getfield 52, 3) := by decide +kernel
theorem dX7_about_97 : decode cX7_about 97 = .ok (.ifCond .eq 7, 3) := by decide +kernel
theorem dX7_about_100 : decode cX7_about 100 = .ok (.iconst 1, 1) := by decide +kernel
theorem dX7_about_101 : decode cX7_about 101 = .ok (.goto 4, 3) := by decide +kernel
theorem dX7_about_104 : decode cX7_about 104 = .ok (.iconst 0, 1) := by decide +kernel
theorem dX7_about_105 : decode cX7_about 105 = .ok (.ireturn, 1) := by decide +kernel
theorem dX7_about_106 : decode cX7_about 106 = .ok (.aload_n 0, 1) := by decide +kernel
theorem dX7_about_107 : decode cX7_about 107 = .ok (.getfield 9, 3) := by decide +kernel
theorem dX7_about_110 : decode cX7_about 110 = .ok (.iconst 0, 1) := by decide +kernel
theorem dX7_about_111 : decode cX7_about 111 = .ok (.iaload, 1) := by decide +kernel
theorem dX7_about_112 : decode cX7_about 112 = .ok (.ireturn, 1) := by decide +kernel
theorem dX7_wayLength_0 : decode cX7_wayLength 0 = .ok (.aload_n 0, 1) := by decide +kernel
theorem dX7_wayLength_1 : decode cX7_wayLength 1 = .ok (.getfield 64, 3) := by decide +kernel
theorem dX7_wayLength_4 : decode cX7_wayLength 4 = .ok (.iconst (-1), 1) := by decide +kernel
theorem dX7_wayLength_5 : decode cX7_wayLength 5 = .ok (.if_icmp .ne 7, 3) := by decide +kernel
theorem dX7_wayLength_8 : decode cX7_wayLength 8 = .ok (.iconst (-1), 1) := by decide +kernel
theorem dX7_wayLength_9 : decode cX7_wayLength 9 = .ok (.goto 12, 3) := by decide +kernel
theorem dX7_wayLength_12 : decode cX7_wayLength 12 = .ok (.aload_n 0, 1) := by decide +kernel
theorem dX7_wayLength_13 : decode cX7_wayLength 13 = .ok (.getfield 15, 3) := by decide +kernel
theorem dX7_wayLength_16 : decode cX7_wayLength 16 = .ok (.aload_n 0, 1) := by decide +kernel
theorem dX7_wayLength_17 : decode cX7_wayLength 17 = .ok (.getfield 64, 3) := by decide +kernel
theorem dX7_wayLength_20 : decode cX7_wayLength 20 = .ok (.iaload, 1) := by decide +kernel
theorem dX7_wayLength_21 : decode cX7_wayLength 21 = .ok (.ireturn, 1) := by decide +kernel
theorem dX7_orderOnWay_0 : decode cX7_orderOnWay 0 = .ok (.aload_n 0, 1) := by decide +kernel
theorem dX7_orderOnWay_1 : decode cX7_orderOnWay 1 = .ok (.getfield 64, 3) := by decide +kernel
theorem dX7_orderOnWay_4 : decode cX7_orderOnWay 4 = .ok (.istore_n 2, 1) := by decide +kernel
theorem dX7_orderOnWay_5 : decode cX7_orderOnWay 5 = .ok (.aload_n 0, 1) := by decide +kernel
theorem dX7_orderOnWay_6 : decode cX7_orderOnWay 6 = .ok (.invokevirtual 112, 3) := by decide +kernel
theorem dX7_orderOnWay_9 : decode cX7_orderOnWay 9 = .ok (.istore_n 3, 1) := by decide +kernel
theorem dX7_orderOnWay_10 : decode cX7_orderOnWay 10 = .ok (.iload_n 3, 1) := by decide +kernel
theorem dX7_orderOnWay_11 : decode cX7_orderOnWay 11 = .ok (.iload_n 1, 1) := by decide +kernel
theorem dX7_orderOnWay_12 : decode cX7_orderOnWay 12 = .ok (.if_icmp .le 16, 3) := by decide +kernel
theorem dX7_orderOnWay_15 : decode cX7_orderOnWay 15 = .ok (.aload_n 0, 1) := by decide +kernel
theorem dX7_orderOnWay_16 : decode cX7_orderOnWay 16 = .ok (.getfield 21, 3) := by decide +kernel
theorem dX7_orderOnWay_19 : decode cX7_orderOnWay 19 = .ok (.iload_n 2, 1) := by decide +kernel
theorem dX7_orderOnWay_20 : decode cX7_orderOnWay 20 = .ok (.iaload, 1) := by decide +kernel
theorem dX7_orderOnWay_21 : decode cX7_orderOnWay 21 = .ok (.istore_n 2, 1) := by decide +kernel
theorem dX7_orderOnWay_22 : decode cX7_orderOnWay 22 = .ok (.iinc 3 (-1), 3) := by decide +kernel
theorem dX7_orderOnWay_25 : decode cX7_orderOnWay 25 = .ok (.goto (-15), 3) := by decide +kernel
theorem dX7_orderOnWay_28 : decode cX7_orderOnWay 28 = .ok (.iload_n 2, 1) := by decide +kernel
theorem dX7_orderOnWay_29 : decode cX7_orderOnWay 29 = .ok (.ireturn, 1) := by decide +kernel
theorem dX7_measure_0 : decode cX7_measure 0 = .ok (.aload_n 0, 1) := by decide +kernel
theorem dX7_measure_1 : decode cX7_measure 1 = .ok (.getfield 55, 3) := by decide +kernel
theorem dX7_measure_4 : decode cX7_measure 4 = .ok (.ifCond .eq 4, 3) := by decide +kernel
theorem dX7_measure_7 : decode cX7_measure 7 = .ok (.return_, 1) := by decide +kernel
theorem dX7_measure_8 : decode cX7_measure 8 = .ok (.aload_n 0, 1) := by decide +kernel
theorem dX7_measure_9 : decode cX7_measure 9 = .ok (.iconst 1, 1) := by decide +kernel
theorem dX7_measure_10 : decode cX7_measure 10 = .ok (.putfield 55, 3) := by decide +kernel
theorem dX7_measure_13 : decode cX7_measure 13 = .ok (.iconst 0, 1) := by decide +kernel
theorem dX7_measure_14 : decode cX7_measure 14 = .ok (.istore_n 1, 1) := by decide +kernel
theorem dX7_measure_15 : decode cX7_measure 15 = .ok (.iconst 0, 1) := by decide +kernel
theorem dX7_measure_16 : decode cX7_measure 16 = .ok (.istore_n 2, 1) := by decide +kernel
theorem dX7_measure_17 : decode cX7_measure 17 = .ok (.iload_n 2, 1) := by decide +kernel
theorem dX7_measure_18 : decode cX7_measure 18 = .ok (.aload_n 0, 1) := by decide +kernel
theorem dX7_measure_19 : decode cX7_measure 19 = .ok (.getfield 58, 3) := by decide +kernel
theorem dX7_measure_22 : decode cX7_measure 22 = .ok (.if_icmp .ge 28, 3) := by decide +kernel
theorem dX7_measure_25 : decode cX7_measure 25 = .ok (.aload_n 0, 1) := by decide +kernel
theorem dX7_measure_26 : decode cX7_measure 26 = .ok (.getfield 27, 3) := by decide +kernel
theorem dX7_measure_29 : decode cX7_measure 29 = .ok (.iload_n 2, 1) := by decide +kernel
theorem dX7_measure_30 : decode cX7_measure 30 = .ok (.iaload, 1) := by decide +kernel
theorem dX7_measure_31 : decode cX7_measure 31 = .ok (.ifCond .ne 13, 3) := by decide +kernel
theorem dX7_measure_34 : decode cX7_measure 34 = .ok (.aload_n 0, 1) := by decide +kernel
theorem dX7_measure_35 : decode cX7_measure 35 = .ok (.getfield 30, 3) := by decide +kernel
theorem dX7_measure_38 : decode cX7_measure 38 = .ok (.iload_n 1, 1) := by decide +kernel
theorem dX7_measure_39 : decode cX7_measure 39 = .ok (.iload_n 2, 1) := by decide +kernel
theorem dX7_measure_40 : decode cX7_measure 40 = .ok (.iastore, 1) := by decide +kernel
theorem dX7_measure_41 : decode cX7_measure 41 = .ok (.iinc 1 1, 3) := by decide +kernel
theorem dX7_measure_44 : decode cX7_measure 44 = .ok (.iinc 2 1, 3) := by decide +kernel
theorem dX7_measure_47 : decode cX7_measure 47 = .ok (.goto (-30), 3) := by decide +kernel
theorem dX7_measure_50 : decode cX7_measure 50 = .ok (.iconst 0, 1) := by decide +kernel
theorem dX7_measure_51 : decode cX7_measure 51 = .ok (.istore_n 2, 1) := by decide +kernel
theorem dX7_measure_52 : decode cX7_measure 52 = .ok (.iload_n 2, 1) := by decide +kernel
theorem dX7_measure_53 : decode cX7_measure 53 = .ok (.iload_n 1, 1) := by decide +kernel
theorem dX7_measure_54 : decode cX7_measure 54 = .ok (.if_icmp .ge 28, 3) := by decide +kernel
theorem dX7_measure_57 : decode cX7_measure 57 = .ok (.iload_n 2, 1) := by decide +kernel
theorem dX7_measure_58 : decode cX7_measure 58 = .ok (.sipush 1024, 3) := by decide +kernel
theorem dX7_measure_61 : decode cX7_measure 61 = .ok (.if_icmp .ge 21, 3) := by decide +kernel
theorem dX7_measure_64 : decode cX7_measure 64 = .ok (.aload_n 0, 1) := by decide +kernel
theorem dX7_measure_65 : decode cX7_measure 65 = .ok (.aload_n 0, 1) := by decide +kernel
theorem dX7_measure_66 : decode cX7_measure 66 = .ok (.getfield 30, 3) := by decide +kernel
theorem dX7_measure_69 : decode cX7_measure 69 = .ok (.iload_n 2, 1) := by decide +kernel
theorem dX7_measure_70 : decode cX7_measure 70 = .ok (.iaload, 1) := by decide +kernel
theorem dX7_measure_71 : decode cX7_measure 71 = .ok (.iload_n 1, 1) := by decide +kernel
theorem dX7_measure_72 : decode cX7_measure 72 = .ok (.invokevirtual 115, 3) := by decide +kernel
theorem dX7_measure_75 : decode cX7_measure 75 = .ok (.istore_n 1, 1) := by decide +kernel
theorem dX7_measure_76 : decode cX7_measure 76 = .ok (.iinc 2 1, 3) := by decide +kernel
theorem dX7_measure_79 : decode cX7_measure 79 = .ok (.goto (-27), 3) := by decide +kernel
theorem dX7_measure_82 : decode cX7_measure 82 = .ok (.return_, 1) := by decide +kernel
theorem dX7_queueThoseBefore_0 : decode cX7_queueThoseBefore 0 = .ok (.iload_n 2, 1) := by decide +kernel
theorem dX7_queueThoseBefore_1 : decode cX7_queueThoseBefore 1 = .ok (.istore_n 3, 1) := by decide +kernel
theorem dX7_queueThoseBefore_2 : decode cX7_queueThoseBefore 2 = .ok (.aload_n 0, 1) := by decide +kernel
theorem dX7_queueThoseBefore_3 : decode cX7_queueThoseBefore 3 = .ok (.getfield 36, 3) := by decide +kernel
theorem dX7_queueThoseBefore_6 : decode cX7_queueThoseBefore 6 = .ok (.iload_n 1, 1) := by decide +kernel
theorem dX7_queueThoseBefore_7 : decode cX7_queueThoseBefore 7 = .ok (.invokevirtual 118, 3) := by decide +kernel
theorem dX7_queueThoseBefore_10 : decode cX7_queueThoseBefore 10 = .ok (.istore 4, 2) := by decide +kernel
theorem dX7_queueThoseBefore_12 : decode cX7_queueThoseBefore 12 = .ok (.iconst 0, 1) := by decide +kernel
theorem dX7_queueThoseBefore_13 : decode cX7_queueThoseBefore 13 = .ok (.istore 5, 2) := by decide +kernel
theorem dX7_queueThoseBefore_15 : decode cX7_queueThoseBefore 15 = .ok (.iload 5, 2) := by decide +kernel
theorem dX7_queueThoseBefore_17 : decode cX7_queueThoseBefore 17 = .ok (.aload_n 0, 1) := by decide +kernel
theorem dX7_queueThoseBefore_18 : decode cX7_queueThoseBefore 18 = .ok (.getfield 58, 3) := by decide +kernel
theorem dX7_queueThoseBefore_21 : decode cX7_queueThoseBefore 21 = .ok (.if_icmp .ge 81, 3) := by decide +kernel
theorem dX7_queueThoseBefore_24 : decode cX7_queueThoseBefore 24 = .ok (.iload 4, 2) := by decide +kernel
theorem dX7_queueThoseBefore_26 : decode cX7_queueThoseBefore 26 = .ok (.iconst (-1), 1) := by decide +kernel
theorem dX7_queueThoseBefore_27 : decode cX7_queueThoseBefore 27 = .ok (.if_icmp .eq 75, 3) := by decide +kernel
theorem dX7_queueThoseBefore_30 : decode cX7_queueThoseBefore 30 = .ok (.aload_n 0, 1) := by decide +kernel
theorem dX7_queueThoseBefore_31 : decode cX7_queueThoseBefore 31 = .ok (.getfield 36, 3) := by decide +kernel
theorem dX7_queueThoseBefore_34 : decode cX7_queueThoseBefore 34 = .ok (.iload 4, 2) := by decide +kernel
theorem dX7_queueThoseBefore_36 : decode cX7_queueThoseBefore 36 = .ok (.invokevirtual 122, 3) := by decide +kernel
theorem dX7_queueThoseBefore_39 : decode cX7_queueThoseBefore 39 = .ok (.istore 6, 2) := by decide +kernel
theorem dX7_queueThoseBefore_41 : decode cX7_queueThoseBefore 41 = .ok (.aload_n 0, 1) := by decide +kernel
theorem dX7_queueThoseBefore_42 : decode cX7_queueThoseBefore 42 = .ok (.getfield 27, 3) := by decide +kernel
theorem dX7_queueThoseBefore_45 : decode cX7_queueThoseBefore 45 = .ok (.iload 6, 2) := by decide +kernel
theorem dX7_queueThoseBefore_47 : decode cX7_queueThoseBefore 47 = .ok (.iaload, 1) := by decide +kernel
theorem dX7_queueThoseBefore_48 : decode cX7_queueThoseBefore 48 = .ok (.iconst (-1), 1) := by decide +kernel
theorem dX7_queueThoseBefore_49 : decode cX7_queueThoseBefore 49 = .ok (.if_icmp .ne 36, 3) := by decide +kernel
theorem dX7_queueThoseBefore_52 : decode cX7_queueThoseBefore 52 = .ok (.iload_n 3, 1) := by decide +kernel
theorem dX7_queueThoseBefore_53 : decode cX7_queueThoseBefore 53 = .ok (.sipush 1024, 3) := by decide +kernel
theorem dX7_queueThoseBefore_56 : decode cX7_queueThoseBefore 56 = .ok (.if_icmp .ge 29, 3) := by decide +kernel
theorem dX7_queueThoseBefore_59 : decode cX7_queueThoseBefore 59 = .ok (.aload_n 0, 1) := by decide +kernel
theorem dX7_queueThoseBefore_60 : decode cX7_queueThoseBefore 60 = .ok (.getfield 27, 3) := by decide +kernel
theorem dX7_queueThoseBefore_63 : decode cX7_queueThoseBefore 63 = .ok (.iload 6, 2) := by decide +kernel
theorem dX7_queueThoseBefore_65 : decode cX7_queueThoseBefore 65 = .ok (.aload_n 0, 1) := by decide +kernel
theorem dX7_queueThoseBefore_66 : decode cX7_queueThoseBefore 66 = .ok (.getfield 27, 3) := by decide +kernel
theorem dX7_queueThoseBefore_69 : decode cX7_queueThoseBefore 69 = .ok (.iload_n 1, 1) := by decide +kernel
theorem dX7_queueThoseBefore_70 : decode cX7_queueThoseBefore 70 = .ok (.iaload, 1) := by decide +kernel
theorem dX7_queueThoseBefore_71 : decode cX7_queueThoseBefore 71 = .ok (.iconst 1, 1) := by decide +kernel
theorem dX7_queueThoseBefore_72 : decode cX7_queueThoseBefore 72 = .ok (.iadd, 1) := by decide +kernel
theorem dX7_queueThoseBefore_73 : decode cX7_queueThoseBefore 73 = .ok (.iastore, 1) := by decide +kernel
theorem dX7_queueThoseBefore_74 : decode cX7_queueThoseBefore 74 = .ok (.aload_n 0, 1) := by decide +kernel
theorem dX7_queueThoseBefore_75 : decode cX7_queueThoseBefore 75 = .ok (.getfield 30, 3) := by decide +kernel
theorem dX7_queueThoseBefore_78 : decode cX7_queueThoseBefore 78 = .ok (.iload_n 3, 1) := by decide +kernel
theorem dX7_queueThoseBefore_79 : decode cX7_queueThoseBefore 79 = .ok (.iload 6, 2) := by decide +kernel
theorem dX7_queueThoseBefore_81 : decode cX7_queueThoseBefore 81 = .ok (.iastore, 1) := by decide +kernel
theorem dX7_queueThoseBefore_82 : decode cX7_queueThoseBefore 82 = .ok (.iinc 3 1, 3) := by decide +kernel
theorem dX7_queueThoseBefore_85 : decode cX7_queueThoseBefore 85 = .ok (.aload_n 0, 1) := by decide +kernel
theorem dX7_queueThoseBefore_86 : decode cX7_queueThoseBefore 86 = .ok (.getfield 36, 3) := by decide +kernel
theorem dX7_queueThoseBefore_89 : decode cX7_queueThoseBefore 89 = .ok (.iload 4, 2) := by decide +kernel
theorem dX7_queueThoseBefore_91 : decode cX7_queueThoseBefore 91 = .ok (.invokevirtual 125, 3) := by decide +kernel
theorem dX7_queueThoseBefore_94 : decode cX7_queueThoseBefore 94 = .ok (.istore 4, 2) := by decide +kernel
theorem dX7_queueThoseBefore_96 : decode cX7_queueThoseBefore 96 = .ok (.iinc 5 1, 3) := by decide +kernel
theorem dX7_queueThoseBefore_99 : decode cX7_queueThoseBefore 99 = .ok (.goto (-84), 3) := by decide +kernel
theorem dX7_queueThoseBefore_102 : decode cX7_queueThoseBefore 102 = .ok (.iload_n 3, 1) := by decide +kernel
theorem dX7_queueThoseBefore_103 : decode cX7_queueThoseBefore 103 = .ok (.ireturn, 1) := by decide +kernel
theorem dX7_numberOfTraps_0 : decode cX7_numberOfTraps 0 = .ok (.iconst 0, 1) := by decide +kernel
theorem dX7_numberOfTraps_1 : decode cX7_numberOfTraps 1 = .ok (.istore_n 1, 1) := by decide +kernel
theorem dX7_numberOfTraps_2 : decode cX7_numberOfTraps 2 = .ok (.iconst 0, 1) := by decide +kernel
theorem dX7_numberOfTraps_3 : decode cX7_numberOfTraps 3 = .ok (.istore_n 2, 1) := by decide +kernel
theorem dX7_numberOfTraps_4 : decode cX7_numberOfTraps 4 = .ok (.iload_n 2, 1) := by decide +kernel
theorem dX7_numberOfTraps_5 : decode cX7_numberOfTraps 5 = .ok (.aload_n 0, 1) := by decide +kernel
theorem dX7_numberOfTraps_6 : decode cX7_numberOfTraps 6 = .ok (.getfield 58, 3) := by decide +kernel
theorem dX7_numberOfTraps_9 : decode cX7_numberOfTraps 9 = .ok (.if_icmp .ge 22, 3) := by decide +kernel
theorem dX7_numberOfTraps_12 : decode cX7_numberOfTraps 12 = .ok (.aload_n 0, 1) := by decide +kernel
theorem dX7_numberOfTraps_13 : decode cX7_numberOfTraps 13 = .ok (.getfield 27, 3) := by decide +kernel
theorem dX7_numberOfTraps_16 : decode cX7_numberOfTraps 16 = .ok (.iload_n 2, 1) := by decide +kernel
theorem dX7_numberOfTraps_17 : decode cX7_numberOfTraps 17 = .ok (.iaload, 1) := by decide +kernel
theorem dX7_numberOfTraps_18 : decode cX7_numberOfTraps 18 = .ok (.iconst (-1), 1) := by decide +kernel
theorem dX7_numberOfTraps_19 : decode cX7_numberOfTraps 19 = .ok (.if_icmp .ne 6, 3) := by decide +kernel
theorem dX7_numberOfTraps_22 : decode cX7_numberOfTraps 22 = .ok (.iinc 1 1, 3) := by decide +kernel
theorem dX7_numberOfTraps_25 : decode cX7_numberOfTraps 25 = .ok (.iinc 2 1, 3) := by decide +kernel
theorem dX7_numberOfTraps_28 : decode cX7_numberOfTraps 28 = .ok (.goto (-24), 3) := by decide +kernel
theorem dX7_numberOfTraps_31 : decode cX7_numberOfTraps 31 = .ok (.iload_n 1, 1) := by decide +kernel
theorem dX7_numberOfTraps_32 : decode cX7_numberOfTraps 32 = .ok (.ireturn, 1) := by decide +kernel
theorem dX7_moveNearer_0 : decode cX7_moveNearer 0 = .ok (.aload_n 0, 1) := by decide +kernel
theorem dX7_moveNearer_1 : decode cX7_moveNearer 1 = .ok (.getfield 40, 3) := by decide +kernel
theorem dX7_moveNearer_4 : decode cX7_moveNearer 4 = .ok (.invokevirtual 76, 3) := by decide +kernel
theorem dX7_moveNearer_7 : decode cX7_moveNearer 7 = .ok (.istore_n 1, 1) := by decide +kernel
theorem dX7_moveNearer_8 : decode cX7_moveNearer 8 = .ok (.aload_n 0, 1) := by decide +kernel
theorem dX7_moveNearer_9 : decode cX7_moveNearer 9 = .ok (.iload_n 1, 1) := by decide +kernel
theorem dX7_moveNearer_10 : decode cX7_moveNearer 10 = .ok (.invokevirtual 128, 3) := by decide +kernel
theorem dX7_moveNearer_13 : decode cX7_moveNearer 13 = .ok (.istore_n 2, 1) := by decide +kernel
theorem dX7_moveNearer_14 : decode cX7_moveNearer 14 = .ok (.iload_n 2, 1) := by decide +kernel
theorem dX7_moveNearer_15 : decode cX7_moveNearer 15 = .ok (.iconst (-1), 1) := by decide +kernel
theorem dX7_moveNearer_16 : decode cX7_moveNearer 16 = .ok (.if_icmp .eq 12, 3) := by decide +kernel
theorem dX7_moveNearer_19 : decode cX7_moveNearer 19 = .ok (.aload_n 0, 1) := by decide +kernel
theorem dX7_moveNearer_20 : decode cX7_moveNearer 20 = .ok (.getfield 27, 3) := by decide +kernel
theorem dX7_moveNearer_23 : decode cX7_moveNearer 23 = .ok (.iload_n 2, 1) := by decide +kernel
theorem dX7_moveNearer_24 : decode cX7_moveNearer 24 = .ok (.iaload, 1) := by decide +kernel
theorem dX7_moveNearer_25 : decode cX7_moveNearer 25 = .ok (.ifCond .gt 5, 3) := by decide +kernel
theorem dX7_moveNearer_28 : decode cX7_moveNearer 28 = .ok (.iconst (-1), 1) := by decide +kernel
theorem dX7_moveNearer_29 : decode cX7_moveNearer 29 = .ok (.ireturn, 1) := by decide +kernel
theorem dX7_moveNearer_30 : decode cX7_moveNearer 30 = .ok (.iconst 0, 1) := by decide +kernel
theorem dX7_moveNearer_31 : decode cX7_moveNearer 31 = .ok (.istore_n 3, 1) := by decide +kernel
theorem dX7_moveNearer_32 : decode cX7_moveNearer 32 = .ok (.iload_n 3, 1) := by decide +kernel
theorem dX7_moveNearer_33 : decode cX7_moveNearer 33 = .ok (.bipush 38, 2) := by decide +kernel
theorem dX7_moveNearer_35 : decode cX7_moveNearer 35 = .ok (.if_icmp .ge 50, 3) := by decide +kernel
theorem dX7_moveNearer_38 : decode cX7_moveNearer 38 = .ok (.aload_n 0, 1) := by decide +kernel
theorem dX7_moveNearer_39 : decode cX7_moveNearer 39 = .ok (.aload_n 0, 1) := by decide +kernel
theorem dX7_moveNearer_40 : decode cX7_moveNearer 40 = .ok (.getfield 40, 3) := by decide +kernel
theorem dX7_moveNearer_43 : decode cX7_moveNearer 43 = .ok (.iload_n 3, 1) := by decide +kernel
theorem dX7_moveNearer_44 : decode cX7_moveNearer 44 = .ok (.iload_n 1, 1) := by decide +kernel
theorem dX7_moveNearer_45 : decode cX7_moveNearer 45 = .ok (.invokevirtual 96, 3) := by decide +kernel
theorem dX7_moveNearer_48 : decode cX7_moveNearer 48 = .ok (.invokevirtual 128, 3) := by decide +kernel
theorem dX7_moveNearer_51 : decode cX7_moveNearer 51 = .ok (.istore 4, 2) := by decide +kernel
theorem dX7_moveNearer_53 : decode cX7_moveNearer 53 = .ok (.iload 4, 2) := by decide +kernel
theorem dX7_moveNearer_55 : decode cX7_moveNearer 55 = .ok (.iconst (-1), 1) := by decide +kernel
theorem dX7_moveNearer_56 : decode cX7_moveNearer 56 = .ok (.if_icmp .eq 23, 3) := by decide +kernel
theorem dX7_moveNearer_59 : decode cX7_moveNearer 59 = .ok (.aload_n 0, 1) := by decide +kernel
theorem dX7_moveNearer_60 : decode cX7_moveNearer 60 = .ok (.getfield 27, 3) := by decide +kernel
theorem dX7_moveNearer_63 : decode cX7_moveNearer 63 = .ok (.iload 4, 2) := by decide +kernel
theorem dX7_moveNearer_65 : decode cX7_moveNearer 65 = .ok (.iaload, 1) := by decide +kernel
theorem dX7_moveNearer_66 : decode cX7_moveNearer 66 = .ok (.aload_n 0, 1) := by decide +kernel
theorem dX7_moveNearer_67 : decode cX7_moveNearer 67 = .ok (.getfield 27, 3) := by decide +kernel
theorem dX7_moveNearer_70 : decode cX7_moveNearer 70 = .ok (.iload_n 2, 1) := by decide +kernel
theorem dX7_moveNearer_71 : decode cX7_moveNearer 71 = .ok (.iaload, 1) := by decide +kernel
theorem dX7_moveNearer_72 : decode cX7_moveNearer 72 = .ok (.iconst 1, 1) := by decide +kernel
theorem dX7_moveNearer_73 : decode cX7_moveNearer 73 = .ok (.isub, 1) := by decide +kernel
theorem dX7_moveNearer_74 : decode cX7_moveNearer 74 = .ok (.if_icmp .ne 5, 3) := by decide +kernel
theorem dX7_moveNearer_77 : decode cX7_moveNearer 77 = .ok (.iload_n 3, 1) := by decide +kernel
theorem dX7_moveNearer_78 : decode cX7_moveNearer 78 = .ok (.ireturn, 1) := by decide +kernel
theorem dX7_moveNearer_79 : decode cX7_moveNearer 79 = .ok (.iinc 3 1, 3) := by decide +kernel
theorem dX7_moveNearer_82 : decode cX7_moveNearer 82 = .ok (.goto (-50), 3) := by decide +kernel
theorem dX7_moveNearer_85 : decode cX7_moveNearer 85 = .ok (.iconst (-1), 1) := by decide +kernel
theorem dX7_moveNearer_86 : decode cX7_moveNearer 86 = .ok (.ireturn, 1) := by decide +kernel
