theorem dX0_init_0 : decode cX0_init 0 = .ok (.aload_n 0, 1) := by decide +kernel
theorem dX0_init_1 : decode cX0_init 1 = .ok (.invokespecial 5, 3) := by decide +kernel
theorem dX0_init_4 : decode cX0_init 4 = .ok (.aload_n 0, 1) := by decide +kernel
theorem dX0_init_5 : decode cX0_init 5 = .ok (.bipush 9, 2) := by decide +kernel
theorem dX0_init_7 : decode cX0_init 7 = .ok (.newarray .int, 2) := by decide +kernel
theorem dX0_init_9 : decode cX0_init 9 = .ok (.putfield 11, 3) := by decide +kernel
theorem dX0_init_12 : decode cX0_init 12 = .ok (.aload_n 0, 1) := by decide +kernel
theorem dX0_init_13 : decode cX0_init 13 = .ok (.bipush 9, 2) := by decide +kernel
theorem dX0_init_15 : decode cX0_init 15 = .ok (.newarray .int, 2) := by decide +kernel
theorem dX0_init_17 : decode cX0_init 17 = .ok (.putfield 15, 3) := by decide +kernel
theorem dX0_init_20 : decode cX0_init 20 = .ok (.aload_n 0, 1) := by decide +kernel
theorem dX0_init_21 : decode cX0_init 21 = .ok (.bipush 9, 2) := by decide +kernel
theorem dX0_init_23 : decode cX0_init 23 = .ok (.newarray .int, 2) := by decide +kernel
theorem dX0_init_25 : decode cX0_init 25 = .ok (.putfield 18, 3) := by decide +kernel
theorem dX0_init_28 : decode cX0_init 28 = .ok (.aload_n 0, 1) := by decide +kernel
theorem dX0_init_29 : decode cX0_init 29 = .ok (.sipush 4096, 3) := by decide +kernel
theorem dX0_init_32 : decode cX0_init 32 = .ok (.newarray .long, 2) := by decide +kernel
theorem dX0_init_34 : decode cX0_init 34 = .ok (.putfield 21, 3) := by decide +kernel
theorem dX0_init_37 : decode cX0_init 37 = .ok (.aload_n 0, 1) := by decide +kernel
theorem dX0_init_38 : decode cX0_init 38 = .ok (.sipush 4096, 3) := by decide +kernel
theorem dX0_init_41 : decode cX0_init 41 = .ok (.newarray .int, 2) := by decide +kernel
theorem dX0_init_43 : decode cX0_init 43 = .ok (.putfield 25, 3) := by decide +kernel
theorem dX0_init_46 : decode cX0_init 46 = .ok (.aload_n 0, 1) := by decide +kernel
theorem dX0_init_47 : decode cX0_init 47 = .ok (.bipush 16, 2) := by decide +kernel
theorem dX0_init_49 : decode cX0_init 49 = .ok (.newarray .int, 2) := by decide +kernel
theorem dX0_init_51 : decode cX0_init 51 = .ok (.putfield 28, 3) := by decide +kernel
theorem dX0_init_54 : decode cX0_init 54 = .ok (.aload_n 0, 1) := by decide +kernel
theorem dX0_init_55 : decode cX0_init 55 = .ok (.iconst 1, 1) := by decide +kernel
theorem dX0_init_56 : decode cX0_init 56 = .ok (.putfield 31, 3) := by decide +kernel
theorem dX0_init_59 : decode cX0_init 59 = .ok (.aload_n 0, 1) := by decide +kernel
theorem dX0_init_60 : decode cX0_init 60 = .ok (.lconst 0, 1) := by decide +kernel
theorem dX0_init_61 : decode cX0_init 61 = .ok (.putfield 35, 3) := by decide +kernel
theorem dX0_init_64 : decode cX0_init 64 = .ok (.return_, 1) := by decide +kernel
theorem dX0_learn_0 : decode cX0_learn 0 = .ok (.iload_n 1, 1) := by decide +kernel
theorem dX0_learn_1 : decode cX0_learn 1 = .ok (.invokestatic 39, 3) := by decide +kernel
theorem dX0_learn_4 : decode cX0_learn 4 = .ok (.ifCond .eq 29, 3) := by decide +kernel
theorem dX0_learn_7 : decode cX0_learn 7 = .ok (.aload_n 0, 1) := by decide +kernel
theorem dX0_learn_8 : decode cX0_learn 8 = .ok (.getfield 11, 3) := by decide +kernel
theorem dX0_learn_11 : decode cX0_learn 11 = .ok (.iload_n 1, 1) := by decide +kernel
theorem dX0_learn_12 : decode cX0_learn 12 = .ok (.iaload, 1) := by decide +kernel
theorem dX0_learn_13 : decode cX0_learn 13 = .ok (.iload_n 2, 1) := by decide +kernel
theorem dX0_learn_14 : decode cX0_learn 14 = .ok (.iconst 1, 1) := by decide +kernel
theorem dX0_learn_15 : decode cX0_learn 15 = .ok (.iadd, 1) := by decide +kernel
theorem dX0_learn_16 : decode cX0_learn 16 = .ok (.if_icmp .eq 17, 3) := by decide +kernel
theorem dX0_learn_19 : decode cX0_learn 19 = .ok (.aload_n 0, 1) := by decide +kernel
theorem dX0_learn_20 : decode cX0_learn 20 = .ok (.getfield 11, 3) := by decide +kernel
theorem dX0_learn_23 : decode cX0_learn 23 = .ok (.iload_n 1, 1) := by decide +kernel
theorem dX0_learn_24 : decode cX0_learn 24 = .ok (.iload_n 2, 1) := by decide +kernel
theorem dX0_learn_25 : decode cX0_learn 25 = .ok (.iconst 1, 1) := by decide +kernel
theorem dX0_learn_26 : decode cX0_learn 26 = .ok (.iadd, 1) := by decide +kernel
theorem dX0_learn_27 : decode cX0_learn 27 = .ok (.iastore, 1) := by decide +kernel
theorem dX0_learn_28 : decode cX0_learn 28 = .ok (.aload_n 0, 1) := by decide +kernel
theorem dX0_learn_29 : decode cX0_learn 29 = .ok (.iconst 1, 1) := by decide +kernel
theorem dX0_learn_30 : decode cX0_learn 30 = .ok (.putfield 31, 3) := by decide +kernel
theorem dX0_learn_33 : decode cX0_learn 33 = .ok (.return_, 1) := by decide +kernel
theorem dX0_settle_0 : decode cX0_settle 0 = .ok (.aload_n 0, 1) := by decide +kernel
theorem dX0_settle_1 : decode cX0_settle 1 = .ok (.getfield 31, 3) := by decide +kernel
theorem dX0_settle_4 : decode cX0_settle 4 = .ok (.ifCond .ne 4, 3) := by decide +kernel
theorem dX0_settle_7 : decode cX0_settle 7 = .ok (.return_, 1) := by decide +kernel
theorem dX0_settle_8 : decode cX0_settle 8 = .ok (.aload_n 0, 1) := by decide +kernel
theorem dX0_settle_9 : decode cX0_settle 9 = .ok (.iconst 0, 1) := by decide +kernel
theorem dX0_settle_10 : decode cX0_settle 10 = .ok (.putfield 31, 3) := by decide +kernel
theorem dX0_settle_13 : decode cX0_settle 13 = .ok (.aload_n 0, 1) := by decide +kernel
theorem dX0_settle_14 : decode cX0_settle 14 = .ok (.dup, 1) := by decide +kernel
theorem dX0_settle_15 : decode cX0_settle 15 = .ok (.getfield 35, 3) := by decide +kernel
theorem dX0_settle_18 : decode cX0_settle 18 = .ok (.lconst 1, 1) := by decide +kernel
theorem dX0_settle_19 : decode cX0_settle 19 = .ok (.ladd, 1) := by decide +kernel
theorem dX0_settle_20 : decode cX0_settle 20 = .ok (.putfield 35, 3) := by decide +kernel
theorem dX0_settle_23 : decode cX0_settle 23 = .ok (.iconst 1, 1) := by decide +kernel
theorem dX0_settle_24 : decode cX0_settle 24 = .ok (.istore_n 1, 1) := by decide +kernel
theorem dX0_settle_25 : decode cX0_settle 25 = .ok (.iload_n 1, 1) := by decide +kernel
theorem dX0_settle_26 : decode cX0_settle 26 = .ok (.bipush 8, 2) := by decide +kernel
theorem dX0_settle_28 : decode cX0_settle 28 = .ok (.if_icmp .gt 77, 3) := by decide +kernel
theorem dX0_settle_31 : decode cX0_settle 31 = .ok (.aload_n 0, 1) := by decide +kernel
theorem dX0_settle_32 : decode cX0_settle 32 = .ok (.getfield 15, 3) := by decide +kernel
theorem dX0_settle_35 : decode cX0_settle 35 = .ok (.iload_n 1, 1) := by decide +kernel
theorem dX0_settle_36 : decode cX0_settle 36 = .ok (.iconst 0, 1) := by decide +kernel
theorem dX0_settle_37 : decode cX0_settle 37 = .ok (.iastore, 1) := by decide +kernel
theorem dX0_settle_38 : decode cX0_settle 38 = .ok (.iconst 1, 1) := by decide +kernel
theorem dX0_settle_39 : decode cX0_settle 39 = .ok (.istore_n 2, 1) := by decide +kernel
theorem dX0_settle_40 : decode cX0_settle 40 = .ok (.iload_n 2, 1) := by decide +kernel
theorem dX0_settle_41 : decode cX0_settle 41 = .ok (.bipush 8, 2) := by decide +kernel
theorem dX0_settle_43 : decode cX0_settle 43 = .ok (.if_icmp .gt 37, 3) := by decide +kernel
theorem dX0_settle_46 : decode cX0_settle 46 = .ok (.aload_n 0, 1) := by decide +kernel
theorem dX0_settle_47 : decode cX0_settle 47 = .ok (.getfield 11, 3) := by decide +kernel
theorem dX0_settle_50 : decode cX0_settle 50 = .ok (.iload_n 2, 1) := by decide +kernel
theorem dX0_settle_51 : decode cX0_settle 51 = .ok (.iaload, 1) := by decide +kernel
theorem dX0_settle_52 : decode cX0_settle 52 = .ok (.aload_n 0, 1) := by decide +kernel
theorem dX0_settle_53 : decode cX0_settle 53 = .ok (.getfield 11, 3) := by decide +kernel
theorem dX0_settle_56 : decode cX0_settle 56 = .ok (.iload_n 1, 1) := by decide +kernel
theorem dX0_settle_57 : decode cX0_settle 57 = .ok (.iaload, 1) := by decide +kernel
theorem dX0_settle_58 : decode cX0_settle 58 = .ok (.if_icmp .ne 16, 3) := by decide +kernel
theorem dX0_settle_61 : decode cX0_settle 61 = .ok (.aload_n 0, 1) := by decide +kernel
theorem dX0_settle_62 : decode cX0_settle 62 = .ok (.getfield 15, 3) := by decide +kernel
theorem dX0_settle_65 : decode cX0_settle 65 = .ok (.iload_n 1, 1) := by decide +kernel
theorem dX0_settle_66 : decode cX0_settle 66 = .ok (.dup2, 1) := by decide +kernel
theorem dX0_settle_67 : decode cX0_settle 67 = .ok (.iaload, 1) := by decide +kernel
theorem dX0_settle_68 : decode cX0_settle 68 = .ok (.iload_n 2, 1) := by decide +kernel
theorem dX0_settle_69 : decode cX0_settle 69 = .ok (.invokestatic 43, 3) := by decide +kernel
theorem dX0_settle_72 : decode cX0_settle 72 = .ok (.ior, 1) := by decide +kernel
theorem dX0_settle_73 : decode cX0_settle 73 = .ok (.iastore, 1) := by decide +kernel
theorem dX0_settle_74 : decode cX0_settle 74 = .ok (.iinc 2 1, 3) := by decide +kernel
theorem dX0_settle_77 : decode cX0_settle 77 = .ok (.goto (-37), 3) := by decide +kernel
theorem dX0_settle_80 : decode cX0_settle 80 = .ok (.aload_n 0, 1) := by decide +kernel
theorem dX0_settle_81 : decode cX0_settle 81 = .ok (.getfield 18, 3) := by decide +kernel
theorem dX0_settle_84 : decode cX0_settle 84 = .ok (.iload_n 1, 1) := by decide +kernel
theorem dX0_settle_85 : decode cX0_settle 85 = .ok (.aload_n 0, 1) := by decide +kernel
theorem dX0_settle_86 : decode cX0_settle 86 = .ok (.getfield 15, 3) := by decide +kernel
theorem dX0_settle_89 : decode cX0_settle 89 = .ok (.iload_n 1, 1) := by decide +kernel
theorem dX0_settle_90 : decode cX0_settle 90 = .ok (.iaload, 1) := by decide +kernel
theorem dX0_settle_91 : decode cX0_settle 91 = .ok (.iload_n 1, 1) := by decide +kernel
theorem dX0_settle_92 : decode cX0_settle 92 = .ok (.invokestatic 43, 3) := by decide +kernel
theorem dX0_settle_95 : decode cX0_settle 95 = .ok (.iconst 1, 1) := by decide +kernel
theorem dX0_settle_96 : decode cX0_settle 96 = .ok (.isub, 1) := by decide +kernel
theorem dX0_settle_97 : decode cX0_settle 97 = .ok (.iand, 1) := by decide +kernel
theorem dX0_settle_98 : decode cX0_settle 98 = .ok (.iastore, 1) := by decide +kernel
theorem dX0_settle_99 : decode cX0_settle 99 = .ok (.iinc 1 1, 3) := by decide +kernel
theorem dX0_settle_102 : decode cX0_settle 102 = .ok (.goto (-77), 3) := by decide +kernel
theorem dX0_settle_105 : decode cX0_settle 105 = .ok (.return_, 1) := by decide +kernel
theorem dX0_apart_0 : decode cX0_apart 0 = .ok (.iload_n 1, 1) := by decide +kernel
theorem dX0_apart_1 : decode cX0_apart 1 = .ok (.invokestatic 39, 3) := by decide +kernel
theorem dX0_apart_4 : decode cX0_apart 4 = .ok (.ifCond .eq 12, 3) := by decide +kernel
theorem dX0_apart_7 : decode cX0_apart 7 = .ok (.aload_n 0, 1) := by decide +kernel
theorem dX0_apart_8 : decode cX0_apart 8 = .ok (.getfield 11, 3) := by decide +kernel
theorem dX0_apart_11 : decode cX0_apart 11 = .ok (.iload_n 1, 1) := by decide +kernel
theorem dX0_apart_12 : decode cX0_apart 12 = .ok (.iaload, 1) := by decide +kernel
theorem dX0_apart_13 : decode cX0_apart 13 = .ok (.goto 4, 3) := by decide +kernel
theorem dX0_apart_16 : decode cX0_apart 16 = .ok (.iconst 0, 1) := by decide +kernel
theorem dX0_apart_17 : decode cX0_apart 17 = .ok (.ireturn, 1) := by decide +kernel
theorem dX0_speaks_0 : decode cX0_speaks 0 = .ok (.iload_n 1, 1) := by decide +kernel
theorem dX0_speaks_1 : decode cX0_speaks 1 = .ok (.iconst 1, 1) := by decide +kernel
theorem dX0_speaks_2 : decode cX0_speaks 2 = .ok (.iload_n 2, 1) := by decide +kernel
theorem dX0_speaks_3 : decode cX0_speaks 3 = .ok (.iconst 1, 1) := by decide +kernel
theorem dX0_speaks_4 : decode cX0_speaks 4 = .ok (.isub, 1) := by decide +kernel
theorem dX0_speaks_5 : decode cX0_speaks 5 = .ok (.ishl, 1) := by decide +kernel
theorem dX0_speaks_6 : decode cX0_speaks 6 = .ok (.iand, 1) := by decide +kernel
theorem dX0_speaks_7 : decode cX0_speaks 7 = .ok (.ifCond .eq 18, 3) := by decide +kernel
theorem dX0_speaks_10 : decode cX0_speaks 10 = .ok (.iload_n 1, 1) := by decide +kernel
theorem dX0_speaks_11 : decode cX0_speaks 11 = .ok (.aload_n 0, 1) := by decide +kernel
theorem dX0_speaks_12 : decode cX0_speaks 12 = .ok (.getfield 18, 3) := by decide +kernel
theorem dX0_speaks_15 : decode cX0_speaks 15 = .ok (.iload_n 2, 1) := by decide +kernel
theorem dX0_speaks_16 : decode cX0_speaks 16 = .ok (.iaload, 1) := by decide +kernel
theorem dX0_speaks_17 : decode cX0_speaks 17 = .ok (.iand, 1) := by decide +kernel
theorem dX0_speaks_18 : decode cX0_speaks 18 = .ok (.ifCond .ne 7, 3) := by decide +kernel
theorem dX0_speaks_21 : decode cX0_speaks 21 = .ok (.iconst 1, 1) := by decide +kernel
theorem dX0_speaks_22 : decode cX0_speaks 22 = .ok (.goto 4, 3) := by decide +kernel
theorem dX0_speaks_25 : decode cX0_speaks 25 = .ok (.iconst 0, 1) := by decide +kernel
theorem dX0_speaks_26 : decode cX0_speaks 26 = .ok (.ireturn, 1) := by decide +kernel
theorem dX0_firstsOf_0 : decode cX0_firstsOf 0 = .ok (.iload_n 2, 1) := by decide +kernel
theorem dX0_firstsOf_1 : decode cX0_firstsOf 1 = .ok (.iload_n 2, 1) := by decide +kernel
theorem dX0_firstsOf_2 : decode cX0_firstsOf 2 = .ok (.aload_n 0, 1) := by decide +kernel
theorem dX0_firstsOf_3 : decode cX0_firstsOf 3 = .ok (.getfield 11, 3) := by decide +kernel
theorem dX0_firstsOf_6 : decode cX0_firstsOf 6 = .ok (.iload_n 1, 1) := by decide +kernel
theorem dX0_firstsOf_7 : decode cX0_firstsOf 7 = .ok (.iaload, 1) := by decide +kernel
theorem dX0_firstsOf_8 : decode cX0_firstsOf 8 = .ok (.iushr, 1) := by decide +kernel
theorem dX0_firstsOf_9 : decode cX0_firstsOf 9 = .ok (.iand, 1) := by decide +kernel
theorem dX0_firstsOf_10 : decode cX0_firstsOf 10 = .ok (.ireturn, 1) := by decide +kernel
theorem dX0_pairOf_0 : decode cX0_pairOf 0 = .ok (.iconst 1, 1) := by decide +kernel
theorem dX0_pairOf_1 : decode cX0_pairOf 1 = .ok (.iload_n 2, 1) := by decide +kernel
theorem dX0_pairOf_2 : decode cX0_pairOf 2 = .ok (.ishl, 1) := by decide +kernel
theorem dX0_pairOf_3 : decode cX0_pairOf 3 = .ok (.iconst 1, 1) := by decide +kernel
theorem dX0_pairOf_4 : decode cX0_pairOf 4 = .ok (.iload_n 2, 1) := by decide +kernel
theorem dX0_pairOf_5 : decode cX0_pairOf 5 = .ok (.aload_n 0, 1) := by decide +kernel
theorem dX0_pairOf_6 : decode cX0_pairOf 6 = .ok (.getfield 11, 3) := by decide +kernel
theorem dX0_pairOf_9 : decode cX0_pairOf 9 = .ok (.iload_n 1, 1) := by decide +kernel
theorem dX0_pairOf_10 : decode cX0_pairOf 10 = .ok (.iaload, 1) := by decide +kernel
theorem dX0_pairOf_11 : decode cX0_pairOf 11 = .ok (.iadd, 1) := by decide +kernel
theorem dX0_pairOf_12 : decode cX0_pairOf 12 = .ok (.ishl, 1) := by decide +kernel
theorem dX0_pairOf_13 : decode cX0_pairOf 13 = .ok (.ior, 1) := by decide +kernel
theorem dX0_pairOf_14 : decode cX0_pairOf 14 = .ok (.ireturn, 1) := by decide +kernel
theorem dX0_isFirst_0 : decode cX0_isFirst 0 = .ok (.aload_n 0, 1) := by decide +kernel
theorem dX0_isFirst_1 : decode cX0_isFirst 1 = .ok (.iload_n 1, 1) := by decide +kernel
theorem dX0_isFirst_2 : decode cX0_isFirst 2 = .ok (.iload_n 2, 1) := by decide +kernel
theorem dX0_isFirst_3 : decode cX0_isFirst 3 = .ok (.invokevirtual 47, 3) := by decide +kernel
theorem dX0_isFirst_6 : decode cX0_isFirst 6 = .ok (.iload_n 3, 1) := by decide +kernel
theorem dX0_isFirst_7 : decode cX0_isFirst 7 = .ok (.iushr, 1) := by decide +kernel
theorem dX0_isFirst_8 : decode cX0_isFirst 8 = .ok (.iconst 1, 1) := by decide +kernel
theorem dX0_isFirst_9 : decode cX0_isFirst 9 = .ok (.iand, 1) := by decide +kernel
theorem dX0_isFirst_10 : decode cX0_isFirst 10 = .ok (.ifCond .eq 7, 3) := by decide +kernel
theorem dX0_isFirst_13 : decode cX0_isFirst 13 = .ok (.iconst 1, 1) := by decide +kernel
theorem dX0_isFirst_14 : decode cX0_isFirst 14 = .ok (.goto 4, 3) := by decide +kernel
theorem dX0_isFirst_17 : decode cX0_isFirst 17 = .ok (.iconst 0, 1) := by decide +kernel
theorem dX0_isFirst_18 : decode cX0_isFirst 18 = .ok (.ireturn, 1) := by decide +kernel
theorem dX0_lowestOf_0 : decode cX0_lowestOf 0 = .ok (.iload_n 0, 1) := by decide +kernel
theorem dX0_lowestOf_1 : decode cX0_lowestOf 1 = .ok (.sipush 255, 3) := by decide +kernel
theorem dX0_lowestOf_4 : decode cX0_lowestOf 4 = .ok (.iand, 1) := by decide +kernel
theorem dX0_lowestOf_5 : decode cX0_lowestOf 5 = .ok (.istore_n 1, 1) := by decide +kernel
theorem dX0_lowestOf_6 : decode cX0_lowestOf 6 = .ok (.iload_n 1, 1) := by decide +kernel
theorem dX0_lowestOf_7 : decode cX0_lowestOf 7 = .ok (.ifCond .ne 7, 3) := by decide +kernel
theorem dX0_lowestOf_10 : decode cX0_lowestOf 10 = .ok (.iconst 0, 1) := by decide +kernel
theorem dX0_lowestOf_11 : decode cX0_lowestOf 11 = .ok (.goto 9, 3) := by decide +kernel
theorem dX0_lowestOf_14 : decode cX0_lowestOf 14 = .ok (.iload_n 1, 1) := by decide +kernel
theorem dX0_lowestOf_15 : decode cX0_lowestOf 15 = .ok (.invokestatic 51, 3) := by decide +kernel
theorem dX0_lowestOf_18 : decode cX0_lowestOf 18 = .ok (.iconst 1, 1) := by decide +kernel
theorem dX0_lowestOf_19 : decode cX0_lowestOf 19 = .ok (.iadd, 1) := by decide +kernel
theorem dX0_lowestOf_20 : decode cX0_lowestOf 20 = .ok (.ireturn, 1) := by decide +kernel
theorem dX0_scarcest_0 : decode cX0_scarcest 0 = .ok (.iconst 0, 1) := by decide +kernel
theorem dX0_scarcest_1 : decode cX0_scarcest 1 = .ok (.istore_n 3, 1) := by decide +kernel
theorem dX0_scarcest_2 : decode cX0_scarcest 2 = .ok (.bipush 17, 2) := by decide +kernel
theorem dX0_scarcest_4 : decode cX0_scarcest 4 = .ok (.istore 4, 2) := by decide +kernel
theorem dX0_scarcest_6 : decode cX0_scarcest 6 = .ok (.iconst 1, 1) := by decide +kernel
theorem dX0_scarcest_7 : decode cX0_scarcest 7 = .ok (.istore 5, 2) := by decide +kernel
theorem dX0_scarcest_9 : decode cX0_scarcest 9 = .ok (.iload 5, 2) := by decide +kernel
theorem dX0_scarcest_11 : decode cX0_scarcest 11 = .ok (.bipush 8, 2) := by decide +kernel
theorem dX0_scarcest_13 : decode cX0_scarcest 13 = .ok (.if_icmp .gt 54, 3) := by decide +kernel
theorem dX0_scarcest_16 : decode cX0_scarcest 16 = .ok (.iload 4, 2) := by decide +kernel
theorem dX0_scarcest_18 : decode cX0_scarcest 18 = .ok (.ifCond .le 49, 3) := by decide +kernel
theorem dX0_scarcest_21 : decode cX0_scarcest 21 = .ok (.aload_n 0, 1) := by decide +kernel
theorem dX0_scarcest_22 : decode cX0_scarcest 22 = .ok (.iload_n 1, 1) := by decide +kernel
theorem dX0_scarcest_23 : decode cX0_scarcest 23 = .ok (.iload 5, 2) := by decide +kernel
theorem dX0_scarcest_25 : decode cX0_scarcest 25 = .ok (.invokevirtual 56, 3) := by decide +kernel
theorem dX0_scarcest_28 : decode cX0_scarcest 28 = .ok (.ifCond .eq 33, 3) := by decide +kernel
theorem dX0_scarcest_31 : decode cX0_scarcest 31 = .ok (.iload_n 2, 1) := by decide +kernel
theorem dX0_scarcest_32 : decode cX0_scarcest 32 = .ok (.iload_n 2, 1) := by decide +kernel
theorem dX0_scarcest_33 : decode cX0_scarcest 33 = .ok (.aload_n 0, 1) := by decide +kernel
theorem dX0_scarcest_34 : decode cX0_scarcest 34 = .ok (.getfield 11, 3) := by decide +kernel
theorem dX0_scarcest_37 : decode cX0_scarcest 37 = .ok (.iload 5, 2) := by decide +kernel
theorem dX0_scarcest_39 : decode cX0_scarcest 39 = .ok (.iaload, 1) := by decide +kernel
theorem dX0_scarcest_40 : decode cX0_scarcest 40 = .ok (.iushr, 1) := by decide +kernel
theorem dX0_scarcest_41 : decode cX0_scarcest 41 = .ok (.iand, 1) := by decide +kernel
theorem dX0_scarcest_42 : decode cX0_scarcest 42 = .ok (.invokestatic 60, 3) := by decide +kernel
theorem dX0_scarcest_45 : decode cX0_scarcest 45 = .ok (.istore 6, 2) := by decide +kernel
theorem dX0_scarcest_47 : decode cX0_scarcest 47 = .ok (.iload 6, 2) := by decide +kernel
theorem dX0_scarcest_49 : decode cX0_scarcest 49 = .ok (.iload 4, 2) := by decide +kernel
theorem dX0_scarcest_51 : decode cX0_scarcest 51 = .ok (.if_icmp .ge 10, 3) := by decide +kernel
theorem dX0_scarcest_54 : decode cX0_scarcest 54 = .ok (.iload 6, 2) := by decide +kernel
theorem dX0_scarcest_56 : decode cX0_scarcest 56 = .ok (.istore 4, 2) := by decide +kernel
theorem dX0_scarcest_58 : decode cX0_scarcest 58 = .ok (.iload 5, 2) := by decide +kernel
theorem dX0_scarcest_60 : decode cX0_scarcest 60 = .ok (.istore_n 3, 1) := by decide +kernel
theorem dX0_scarcest_61 : decode cX0_scarcest 61 = .ok (.iinc 5 1, 3) := by decide +kernel
theorem dX0_scarcest_64 : decode cX0_scarcest 64 = .ok (.goto (-55), 3) := by decide +kernel
theorem dX0_scarcest_67 : decode cX0_scarcest 67 = .ok (.iload_n 3, 1) := by decide +kernel
theorem dX0_scarcest_68 : decode cX0_scarcest 68 = .ok (.ireturn, 1) := by decide +kernel
theorem dX0_keyOf_0 : decode cX0_keyOf 0 = .ok (.aload_n 0, 1) := by decide +kernel
theorem dX0_keyOf_1 : decode cX0_keyOf 1 = .ok (.getfield 35, 3) := by decide +kernel
theorem dX0_keyOf_4 : decode cX0_keyOf 4 = .ok (.iconst 5, 1) := by decide +kernel
theorem dX0_keyOf_5 : decode cX0_keyOf 5 = .ok (.lshl, 1) := by decide +kernel
theorem dX0_keyOf_6 : decode cX0_keyOf 6 = .ok (.iload_n 1, 1) := by decide +kernel
theorem dX0_keyOf_7 : decode cX0_keyOf 7 = .ok (.i2l, 1) := by decide +kernel
theorem dX0_keyOf_8 : decode cX0_keyOf 8 = .ok (.lor, 1) := by decide +kernel
theorem dX0_keyOf_9 : decode cX0_keyOf 9 = .ok (.bipush 8, 2) := by decide +kernel
theorem dX0_keyOf_11 : decode cX0_keyOf 11 = .ok (.lshl, 1) := by decide +kernel
theorem dX0_keyOf_12 : decode cX0_keyOf 12 = .ok (.iload_n 2, 1) := by decide +kernel
theorem dX0_keyOf_13 : decode cX0_keyOf 13 = .ok (.i2l, 1) := by decide +kernel
theorem dX0_keyOf_14 : decode cX0_keyOf 14 = .ok (.lor, 1) := by decide +kernel
theorem dX0_keyOf_15 : decode cX0_keyOf 15 = .ok (.bipush 16, 2) := by decide +kernel
theorem dX0_keyOf_17 : decode cX0_keyOf 17 = .ok (.lshl, 1) := by decide +kernel
theorem dX0_keyOf_18 : decode cX0_keyOf 18 = .ok (.iload_n 3, 1) := by decide +kernel
theorem dX0_keyOf_19 : decode cX0_keyOf 19 = .ok (.i2l, 1) := by decide +kernel
theorem dX0_keyOf_20 : decode cX0_keyOf 20 = .ok (.lor, 1) := by decide +kernel
theorem dX0_keyOf_21 : decode cX0_keyOf 21 = .ok (.lreturn, 1) := by decide +kernel
theorem dX0_slotOf_0 : decode cX0_slotOf 0 = .ok (.lload_n 0, 1) := by decide +kernel
theorem dX0_slotOf_1 : decode cX0_slotOf 1 = .ok (.lload_n 0, 1) := by decide +kernel
theorem dX0_slotOf_2 : decode cX0_slotOf 2 = .ok (.bipush 24, 2) := by decide +kernel
theorem dX0_slotOf_4 : decode cX0_slotOf 4 = .ok (.lushr, 1) := by decide +kernel
theorem dX0_slotOf_5 : decode cX0_slotOf 5 = .ok (.lxor, 1) := by decide +kernel
theorem dX0_slotOf_6 : decode cX0_slotOf 6 = .ok (.l2i, 1) := by decide +kernel
theorem dX0_slotOf_7 : decode cX0_slotOf 7 = .ok (.ldc 63, 2) := by decide +kernel
theorem dX0_slotOf_9 : decode cX0_slotOf 9 = .ok (.imul, 1) := by decide +kernel
theorem dX0_slotOf_10 : decode cX0_slotOf 10 = .ok (.istore_n 2, 1) := by decide +kernel
theorem dX0_slotOf_11 : decode cX0_slotOf 11 = .ok (.iload_n 2, 1) := by decide +kernel
theorem dX0_slotOf_12 : decode cX0_slotOf 12 = .ok (.bipush 20, 2) := by decide +kernel
theorem dX0_slotOf_14 : decode cX0_slotOf 14 = .ok (.iushr, 1) := by decide +kernel
theorem dX0_slotOf_15 : decode cX0_slotOf 15 = .ok (.ireturn, 1) := by decide +kernel
theorem dX0_remember_0 : decode cX0_remember 0 = .ok (.aload_n 0, 1) := by decide +kernel
theorem dX0_remember_1 : decode cX0_remember 1 = .ok (.getfield 21, 3) := by decide +kernel
theorem dX0_remember_4 : decode cX0_remember 4 = .ok (.iload_n 1, 1) := by decide +kernel
theorem dX0_remember_5 : decode cX0_remember 5 = .ok (.lload_n 2, 1) := by decide +kernel
theorem dX0_remember_6 : decode cX0_remember 6 = .ok (.lastore, 1) := by decide +kernel
theorem dX0_remember_7 : decode cX0_remember 7 = .ok (.aload_n 0, 1) := by decide +kernel
theorem dX0_remember_8 : decode cX0_remember 8 = .ok (.getfield 25, 3) := by decide +kernel
theorem dX0_remember_11 : decode cX0_remember 11 = .ok (.iload_n 1, 1) := by decide +kernel
theorem dX0_remember_12 : decode cX0_remember 12 = .ok (.iload 4, 2) := by decide +kernel
theorem dX0_remember_14 : decode cX0_remember 14 = .ok (.iastore, 1) := by decide +kernel
theorem dX0_remember_15 : decode cX0_remember 15 = .ok (.return_, 1) := by decide +kernel
theorem dX0_count_0 : decode cX0_count 0 = .ok (.iload_n 1, 1) := by decide +kernel
theorem dX0_count_1 : decode cX0_count 1 = .ok (.ifCond .ne 5, 3) := by decide +kernel
theorem dX0_count_4 : decode cX0_count 4 = .ok (.iconst 1, 1) := by decide +kernel
theorem dX0_count_5 : decode cX0_count 5 = .ok (.ireturn, 1) := by decide +kernel
theorem dX0_count_6 : decode cX0_count 6 = .ok (.iload_n 1, 1) := by decide +kernel
theorem dX0_count_7 : decode cX0_count 7 = .ok (.invokestatic 60, 3) := by decide +kernel
theorem dX0_count_10 : decode cX0_count 10 = .ok (.istore_n 3, 1) := by decide +kernel
theorem dX0_count_11 : decode cX0_count 11 = .ok (.iload_n 3, 1) := by decide +kernel
theorem dX0_count_12 : decode cX0_count 12 = .ok (.iconst 1, 1) := by decide +kernel
theorem dX0_count_13 : decode cX0_count 13 = .ok (.if_icmp .ne 20, 3) := by decide +kernel
theorem dX0_count_16 : decode cX0_count 16 = .ok (.iload_n 2, 1) := by decide +kernel
theorem dX0_count_17 : decode cX0_count 17 = .ok (.iload_n 2, 1) := by decide +kernel
theorem dX0_count_18 : decode cX0_count 18 = .ok (.aload_n 0, 1) := by decide +kernel
theorem dX0_count_19 : decode cX0_count 19 = .ok (.getfield 11, 3) := by decide +kernel
theorem dX0_count_22 : decode cX0_count 22 = .ok (.iload_n 1, 1) := by decide +kernel
theorem dX0_count_23 : decode cX0_count 23 = .ok (.invokestatic 64, 3) := by decide +kernel
theorem dX0_count_26 : decode cX0_count 26 = .ok (.iaload, 1) := by decide +kernel
theorem dX0_count_27 : decode cX0_count 27 = .ok (.iushr, 1) := by decide +kernel
theorem dX0_count_28 : decode cX0_count 28 = .ok (.iand, 1) := by decide +kernel
theorem dX0_count_29 : decode cX0_count 29 = .ok (.invokestatic 60, 3) := by decide +kernel
theorem dX0_count_32 : decode cX0_count 32 = .ok (.ireturn, 1) := by decide +kernel
theorem dX0_count_33 : decode cX0_count 33 = .ok (.iload_n 2, 1) := by decide +kernel
theorem dX0_count_34 : decode cX0_count 34 = .ok (.invokestatic 60, 3) := by decide +kernel
theorem dX0_count_37 : decode cX0_count 37 = .ok (.iconst 2, 1) := by decide +kernel
theorem dX0_count_38 : decode cX0_count 38 = .ok (.iload_n 3, 1) := by decide +kernel
theorem dX0_count_39 : decode cX0_count 39 = .ok (.imul, 1) := by decide +kernel
theorem dX0_count_40 : decode cX0_count 40 = .ok (.if_icmp .ge 5, 3) := by decide +kernel
theorem dX0_count_43 : decode cX0_count 43 = .ok (.iconst 0, 1) := by decide +kernel
theorem dX0_count_44 : decode cX0_count 44 = .ok (.ireturn, 1) := by decide +kernel
theorem dX0_count_45 : decode cX0_count 45 = .ok (.aload_n 0, 1) := by decide +kernel
theorem dX0_count_46 : decode cX0_count 46 = .ok (.iconst 0, 1) := by decide +kernel
theorem dX0_count_47 : decode cX0_count 47 = .ok (.iload_n 1, 1) := by decide +kernel
theorem dX0_count_48 : decode cX0_count 48 = .ok (.iload_n 2, 1) := by decide +kernel
theorem dX0_count_49 : decode cX0_count 49 = .ok (.invokevirtual 67, 3) := by decide +kernel
theorem dX0_count_52 : decode cX0_count 52 = .ok (.lstore 4, 2) := by decide +kernel
theorem dX0_count_54 : decode cX0_count 54 = .ok (.lload 4, 2) := by decide +kernel
theorem dX0_count_56 : decode cX0_count 56 = .ok (.invokestatic 71, 3) := by decide +kernel
theorem dX0_count_59 : decode cX0_count 59 = .ok (.istore 6, 2) := by decide +kernel
theorem dX0_count_61 : decode cX0_count 61 = .ok (.aload_n 0, 1) := by decide +kernel
theorem dX0_count_62 : decode cX0_count 62 = .ok (.getfield 21, 3) := by decide +kernel
theorem dX0_count_65 : decode cX0_count 65 = .ok (.iload 6, 2) := by decide +kernel
theorem dX0_count_67 : decode cX0_count 67 = .ok (.laload, 1) := by decide +kernel
theorem dX0_count_68 : decode cX0_count 68 = .ok (.lload 4, 2) := by decide +kernel
theorem dX0_count_70 : decode cX0_count 70 = .ok (.lcmp, 1) := by decide +kernel
theorem dX0_count_71 : decode cX0_count 71 = .ok (.ifCond .ne 11, 3) := by decide +kernel
theorem dX0_count_74 : decode cX0_count 74 = .ok (.aload_n 0, 1) := by decide +kernel
theorem dX0_count_75 : decode cX0_count 75 = .ok (.getfield 25, 3) := by decide +kernel
theorem dX0_count_78 : decode cX0_count 78 = .ok (.iload 6, 2) := by decide +kernel
theorem dX0_count_80 : decode cX0_count 80 = .ok (.iaload, 1) := by decide +kernel
theorem dX0_count_81 : decode cX0_count 81 = .ok (.ireturn, 1) := by decide +kernel
theorem dX0_count_82 : decode cX0_count 82 = .ok (.aload_n 0, 1) := by decide +kernel
theorem dX0_count_83 : decode cX0_count 83 = .ok (.iload_n 1, 1) := by decide +kernel
theorem dX0_count_84 : decode cX0_count 84 = .ok (.iload_n 2, 1) := by decide +kernel
theorem dX0_count_85 : decode cX0_count 85 = .ok (.invokevirtual 75, 3) := by decide +kernel
theorem dX0_count_88 : decode cX0_count 88 = .ok (.istore 7, 2) := by decide +kernel
theorem dX0_count_90 : decode cX0_count 90 = .ok (.aload_n 0, 1) := by decide +kernel
theorem dX0_count_91 : decode cX0_count 91 = .ok (.iload 6, 2) := by decide +kernel
theorem dX0_count_93 : decode cX0_count 93 = .ok (.lload 4, 2) := by decide +kernel
theorem dX0_count_95 : decode cX0_count 95 = .ok (.iload 7, 2) := by decide +kernel
theorem dX0_count_97 : decode cX0_count 97 = .ok (.invokevirtual 78, 3) := by decide +kernel
theorem dX0_count_100 : decode cX0_count 100 = .ok (.iload 7, 2) := by decide +kernel
theorem dX0_count_102 : decode cX0_count 102 = .ok (.ireturn, 1) := by decide +kernel
theorem dX0_countAnew_0 : decode cX0_countAnew 0 = .ok (.aload_n 0, 1) := by decide +kernel
theorem dX0_countAnew_1 : decode cX0_countAnew 1 = .ok (.iload_n 1, 1) := by decide +kernel
theorem dX0_countAnew_2 : decode cX0_countAnew 2 = .ok (.iload_n 2, 1) := by decide +kernel
theorem dX0_countAnew_3 : decode cX0_countAnew 3 = .ok (.invokevirtual 82, 3) := by decide +kernel
theorem dX0_countAnew_6 : decode cX0_countAnew 6 = .ok (.istore_n 3, 1) := by decide +kernel
theorem dX0_countAnew_7 : decode cX0_countAnew 7 = .ok (.iload_n 3, 1) := by decide +kernel
theorem dX0_countAnew_8 : decode cX0_countAnew 8 = .ok (.invokestatic 39, 3) := by decide +kernel
theorem dX0_countAnew_11 : decode cX0_countAnew 11 = .ok (.ifCond .ne 5, 3) := by decide +kernel
theorem dX0_countAnew_14 : decode cX0_countAnew 14 = .ok (.iconst 0, 1) := by decide +kernel
theorem dX0_countAnew_15 : decode cX0_countAnew 15 = .ok (.ireturn, 1) := by decide +kernel
theorem dX0_countAnew_16 : decode cX0_countAnew 16 = .ok (.aload_n 0, 1) := by decide +kernel
theorem dX0_countAnew_17 : decode cX0_countAnew 17 = .ok (.iload_n 3, 1) := by decide +kernel
theorem dX0_countAnew_18 : decode cX0_countAnew 18 = .ok (.iload_n 2, 1) := by decide +kernel
theorem dX0_countAnew_19 : decode cX0_countAnew 19 = .ok (.invokevirtual 47, 3) := by decide +kernel
theorem dX0_countAnew_22 : decode cX0_countAnew 22 = .ok (.istore 4, 2) := by decide +kernel
theorem dX0_countAnew_24 : decode cX0_countAnew 24 = .ok (.iload 4, 2) := by decide +kernel
theorem dX0_countAnew_26 : decode cX0_countAnew 26 = .ok (.invokestatic 60, 3) := by decide +kernel
theorem dX0_countAnew_29 : decode cX0_countAnew 29 = .ok (.iconst 2, 1) := by decide +kernel
theorem dX0_countAnew_30 : decode cX0_countAnew 30 = .ok (.if_icmp .gt 15, 3) := by decide +kernel
theorem dX0_countAnew_33 : decode cX0_countAnew 33 = .ok (.aload_n 0, 1) := by decide +kernel
theorem dX0_countAnew_34 : decode cX0_countAnew 34 = .ok (.iload_n 1, 1) := by decide +kernel
theorem dX0_countAnew_35 : decode cX0_countAnew 35 = .ok (.iload_n 2, 1) := by decide +kernel
theorem dX0_countAnew_36 : decode cX0_countAnew 36 = .ok (.iload_n 3, 1) := by decide +kernel
theorem dX0_countAnew_37 : decode cX0_countAnew 37 = .ok (.iload 4, 2) := by decide +kernel
theorem dX0_countAnew_39 : decode cX0_countAnew 39 = .ok (.invokevirtual 85, 3) := by decide +kernel
theorem dX0_countAnew_42 : decode cX0_countAnew 42 = .ok (.goto 9, 3) := by decide +kernel
theorem dX0_countAnew_45 : decode cX0_countAnew 45 = .ok (.aload_n 0, 1) := by decide +kernel
theorem dX0_countAnew_46 : decode cX0_countAnew 46 = .ok (.iload_n 1, 1) := by decide +kernel
theorem dX0_countAnew_47 : decode cX0_countAnew 47 = .ok (.iload_n 2, 1) := by decide +kernel
theorem dX0_countAnew_48 : decode cX0_countAnew 48 = .ok (.invokevirtual 89, 3) := by decide +kernel
theorem dX0_countAnew_51 : decode cX0_countAnew 51 = .ok (.ireturn, 1) := by decide +kernel
theorem dX0_countByNumber_0 : decode cX0_countByNumber 0 = .ok (.iconst 0, 1) := by decide +kernel
theorem dX0_countByNumber_1 : decode cX0_countByNumber 1 = .ok (.istore 5, 2) := by decide +kernel
theorem dX0_countByNumber_3 : decode cX0_countByNumber 3 = .ok (.iconst 0, 1) := by decide +kernel
theorem dX0_countByNumber_4 : decode cX0_countByNumber 4 = .ok (.istore 6, 2) := by decide +kernel
theorem dX0_countByNumber_6 : decode cX0_countByNumber 6 = .ok (.iload 6, 2) := by decide +kernel
theorem dX0_countByNumber_8 : decode cX0_countByNumber 8 = .ok (.bipush 16, 2) := by decide +kernel
theorem dX0_countByNumber_10 : decode cX0_countByNumber 10 = .ok (.if_icmp .ge 47, 3) := by decide +kernel
theorem dX0_countByNumber_13 : decode cX0_countByNumber 13 = .ok (.iload 4, 2) := by decide +kernel
theorem dX0_countByNumber_15 : decode cX0_countByNumber 15 = .ok (.iload 6, 2) := by decide +kernel
theorem dX0_countByNumber_17 : decode cX0_countByNumber 17 = .ok (.iushr, 1) := by decide +kernel
theorem dX0_countByNumber_18 : decode cX0_countByNumber 18 = .ok (.iconst 1, 1) := by decide +kernel
theorem dX0_countByNumber_19 : decode cX0_countByNumber 19 = .ok (.iand, 1) := by decide +kernel
theorem dX0_countByNumber_20 : decode cX0_countByNumber 20 = .ok (.ifCond .eq 31, 3) := by decide +kernel
theorem dX0_countByNumber_23 : decode cX0_countByNumber 23 = .ok (.iload 5, 2) := by decide +kernel
theorem dX0_countByNumber_25 : decode cX0_countByNumber 25 = .ok (.aload_n 0, 1) := by decide +kernel
theorem dX0_countByNumber_26 : decode cX0_countByNumber 26 = .ok (.iload_n 1, 1) := by decide +kernel
theorem dX0_countByNumber_27 : decode cX0_countByNumber 27 = .ok (.iload_n 3, 1) := by decide +kernel
theorem dX0_countByNumber_28 : decode cX0_countByNumber 28 = .ok (.invokestatic 43, 3) := by decide +kernel
theorem dX0_countByNumber_31 : decode cX0_countByNumber 31 = .ok (.iconst (-1), 1) := by decide +kernel
theorem dX0_countByNumber_32 : decode cX0_countByNumber 32 = .ok (.ixor, 1) := by decide +kernel
theorem dX0_countByNumber_33 : decode cX0_countByNumber 33 = .ok (.iand, 1) := by decide +kernel
theorem dX0_countByNumber_34 : decode cX0_countByNumber 34 = .ok (.iload_n 2, 1) := by decide +kernel
theorem dX0_countByNumber_35 : decode cX0_countByNumber 35 = .ok (.aload_n 0, 1) := by decide +kernel
theorem dX0_countByNumber_36 : decode cX0_countByNumber 36 = .ok (.iload_n 3, 1) := by decide +kernel
theorem dX0_countByNumber_37 : decode cX0_countByNumber 37 = .ok (.iload 6, 2) := by decide +kernel
theorem dX0_countByNumber_39 : decode cX0_countByNumber 39 = .ok (.invokevirtual 92, 3) := by decide +kernel
theorem dX0_countByNumber_42 : decode cX0_countByNumber 42 = .ok (.iconst (-1), 1) := by decide +kernel
theorem dX0_countByNumber_43 : decode cX0_countByNumber 43 = .ok (.ixor, 1) := by decide +kernel
theorem dX0_countByNumber_44 : decode cX0_countByNumber 44 = .ok (.iand, 1) := by decide +kernel
theorem dX0_countByNumber_45 : decode cX0_countByNumber 45 = .ok (.invokevirtual 95, 3) := by decide +kernel
theorem dX0_countByNumber_48 : decode cX0_countByNumber 48 = .ok (.iadd, 1) := by decide +kernel
theorem dX0_countByNumber_49 : decode cX0_countByNumber 49 = .ok (.istore 5, 2) := by decide +kernel
theorem dX0_countByNumber_51 : decode cX0_countByNumber 51 = .ok (.iinc 6 1, 3) := by decide +kernel
theorem dX0_countByNumber_54 : decode cX0_countByNumber 54 = .ok (.goto (-48), 3) := by decide +kernel
theorem dX0_countByNumber_57 : decode cX0_countByNumber 57 = .ok (.iload 5, 2) := by decide +kernel
theorem dX0_countByNumber_59 : decode cX0_countByNumber 59 = .ok (.ireturn, 1) := by decide +kernel
theorem dX0_countByPlace_0 : decode cX0_countByPlace 0 = .ok (.iload_n 2, 1) := by decide +kernel
theorem dX0_countByPlace_1 : decode cX0_countByPlace 1 = .ok (.invokestatic 51, 3) := by decide +kernel
theorem dX0_countByPlace_4 : decode cX0_countByPlace 4 = .ok (.istore_n 3, 1) := by decide +kernel
theorem dX0_countByPlace_5 : decode cX0_countByPlace 5 = .ok (.aload_n 0, 1) := by decide +kernel
theorem dX0_countByPlace_6 : decode cX0_countByPlace 6 = .ok (.iload_n 1, 1) := by decide +kernel
theorem dX0_countByPlace_7 : decode cX0_countByPlace 7 = .ok (.iload_n 2, 1) := by decide +kernel
theorem dX0_countByPlace_8 : decode cX0_countByPlace 8 = .ok (.iconst 1, 1) := by decide +kernel
theorem dX0_countByPlace_9 : decode cX0_countByPlace 9 = .ok (.iload_n 3, 1) := by decide +kernel
theorem dX0_countByPlace_10 : decode cX0_countByPlace 10 = .ok (.ishl, 1) := by decide +kernel
theorem dX0_countByPlace_11 : decode cX0_countByPlace 11 = .ok (.iconst (-1), 1) := by decide +kernel
theorem dX0_countByPlace_12 : decode cX0_countByPlace 12 = .ok (.ixor, 1) := by decide +kernel
theorem dX0_countByPlace_13 : decode cX0_countByPlace 13 = .ok (.iand, 1) := by decide +kernel
theorem dX0_countByPlace_14 : decode cX0_countByPlace 14 = .ok (.invokevirtual 95, 3) := by decide +kernel
theorem dX0_countByPlace_17 : decode cX0_countByPlace 17 = .ok (.istore 4, 2) := by decide +kernel
theorem dX0_countByPlace_19 : decode cX0_countByPlace 19 = .ok (.iconst 1, 1) := by decide +kernel
theorem dX0_countByPlace_20 : decode cX0_countByPlace 20 = .ok (.istore 5, 2) := by decide +kernel
theorem dX0_countByPlace_22 : decode cX0_countByPlace 22 = .ok (.iload 5, 2) := by decide +kernel
theorem dX0_countByPlace_24 : decode cX0_countByPlace 24 = .ok (.bipush 8, 2) := by decide +kernel
theorem dX0_countByPlace_26 : decode cX0_countByPlace 26 = .ok (.if_icmp .gt 74, 3) := by decide +kernel
theorem dX0_countByPlace_29 : decode cX0_countByPlace 29 = .ok (.aload_n 0, 1) := by decide +kernel
theorem dX0_countByPlace_30 : decode cX0_countByPlace 30 = .ok (.iload_n 1, 1) := by decide +kernel
theorem dX0_countByPlace_31 : decode cX0_countByPlace 31 = .ok (.iload 5, 2) := by decide +kernel
theorem dX0_countByPlace_33 : decode cX0_countByPlace 33 = .ok (.invokevirtual 56, 3) := by decide +kernel
theorem dX0_countByPlace_36 : decode cX0_countByPlace 36 = .ok (.ifCond .eq 58, 3) := by decide +kernel
theorem dX0_countByPlace_39 : decode cX0_countByPlace 39 = .ok (.aload_n 0, 1) := by decide +kernel
theorem dX0_countByPlace_40 : decode cX0_countByPlace 40 = .ok (.iload 5, 2) := by decide +kernel
theorem dX0_countByPlace_42 : decode cX0_countByPlace 42 = .ok (.iload_n 3, 1) := by decide +kernel
theorem dX0_countByPlace_43 : decode cX0_countByPlace 43 = .ok (.invokevirtual 92, 3) := by decide +kernel
theorem dX0_countByPlace_46 : decode cX0_countByPlace 46 = .ok (.istore 6, 2) := by decide +kernel
theorem dX0_countByPlace_48 : decode cX0_countByPlace 48 = .ok (.iload 6, 2) := by decide +kernel
theorem dX0_countByPlace_50 : decode cX0_countByPlace 50 = .ok (.iload_n 2, 1) := by decide +kernel
theorem dX0_countByPlace_51 : decode cX0_countByPlace 51 = .ok (.iconst (-1), 1) := by decide +kernel
theorem dX0_countByPlace_52 : decode cX0_countByPlace 52 = .ok (.ixor, 1) := by decide +kernel
theorem dX0_countByPlace_53 : decode cX0_countByPlace 53 = .ok (.iand, 1) := by decide +kernel
theorem dX0_countByPlace_54 : decode cX0_countByPlace 54 = .ok (.ifCond .ne 40, 3) := by decide +kernel
theorem dX0_countByPlace_57 : decode cX0_countByPlace 57 = .ok (.iload 4, 2) := by decide +kernel
theorem dX0_countByPlace_59 : decode cX0_countByPlace 59 = .ok (.aload_n 0, 1) := by decide +kernel
theorem dX0_countByPlace_60 : decode cX0_countByPlace 60 = .ok (.getfield 15, 3) := by decide +kernel
theorem dX0_countByPlace_63 : decode cX0_countByPlace 63 = .ok (.iload 5, 2) := by decide +kernel
theorem dX0_countByPlace_65 : decode cX0_countByPlace 65 = .ok (.iaload, 1) := by decide +kernel
theorem dX0_countByPlace_66 : decode cX0_countByPlace 66 = .ok (.iload_n 1, 1) := by decide +kernel
theorem dX0_countByPlace_67 : decode cX0_countByPlace 67 = .ok (.iand, 1) := by decide +kernel
theorem dX0_countByPlace_68 : decode cX0_countByPlace 68 = .ok (.invokestatic 60, 3) := by decide +kernel
theorem dX0_countByPlace_71 : decode cX0_countByPlace 71 = .ok (.aload_n 0, 1) := by decide +kernel
theorem dX0_countByPlace_72 : decode cX0_countByPlace 72 = .ok (.iload_n 1, 1) := by decide +kernel
theorem dX0_countByPlace_73 : decode cX0_countByPlace 73 = .ok (.iload 5, 2) := by decide +kernel
theorem dX0_countByPlace_75 : decode cX0_countByPlace 75 = .ok (.invokestatic 43, 3) := by decide +kernel
theorem dX0_countByPlace_78 : decode cX0_countByPlace 78 = .ok (.iconst (-1), 1) := by decide +kernel
theorem dX0_countByPlace_79 : decode cX0_countByPlace 79 = .ok (.ixor, 1) := by decide +kernel
theorem dX0_countByPlace_80 : decode cX0_countByPlace 80 = .ok (.iand, 1) := by decide +kernel
theorem dX0_countByPlace_81 : decode cX0_countByPlace 81 = .ok (.iload_n 2, 1) := by decide +kernel
theorem dX0_countByPlace_82 : decode cX0_countByPlace 82 = .ok (.iload 6, 2) := by decide +kernel
theorem dX0_countByPlace_84 : decode cX0_countByPlace 84 = .ok (.iconst (-1), 1) := by decide +kernel
theorem dX0_countByPlace_85 : decode cX0_countByPlace 85 = .ok (.ixor, 1) := by decide +kernel
theorem dX0_countByPlace_86 : decode cX0_countByPlace 86 = .ok (.iand, 1) := by decide +kernel
theorem dX0_countByPlace_87 : decode cX0_countByPlace 87 = .ok (.invokevirtual 95, 3) := by decide +kernel
theorem dX0_countByPlace_90 : decode cX0_countByPlace 90 = .ok (.imul, 1) := by decide +kernel
theorem dX0_countByPlace_91 : decode cX0_countByPlace 91 = .ok (.iadd, 1) := by decide +kernel
theorem dX0_countByPlace_92 : decode cX0_countByPlace 92 = .ok (.istore 4, 2) := by decide +kernel
theorem dX0_countByPlace_94 : decode cX0_countByPlace 94 = .ok (.iinc 5 1, 3) := by decide +kernel
theorem dX0_countByPlace_97 : decode cX0_countByPlace 97 = .ok (.goto (-75), 3) := by decide +kernel
theorem dX0_countByPlace_100 : decode cX0_countByPlace 100 = .ok (.iload 4, 2) := by decide +kernel
theorem dX0_countByPlace_102 : decode cX0_countByPlace 102 = .ok (.ireturn, 1) := by decide +kernel
theorem dX0_countWith_0 : decode cX0_countWith 0 = .ok (.iload_n 3, 1) := by decide +kernel
theorem dX0_countWith_1 : decode cX0_countWith 1 = .ok (.invokestatic 39, 3) := by decide +kernel
theorem dX0_countWith_4 : decode cX0_countWith 4 = .ok (.ifCond .eq 26, 3) := by decide +kernel
theorem dX0_countWith_7 : decode cX0_countWith 7 = .ok (.iload 4, 2) := by decide +kernel
theorem dX0_countWith_9 : decode cX0_countWith 9 = .ok (.ifCond .lt 21, 3) := by decide +kernel
theorem dX0_countWith_12 : decode cX0_countWith 12 = .ok (.iload 4, 2) := by decide +kernel
theorem dX0_countWith_14 : decode cX0_countWith 14 = .ok (.bipush 16, 2) := by decide +kernel
theorem dX0_countWith_16 : decode cX0_countWith 16 = .ok (.if_icmp .ge 14, 3) := by decide +kernel
theorem dX0_countWith_19 : decode cX0_countWith 19 = .ok (.aload_n 0, 1) := by decide +kernel
theorem dX0_countWith_20 : decode cX0_countWith 20 = .ok (.iload_n 3, 1) := by decide +kernel
theorem dX0_countWith_21 : decode cX0_countWith 21 = .ok (.iload_n 2, 1) := by decide +kernel
theorem dX0_countWith_22 : decode cX0_countWith 22 = .ok (.iload 4, 2) := by decide +kernel
theorem dX0_countWith_24 : decode cX0_countWith 24 = .ok (.invokevirtual 98, 3) := by decide +kernel
theorem dX0_countWith_27 : decode cX0_countWith 27 = .ok (.ifCond .ne 5, 3) := by decide +kernel
theorem dX0_countWith_30 : decode cX0_countWith 30 = .ok (.iconst 0, 1) := by decide +kernel
theorem dX0_countWith_31 : decode cX0_countWith 31 = .ok (.ireturn, 1) := by decide +kernel
theorem dX0_countWith_32 : decode cX0_countWith 32 = .ok (.aload_n 0, 1) := by decide +kernel
theorem dX0_countWith_33 : decode cX0_countWith 33 = .ok (.iload_n 1, 1) := by decide +kernel
theorem dX0_countWith_34 : decode cX0_countWith 34 = .ok (.iload_n 3, 1) := by decide +kernel
theorem dX0_countWith_35 : decode cX0_countWith 35 = .ok (.invokestatic 43, 3) := by decide +kernel
theorem dX0_countWith_38 : decode cX0_countWith 38 = .ok (.iconst (-1), 1) := by decide +kernel
theorem dX0_countWith_39 : decode cX0_countWith 39 = .ok (.ixor, 1) := by decide +kernel
theorem dX0_countWith_40 : decode cX0_countWith 40 = .ok (.iand, 1) := by decide +kernel
theorem dX0_countWith_41 : decode cX0_countWith 41 = .ok (.iload_n 2, 1) := by decide +kernel
theorem dX0_countWith_42 : decode cX0_countWith 42 = .ok (.aload_n 0, 1) := by decide +kernel
theorem dX0_countWith_43 : decode cX0_countWith 43 = .ok (.iload_n 3, 1) := by decide +kernel
theorem dX0_countWith_44 : decode cX0_countWith 44 = .ok (.iload 4, 2) := by decide +kernel
theorem dX0_countWith_46 : decode cX0_countWith 46 = .ok (.invokevirtual 92, 3) := by decide +kernel
theorem dX0_countWith_49 : decode cX0_countWith 49 = .ok (.iconst (-1), 1) := by decide +kernel
theorem dX0_countWith_50 : decode cX0_countWith 50 = .ok (.ixor, 1) := by decide +kernel
theorem dX0_countWith_51 : decode cX0_countWith 51 = .ok (.iand, 1) := by decide +kernel
theorem dX0_countWith_52 : decode cX0_countWith 52 = .ok (.invokevirtual 95, 3) := by decide +kernel
theorem dX0_countWith_55 : decode cX0_countWith 55 = .ok (.ireturn, 1) := by decide +kernel
theorem dX0_countRound_0 : decode cX0_countRound 0 = .ok (.iload_n 1, 1) := by decide +kernel
theorem dX0_countRound_1 : decode cX0_countRound 1 = .ok (.ifCond .ne 5, 3) := by decide +kernel
theorem dX0_countRound_4 : decode cX0_countRound 4 = .ok (.iconst 1, 1) := by decide +kernel
theorem dX0_countRound_5 : decode cX0_countRound 5 = .ok (.ireturn, 1) := by decide +kernel
theorem dX0_countRound_6 : decode cX0_countRound 6 = .ok (.iload_n 1, 1) := by decide +kernel
theorem dX0_countRound_7 : decode cX0_countRound 7 = .ok (.invokestatic 64, 3) := by decide +kernel
theorem dX0_countRound_10 : decode cX0_countRound 10 = .ok (.istore_n 2, 1) := by decide +kernel
theorem dX0_countRound_11 : decode cX0_countRound 11 = .ok (.iconst 2, 1) := by decide +kernel
theorem dX0_countRound_12 : decode cX0_countRound 12 = .ok (.iload_n 1, 1) := by decide +kernel
theorem dX0_countRound_13 : decode cX0_countRound 13 = .ok (.invokestatic 60, 3) := by decide +kernel
theorem dX0_countRound_16 : decode cX0_countRound 16 = .ok (.imul, 1) := by decide +kernel
theorem dX0_countRound_17 : decode cX0_countRound 17 = .ok (.istore_n 3, 1) := by decide +kernel
theorem dX0_countRound_18 : decode cX0_countRound 18 = .ok (.aload_n 0, 1) := by decide +kernel
theorem dX0_countRound_19 : decode cX0_countRound 19 = .ok (.getfield 11, 3) := by decide +kernel
theorem dX0_countRound_22 : decode cX0_countRound 22 = .ok (.iload_n 2, 1) := by decide +kernel
theorem dX0_countRound_23 : decode cX0_countRound 23 = .ok (.iaload, 1) := by decide +kernel
theorem dX0_countRound_24 : decode cX0_countRound 24 = .ok (.iload_n 3, 1) := by decide +kernel
theorem dX0_countRound_25 : decode cX0_countRound 25 = .ok (.irem, 1) := by decide +kernel
theorem dX0_countRound_26 : decode cX0_countRound 26 = .ok (.istore 4, 2) := by decide +kernel
theorem dX0_countRound_28 : decode cX0_countRound 28 = .ok (.iload 4, 2) := by decide +kernel
theorem dX0_countRound_30 : decode cX0_countRound 30 = .ok (.ifCond .ne 5, 3) := by decide +kernel
theorem dX0_countRound_33 : decode cX0_countRound 33 = .ok (.iconst 0, 1) := by decide +kernel
theorem dX0_countRound_34 : decode cX0_countRound 34 = .ok (.ireturn, 1) := by decide +kernel
theorem dX0_countRound_35 : decode cX0_countRound 35 = .ok (.iconst 2, 1) := by decide +kernel
theorem dX0_countRound_36 : decode cX0_countRound 36 = .ok (.iload 4, 2) := by decide +kernel
theorem dX0_countRound_38 : decode cX0_countRound 38 = .ok (.imul, 1) := by decide +kernel
theorem dX0_countRound_39 : decode cX0_countRound 39 = .ok (.iload_n 3, 1) := by decide +kernel
theorem dX0_countRound_40 : decode cX0_countRound 40 = .ok (.if_icmp .ne 8, 3) := by decide +kernel
theorem dX0_countRound_43 : decode cX0_countRound 43 = .ok (.iload 4, 2) := by decide +kernel
theorem dX0_countRound_45 : decode cX0_countRound 45 = .ok (.goto 4, 3) := by decide +kernel
theorem dX0_countRound_48 : decode cX0_countRound 48 = .ok (.iload_n 3, 1) := by decide +kernel
theorem dX0_countRound_49 : decode cX0_countRound 49 = .ok (.istore 5, 2) := by decide +kernel
theorem dX0_countRound_51 : decode cX0_countRound 51 = .ok (.iload 5, 2) := by decide +kernel
theorem dX0_countRound_53 : decode cX0_countRound 53 = .ok (.aload_n 0, 1) := by decide +kernel
theorem dX0_countRound_54 : decode cX0_countRound 54 = .ok (.iload_n 1, 1) := by decide +kernel
theorem dX0_countRound_55 : decode cX0_countRound 55 = .ok (.iload_n 2, 1) := by decide +kernel
theorem dX0_countRound_56 : decode cX0_countRound 56 = .ok (.invokestatic 43, 3) := by decide +kernel
theorem dX0_countRound_59 : decode cX0_countRound 59 = .ok (.iconst (-1), 1) := by decide +kernel
theorem dX0_countRound_60 : decode cX0_countRound 60 = .ok (.ixor, 1) := by decide +kernel
theorem dX0_countRound_61 : decode cX0_countRound 61 = .ok (.iand, 1) := by decide +kernel
theorem dX0_countRound_62 : decode cX0_countRound 62 = .ok (.iload_n 3, 1) := by decide +kernel
theorem dX0_countRound_63 : decode cX0_countRound 63 = .ok (.invokestatic 102, 3) := by decide +kernel
theorem dX0_countRound_66 : decode cX0_countRound 66 = .ok (.iconst 1, 1) := by decide +kernel
theorem dX0_countRound_67 : decode cX0_countRound 67 = .ok (.iconst 1, 1) := by decide +kernel
theorem dX0_countRound_68 : decode cX0_countRound 68 = .ok (.iload 4, 2) := by decide +kernel
theorem dX0_countRound_70 : decode cX0_countRound 70 = .ok (.ishl, 1) := by decide +kernel
theorem dX0_countRound_71 : decode cX0_countRound 71 = .ok (.ior, 1) := by decide +kernel
theorem dX0_countRound_72 : decode cX0_countRound 72 = .ok (.iconst (-1), 1) := by decide +kernel
theorem dX0_countRound_73 : decode cX0_countRound 73 = .ok (.ixor, 1) := by decide +kernel
theorem dX0_countRound_74 : decode cX0_countRound 74 = .ok (.iand, 1) := by decide +kernel
theorem dX0_countRound_75 : decode cX0_countRound 75 = .ok (.iload_n 3, 1) := by decide +kernel
theorem dX0_countRound_76 : decode cX0_countRound 76 = .ok (.invokevirtual 105, 3) := by decide +kernel
theorem dX0_countRound_79 : decode cX0_countRound 79 = .ok (.imul, 1) := by decide +kernel
theorem dX0_countRound_80 : decode cX0_countRound 80 = .ok (.ireturn, 1) := by decide +kernel
theorem dX0_countRest_0 : decode cX0_countRest 0 = .ok (.iload_n 1, 1) := by decide +kernel
theorem dX0_countRest_1 : decode cX0_countRest 1 = .ok (.ifCond .eq 7, 3) := by decide +kernel
theorem dX0_countRest_4 : decode cX0_countRest 4 = .ok (.iload_n 3, 1) := by decide +kernel
theorem dX0_countRest_5 : decode cX0_countRest 5 = .ok (.ifCond .gt 5, 3) := by decide +kernel
theorem dX0_countRest_8 : decode cX0_countRest 8 = .ok (.iconst 1, 1) := by decide +kernel
theorem dX0_countRest_9 : decode cX0_countRest 9 = .ok (.ireturn, 1) := by decide +kernel
theorem dX0_countRest_10 : decode cX0_countRest 10 = .ok (.aload_n 0, 1) := by decide +kernel
theorem dX0_countRest_11 : decode cX0_countRest 11 = .ok (.iconst 3, 1) := by decide +kernel
theorem dX0_countRest_12 : decode cX0_countRest 12 = .ok (.iload_n 3, 1) := by decide +kernel
theorem dX0_countRest_13 : decode cX0_countRest 13 = .ok (.iadd, 1) := by decide +kernel
theorem dX0_countRest_14 : decode cX0_countRest 14 = .ok (.iload_n 1, 1) := by decide +kernel
theorem dX0_countRest_15 : decode cX0_countRest 15 = .ok (.iload_n 2, 1) := by decide +kernel
theorem dX0_countRest_16 : decode cX0_countRest 16 = .ok (.invokevirtual 67, 3) := by decide +kernel
theorem dX0_countRest_19 : decode cX0_countRest 19 = .ok (.lstore 4, 2) := by decide +kernel
theorem dX0_countRest_21 : decode cX0_countRest 21 = .ok (.lload 4, 2) := by decide +kernel
theorem dX0_countRest_23 : decode cX0_countRest 23 = .ok (.invokestatic 71, 3) := by decide +kernel
theorem dX0_countRest_26 : decode cX0_countRest 26 = .ok (.istore 6, 2) := by decide +kernel
theorem dX0_countRest_28 : decode cX0_countRest 28 = .ok (.aload_n 0, 1) := by decide +kernel
theorem dX0_countRest_29 : decode cX0_countRest 29 = .ok (.getfield 21, 3) := by decide +kernel
theorem dX0_countRest_32 : decode cX0_countRest 32 = .ok (.iload 6, 2) := by decide +kernel
theorem dX0_countRest_34 : decode cX0_countRest 34 = .ok (.laload, 1) := by decide +kernel
theorem dX0_countRest_35 : decode cX0_countRest 35 = .ok (.lload 4, 2) := by decide +kernel
theorem dX0_countRest_37 : decode cX0_countRest 37 = .ok (.lcmp, 1) := by decide +kernel
theorem dX0_countRest_38 : decode cX0_countRest 38 = .ok (.ifCond .ne 11, 3) := by decide +kernel
theorem dX0_countRest_41 : decode cX0_countRest 41 = .ok (.aload_n 0, 1) := by decide +kernel
theorem dX0_countRest_42 : decode cX0_countRest 42 = .ok (.getfield 25, 3) := by decide +kernel
theorem dX0_countRest_45 : decode cX0_countRest 45 = .ok (.iload 6, 2) := by decide +kernel
theorem dX0_countRest_47 : decode cX0_countRest 47 = .ok (.iaload, 1) := by decide +kernel
theorem dX0_countRest_48 : decode cX0_countRest 48 = .ok (.ireturn, 1) := by decide +kernel
theorem dX0_countRest_49 : decode cX0_countRest 49 = .ok (.iload_n 2, 1) := by decide +kernel
theorem dX0_countRest_50 : decode cX0_countRest 50 = .ok (.invokestatic 51, 3) := by decide +kernel
theorem dX0_countRest_53 : decode cX0_countRest 53 = .ok (.istore 7, 2) := by decide +kernel
theorem dX0_countRest_55 : decode cX0_countRest 55 = .ok (.iconst 0, 1) := by decide +kernel
theorem dX0_countRest_56 : decode cX0_countRest 56 = .ok (.istore 8, 2) := by decide +kernel
theorem dX0_countRest_58 : decode cX0_countRest 58 = .ok (.iconst 1, 1) := by decide +kernel
theorem dX0_countRest_59 : decode cX0_countRest 59 = .ok (.istore 9, 2) := by decide +kernel
theorem dX0_countRest_61 : decode cX0_countRest 61 = .ok (.iload 9, 2) := by decide +kernel
theorem dX0_countRest_63 : decode cX0_countRest 63 = .ok (.bipush 8, 2) := by decide +kernel
theorem dX0_countRest_65 : decode cX0_countRest 65 = .ok (.if_icmp .gt 162, 3) := by decide +kernel
theorem dX0_countRest_68 : decode cX0_countRest 68 = .ok (.aload_n 0, 1) := by decide +kernel
theorem dX0_countRest_69 : decode cX0_countRest 69 = .ok (.iload_n 1, 1) := by decide +kernel
theorem dX0_countRest_70 : decode cX0_countRest 70 = .ok (.iload 9, 2) := by decide +kernel
theorem dX0_countRest_72 : decode cX0_countRest 72 = .ok (.invokevirtual 56, 3) := by decide +kernel
theorem dX0_countRest_75 : decode cX0_countRest 75 = .ok (.ifCond .eq 146, 3) := by decide +kernel
theorem dX0_countRest_78 : decode cX0_countRest 78 = .ok (.aload_n 0, 1) := by decide +kernel
theorem dX0_countRest_79 : decode cX0_countRest 79 = .ok (.getfield 11, 3) := by decide +kernel
theorem dX0_countRest_82 : decode cX0_countRest 82 = .ok (.iload 9, 2) := by decide +kernel
theorem dX0_countRest_84 : decode cX0_countRest 84 = .ok (.iaload, 1) := by decide +kernel
theorem dX0_countRest_85 : decode cX0_countRest 85 = .ok (.iload_n 3, 1) := by decide +kernel
theorem dX0_countRest_86 : decode cX0_countRest 86 = .ok (.irem, 1) := by decide +kernel
theorem dX0_countRest_87 : decode cX0_countRest 87 = .ok (.istore 10, 2) := by decide +kernel
theorem dX0_countRest_89 : decode cX0_countRest 89 = .ok (.iconst 1, 1) := by decide +kernel
theorem dX0_countRest_90 : decode cX0_countRest 90 = .ok (.iload 7, 2) := by decide +kernel
theorem dX0_countRest_92 : decode cX0_countRest 92 = .ok (.ishl, 1) := by decide +kernel
theorem dX0_countRest_93 : decode cX0_countRest 93 = .ok (.iconst 1, 1) := by decide +kernel
theorem dX0_countRest_94 : decode cX0_countRest 94 = .ok (.iload 7, 2) := by decide +kernel
theorem dX0_countRest_96 : decode cX0_countRest 96 = .ok (.iload 10, 2) := by decide +kernel
theorem dX0_countRest_98 : decode cX0_countRest 98 = .ok (.iadd, 1) := by decide +kernel
theorem dX0_countRest_99 : decode cX0_countRest 99 = .ok (.iload_n 3, 1) := by decide +kernel
theorem dX0_countRest_100 : decode cX0_countRest 100 = .ok (.irem, 1) := by decide +kernel
theorem dX0_countRest_101 : decode cX0_countRest 101 = .ok (.ishl, 1) := by decide +kernel
theorem dX0_countRest_102 : decode cX0_countRest 102 = .ok (.ior, 1) := by decide +kernel
theorem dX0_countRest_103 : decode cX0_countRest 103 = .ok (.istore 11, 2) := by decide +kernel
theorem dX0_countRest_105 : decode cX0_countRest 105 = .ok (.iconst 1, 1) := by decide +kernel
theorem dX0_countRest_106 : decode cX0_countRest 106 = .ok (.iload 7, 2) := by decide +kernel
theorem dX0_countRest_108 : decode cX0_countRest 108 = .ok (.ishl, 1) := by decide +kernel
theorem dX0_countRest_109 : decode cX0_countRest 109 = .ok (.iconst 1, 1) := by decide +kernel
theorem dX0_countRest_110 : decode cX0_countRest 110 = .ok (.iload 7, 2) := by decide +kernel
theorem dX0_countRest_112 : decode cX0_countRest 112 = .ok (.iload_n 3, 1) := by decide +kernel
theorem dX0_countRest_113 : decode cX0_countRest 113 = .ok (.iadd, 1) := by decide +kernel
theorem dX0_countRest_114 : decode cX0_countRest 114 = .ok (.iload 10, 2) := by decide +kernel
theorem dX0_countRest_116 : decode cX0_countRest 116 = .ok (.isub, 1) := by decide +kernel
theorem dX0_countRest_117 : decode cX0_countRest 117 = .ok (.iload_n 3, 1) := by decide +kernel
theorem dX0_countRest_118 : decode cX0_countRest 118 = .ok (.irem, 1) := by decide +kernel
theorem dX0_countRest_119 : decode cX0_countRest 119 = .ok (.ishl, 1) := by decide +kernel
theorem dX0_countRest_120 : decode cX0_countRest 120 = .ok (.ior, 1) := by decide +kernel
theorem dX0_countRest_121 : decode cX0_countRest 121 = .ok (.istore 12, 2) := by decide +kernel
theorem dX0_countRest_123 : decode cX0_countRest 123 = .ok (.iload_n 1, 1) := by decide +kernel
theorem dX0_countRest_124 : decode cX0_countRest 124 = .ok (.iload 9, 2) := by decide +kernel
theorem dX0_countRest_126 : decode cX0_countRest 126 = .ok (.invokestatic 43, 3) := by decide +kernel
theorem dX0_countRest_129 : decode cX0_countRest 129 = .ok (.iconst (-1), 1) := by decide +kernel
theorem dX0_countRest_130 : decode cX0_countRest 130 = .ok (.ixor, 1) := by decide +kernel
theorem dX0_countRest_131 : decode cX0_countRest 131 = .ok (.iand, 1) := by decide +kernel
theorem dX0_countRest_132 : decode cX0_countRest 132 = .ok (.istore 13, 2) := by decide +kernel
theorem dX0_countRest_134 : decode cX0_countRest 134 = .ok (.iload 10, 2) := by decide +kernel
theorem dX0_countRest_136 : decode cX0_countRest 136 = .ok (.ifCond .eq 28, 3) := by decide +kernel
theorem dX0_countRest_139 : decode cX0_countRest 139 = .ok (.iload 11, 2) := by decide +kernel
theorem dX0_countRest_141 : decode cX0_countRest 141 = .ok (.iload_n 2, 1) := by decide +kernel
theorem dX0_countRest_142 : decode cX0_countRest 142 = .ok (.iconst (-1), 1) := by decide +kernel
theorem dX0_countRest_143 : decode cX0_countRest 143 = .ok (.ixor, 1) := by decide +kernel
theorem dX0_countRest_144 : decode cX0_countRest 144 = .ok (.iand, 1) := by decide +kernel
theorem dX0_countRest_145 : decode cX0_countRest 145 = .ok (.ifCond .ne 19, 3) := by decide +kernel
theorem dX0_countRest_148 : decode cX0_countRest 148 = .ok (.aload_n 0, 1) := by decide +kernel
theorem dX0_countRest_149 : decode cX0_countRest 149 = .ok (.iload 13, 2) := by decide +kernel
theorem dX0_countRest_151 : decode cX0_countRest 151 = .ok (.iload_n 2, 1) := by decide +kernel
theorem dX0_countRest_152 : decode cX0_countRest 152 = .ok (.iload 11, 2) := by decide +kernel
theorem dX0_countRest_154 : decode cX0_countRest 154 = .ok (.iconst (-1), 1) := by decide +kernel
theorem dX0_countRest_155 : decode cX0_countRest 155 = .ok (.ixor, 1) := by decide +kernel
theorem dX0_countRest_156 : decode cX0_countRest 156 = .ok (.iand, 1) := by decide +kernel
theorem dX0_countRest_157 : decode cX0_countRest 157 = .ok (.iload_n 3, 1) := by decide +kernel
theorem dX0_countRest_158 : decode cX0_countRest 158 = .ok (.invokevirtual 105, 3) := by decide +kernel
theorem dX0_countRest_161 : decode cX0_countRest 161 = .ok (.goto 4, 3) := by decide +kernel
theorem dX0_countRest_164 : decode cX0_countRest 164 = .ok (.iconst 0, 1) := by decide +kernel
theorem dX0_countRest_165 : decode cX0_countRest 165 = .ok (.istore 14, 2) := by decide +kernel
theorem dX0_countRest_167 : decode cX0_countRest 167 = .ok (.iload 12, 2) := by decide +kernel
theorem dX0_countRest_169 : decode cX0_countRest 169 = .ok (.iload 11, 2) := by decide +kernel
theorem dX0_countRest_171 : decode cX0_countRest 171 = .ok (.if_icmp .eq 30, 3) := by decide +kernel
theorem dX0_countRest_174 : decode cX0_countRest 174 = .ok (.iload 12, 2) := by decide +kernel
theorem dX0_countRest_176 : decode cX0_countRest 176 = .ok (.iload_n 2, 1) := by decide +kernel
theorem dX0_countRest_177 : decode cX0_countRest 177 = .ok (.iconst (-1), 1) := by decide +kernel
theorem dX0_countRest_178 : decode cX0_countRest 178 = .ok (.ixor, 1) := by decide +kernel
theorem dX0_countRest_179 : decode cX0_countRest 179 = .ok (.iand, 1) := by decide +kernel
theorem dX0_countRest_180 : decode cX0_countRest 180 = .ok (.ifCond .ne 21, 3) := by decide +kernel
theorem dX0_countRest_183 : decode cX0_countRest 183 = .ok (.iload 14, 2) := by decide +kernel
theorem dX0_countRest_185 : decode cX0_countRest 185 = .ok (.aload_n 0, 1) := by decide +kernel
theorem dX0_countRest_186 : decode cX0_countRest 186 = .ok (.iload 13, 2) := by decide +kernel
theorem dX0_countRest_188 : decode cX0_countRest 188 = .ok (.iload_n 2, 1) := by decide +kernel
theorem dX0_countRest_189 : decode cX0_countRest 189 = .ok (.iload 12, 2) := by decide +kernel
theorem dX0_countRest_191 : decode cX0_countRest 191 = .ok (.iconst (-1), 1) := by decide +kernel
theorem dX0_countRest_192 : decode cX0_countRest 192 = .ok (.ixor, 1) := by decide +kernel
theorem dX0_countRest_193 : decode cX0_countRest 193 = .ok (.iand, 1) := by decide +kernel
theorem dX0_countRest_194 : decode cX0_countRest 194 = .ok (.iload_n 3, 1) := by decide +kernel
theorem dX0_countRest_195 : decode cX0_countRest 195 = .ok (.invokevirtual 105, 3) := by decide +kernel
theorem dX0_countRest_198 : decode cX0_countRest 198 = .ok (.iadd, 1) := by decide +kernel
theorem dX0_countRest_199 : decode cX0_countRest 199 = .ok (.istore 14, 2) := by decide +kernel
theorem dX0_countRest_201 : decode cX0_countRest 201 = .ok (.iload 8, 2) := by decide +kernel
theorem dX0_countRest_203 : decode cX0_countRest 203 = .ok (.aload_n 0, 1) := by decide +kernel
theorem dX0_countRest_204 : decode cX0_countRest 204 = .ok (.getfield 15, 3) := by decide +kernel
theorem dX0_countRest_207 : decode cX0_countRest 207 = .ok (.iload 9, 2) := by decide +kernel
theorem dX0_countRest_209 : decode cX0_countRest 209 = .ok (.iaload, 1) := by decide +kernel
theorem dX0_countRest_210 : decode cX0_countRest 210 = .ok (.iload_n 1, 1) := by decide +kernel
theorem dX0_countRest_211 : decode cX0_countRest 211 = .ok (.iand, 1) := by decide +kernel
theorem dX0_countRest_212 : decode cX0_countRest 212 = .ok (.invokestatic 60, 3) := by decide +kernel
theorem dX0_countRest_215 : decode cX0_countRest 215 = .ok (.iload 14, 2) := by decide +kernel
theorem dX0_countRest_217 : decode cX0_countRest 217 = .ok (.imul, 1) := by decide +kernel
theorem dX0_countRest_218 : decode cX0_countRest 218 = .ok (.iadd, 1) := by decide +kernel
theorem dX0_countRest_219 : decode cX0_countRest 219 = .ok (.istore 8, 2) := by decide +kernel
theorem dX0_countRest_221 : decode cX0_countRest 221 = .ok (.iinc 9 1, 3) := by decide +kernel
theorem dX0_countRest_224 : decode cX0_countRest 224 = .ok (.goto (-163), 3) := by decide +kernel
theorem dX0_countRest_227 : decode cX0_countRest 227 = .ok (.aload_n 0, 1) := by decide +kernel
theorem dX0_countRest_228 : decode cX0_countRest 228 = .ok (.iload 6, 2) := by decide +kernel
theorem dX0_countRest_230 : decode cX0_countRest 230 = .ok (.lload 4, 2) := by decide +kernel
theorem dX0_countRest_232 : decode cX0_countRest 232 = .ok (.iload 8, 2) := by decide +kernel
theorem dX0_countRest_234 : decode cX0_countRest 234 = .ok (.invokevirtual 78, 3) := by decide +kernel
theorem dX0_countRest_237 : decode cX0_countRest 237 = .ok (.iload 8, 2) := by decide +kernel
theorem dX0_countRest_239 : decode cX0_countRest 239 = .ok (.ireturn, 1) := by decide +kernel
theorem dX0_countThrees_0 : decode cX0_countThrees 0 = .ok (.iload_n 1, 1) := by decide +kernel
theorem dX0_countThrees_1 : decode cX0_countThrees 1 = .ok (.ifCond .ne 5, 3) := by decide +kernel
theorem dX0_countThrees_4 : decode cX0_countThrees 4 = .ok (.iconst 1, 1) := by decide +kernel
theorem dX0_countThrees_5 : decode cX0_countThrees 5 = .ok (.ireturn, 1) := by decide +kernel
theorem dX0_countThrees_6 : decode cX0_countThrees 6 = .ok (.iload_n 2, 1) := by decide +kernel
theorem dX0_countThrees_7 : decode cX0_countThrees 7 = .ok (.invokestatic 51, 3) := by decide +kernel
theorem dX0_countThrees_10 : decode cX0_countThrees 10 = .ok (.istore_n 3, 1) := by decide +kernel
theorem dX0_countThrees_11 : decode cX0_countThrees 11 = .ok (.iconst 0, 1) := by decide +kernel
theorem dX0_countThrees_12 : decode cX0_countThrees 12 = .ok (.istore 4, 2) := by decide +kernel
theorem dX0_countThrees_14 : decode cX0_countThrees 14 = .ok (.iconst 1, 1) := by decide +kernel
theorem dX0_countThrees_15 : decode cX0_countThrees 15 = .ok (.istore 5, 2) := by decide +kernel
theorem dX0_countThrees_17 : decode cX0_countThrees 17 = .ok (.iload 5, 2) := by decide +kernel
theorem dX0_countThrees_19 : decode cX0_countThrees 19 = .ok (.bipush 8, 2) := by decide +kernel
theorem dX0_countThrees_21 : decode cX0_countThrees 21 = .ok (.if_icmp .gt 99, 3) := by decide +kernel
theorem dX0_countThrees_24 : decode cX0_countThrees 24 = .ok (.iload_n 3, 1) := by decide +kernel
theorem dX0_countThrees_25 : decode cX0_countThrees 25 = .ok (.iconst 2, 1) := by decide +kernel
theorem dX0_countThrees_26 : decode cX0_countThrees 26 = .ok (.aload_n 0, 1) := by decide +kernel
theorem dX0_countThrees_27 : decode cX0_countThrees 27 = .ok (.getfield 11, 3) := by decide +kernel
theorem dX0_countThrees_30 : decode cX0_countThrees 30 = .ok (.iload 5, 2) := by decide +kernel
theorem dX0_countThrees_32 : decode cX0_countThrees 32 = .ok (.iaload, 1) := by decide +kernel
theorem dX0_countThrees_33 : decode cX0_countThrees 33 = .ok (.imul, 1) := by decide +kernel
theorem dX0_countThrees_34 : decode cX0_countThrees 34 = .ok (.iadd, 1) := by decide +kernel
theorem dX0_countThrees_35 : decode cX0_countThrees 35 = .ok (.istore 6, 2) := by decide +kernel
theorem dX0_countThrees_37 : decode cX0_countThrees 37 = .ok (.aload_n 0, 1) := by decide +kernel
theorem dX0_countThrees_38 : decode cX0_countThrees 38 = .ok (.iload_n 1, 1) := by decide +kernel
theorem dX0_countThrees_39 : decode cX0_countThrees 39 = .ok (.iload 5, 2) := by decide +kernel
theorem dX0_countThrees_41 : decode cX0_countThrees 41 = .ok (.invokevirtual 56, 3) := by decide +kernel
theorem dX0_countThrees_44 : decode cX0_countThrees 44 = .ok (.ifCond .eq 70, 3) := by decide +kernel
theorem dX0_countThrees_47 : decode cX0_countThrees 47 = .ok (.iload 6, 2) := by decide +kernel
theorem dX0_countThrees_49 : decode cX0_countThrees 49 = .ok (.bipush 16, 2) := by decide +kernel
theorem dX0_countThrees_51 : decode cX0_countThrees 51 = .ok (.if_icmp .ge 63, 3) := by decide +kernel
theorem dX0_countThrees_54 : decode cX0_countThrees 54 = .ok (.aload_n 0, 1) := by decide +kernel
theorem dX0_countThrees_55 : decode cX0_countThrees 55 = .ok (.iload 5, 2) := by decide +kernel
theorem dX0_countThrees_57 : decode cX0_countThrees 57 = .ok (.iload_n 3, 1) := by decide +kernel
theorem dX0_countThrees_58 : decode cX0_countThrees 58 = .ok (.invokevirtual 92, 3) := by decide +kernel
theorem dX0_countThrees_61 : decode cX0_countThrees 61 = .ok (.iconst 1, 1) := by decide +kernel
theorem dX0_countThrees_62 : decode cX0_countThrees 62 = .ok (.iload 6, 2) := by decide +kernel
theorem dX0_countThrees_64 : decode cX0_countThrees 64 = .ok (.ishl, 1) := by decide +kernel
theorem dX0_countThrees_65 : decode cX0_countThrees 65 = .ok (.ior, 1) := by decide +kernel
theorem dX0_countThrees_66 : decode cX0_countThrees 66 = .ok (.istore 7, 2) := by decide +kernel
theorem dX0_countThrees_68 : decode cX0_countThrees 68 = .ok (.iload 7, 2) := by decide +kernel
theorem dX0_countThrees_70 : decode cX0_countThrees 70 = .ok (.iload_n 2, 1) := by decide +kernel
theorem dX0_countThrees_71 : decode cX0_countThrees 71 = .ok (.iconst (-1), 1) := by decide +kernel
theorem dX0_countThrees_72 : decode cX0_countThrees 72 = .ok (.ixor, 1) := by decide +kernel
theorem dX0_countThrees_73 : decode cX0_countThrees 73 = .ok (.iand, 1) := by decide +kernel
theorem dX0_countThrees_74 : decode cX0_countThrees 74 = .ok (.ifCond .ne 40, 3) := by decide +kernel
theorem dX0_countThrees_77 : decode cX0_countThrees 77 = .ok (.iload 4, 2) := by decide +kernel
theorem dX0_countThrees_79 : decode cX0_countThrees 79 = .ok (.aload_n 0, 1) := by decide +kernel
theorem dX0_countThrees_80 : decode cX0_countThrees 80 = .ok (.getfield 15, 3) := by decide +kernel
theorem dX0_countThrees_83 : decode cX0_countThrees 83 = .ok (.iload 5, 2) := by decide +kernel
theorem dX0_countThrees_85 : decode cX0_countThrees 85 = .ok (.iaload, 1) := by decide +kernel
theorem dX0_countThrees_86 : decode cX0_countThrees 86 = .ok (.iload_n 1, 1) := by decide +kernel
theorem dX0_countThrees_87 : decode cX0_countThrees 87 = .ok (.iand, 1) := by decide +kernel
theorem dX0_countThrees_88 : decode cX0_countThrees 88 = .ok (.invokestatic 60, 3) := by decide +kernel
theorem dX0_countThrees_91 : decode cX0_countThrees 91 = .ok (.aload_n 0, 1) := by decide +kernel
theorem dX0_countThrees_92 : decode cX0_countThrees 92 = .ok (.iload_n 1, 1) := by decide +kernel
theorem dX0_countThrees_93 : decode cX0_countThrees 93 = .ok (.iload 5, 2) := by decide +kernel
theorem dX0_countThrees_95 : decode cX0_countThrees 95 = .ok (.invokestatic 43, 3) := by decide +kernel
theorem dX0_countThrees_98 : decode cX0_countThrees 98 = .ok (.iconst (-1), 1) := by decide +kernel
theorem dX0_countThrees_99 : decode cX0_countThrees 99 = .ok (.ixor, 1) := by decide +kernel
theorem dX0_countThrees_100 : decode cX0_countThrees 100 = .ok (.iand, 1) := by decide +kernel
theorem dX0_countThrees_101 : decode cX0_countThrees 101 = .ok (.iload_n 2, 1) := by decide +kernel
theorem dX0_countThrees_102 : decode cX0_countThrees 102 = .ok (.iload 7, 2) := by decide +kernel
theorem dX0_countThrees_104 : decode cX0_countThrees 104 = .ok (.iconst (-1), 1) := by decide +kernel
theorem dX0_countThrees_105 : decode cX0_countThrees 105 = .ok (.ixor, 1) := by decide +kernel
theorem dX0_countThrees_106 : decode cX0_countThrees 106 = .ok (.iand, 1) := by decide +kernel
theorem dX0_countThrees_107 : decode cX0_countThrees 107 = .ok (.invokevirtual 109, 3) := by decide +kernel
theorem dX0_countThrees_110 : decode cX0_countThrees 110 = .ok (.imul, 1) := by decide +kernel
theorem dX0_countThrees_111 : decode cX0_countThrees 111 = .ok (.iadd, 1) := by decide +kernel
theorem dX0_countThrees_112 : decode cX0_countThrees 112 = .ok (.istore 4, 2) := by decide +kernel
theorem dX0_countThrees_114 : decode cX0_countThrees 114 = .ok (.iinc 5 1, 3) := by decide +kernel
theorem dX0_countThrees_117 : decode cX0_countThrees 117 = .ok (.goto (-100), 3) := by decide +kernel
theorem dX0_countThrees_120 : decode cX0_countThrees 120 = .ok (.iload 4, 2) := by decide +kernel
theorem dX0_countThrees_122 : decode cX0_countThrees 122 = .ok (.ireturn, 1) := by decide +kernel
theorem dX0_fits_0 : decode cX0_fits 0 = .ok (.iload_n 1, 1) := by decide +kernel
theorem dX0_fits_1 : decode cX0_fits 1 = .ok (.ifCond .ne 5, 3) := by decide +kernel
theorem dX0_fits_4 : decode cX0_fits 4 = .ok (.iconst 1, 1) := by decide +kernel
theorem dX0_fits_5 : decode cX0_fits 5 = .ok (.ireturn, 1) := by decide +kernel
theorem dX0_fits_6 : decode cX0_fits 6 = .ok (.iload_n 1, 1) := by decide +kernel
theorem dX0_fits_7 : decode cX0_fits 7 = .ok (.invokestatic 60, 3) := by decide +kernel
theorem dX0_fits_10 : decode cX0_fits 10 = .ok (.istore_n 3, 1) := by decide +kernel
theorem dX0_fits_11 : decode cX0_fits 11 = .ok (.iload_n 3, 1) := by decide +kernel
theorem dX0_fits_12 : decode cX0_fits 12 = .ok (.iconst 1, 1) := by decide +kernel
theorem dX0_fits_13 : decode cX0_fits 13 = .ok (.if_icmp .ne 25, 3) := by decide +kernel
theorem dX0_fits_16 : decode cX0_fits 16 = .ok (.iload_n 2, 1) := by decide +kernel
theorem dX0_fits_17 : decode cX0_fits 17 = .ok (.iload_n 2, 1) := by decide +kernel
theorem dX0_fits_18 : decode cX0_fits 18 = .ok (.aload_n 0, 1) := by decide +kernel
theorem dX0_fits_19 : decode cX0_fits 19 = .ok (.getfield 11, 3) := by decide +kernel
theorem dX0_fits_22 : decode cX0_fits 22 = .ok (.iload_n 1, 1) := by decide +kernel
theorem dX0_fits_23 : decode cX0_fits 23 = .ok (.invokestatic 64, 3) := by decide +kernel
theorem dX0_fits_26 : decode cX0_fits 26 = .ok (.iaload, 1) := by decide +kernel
theorem dX0_fits_27 : decode cX0_fits 27 = .ok (.iushr, 1) := by decide +kernel
theorem dX0_fits_28 : decode cX0_fits 28 = .ok (.iand, 1) := by decide +kernel
theorem dX0_fits_29 : decode cX0_fits 29 = .ok (.ifCond .eq 7, 3) := by decide +kernel
theorem dX0_fits_32 : decode cX0_fits 32 = .ok (.iconst 1, 1) := by decide +kernel
theorem dX0_fits_33 : decode cX0_fits 33 = .ok (.goto 4, 3) := by decide +kernel
theorem dX0_fits_36 : decode cX0_fits 36 = .ok (.iconst 0, 1) := by decide +kernel
theorem dX0_fits_37 : decode cX0_fits 37 = .ok (.ireturn, 1) := by decide +kernel
theorem dX0_fits_38 : decode cX0_fits 38 = .ok (.iload_n 2, 1) := by decide +kernel
theorem dX0_fits_39 : decode cX0_fits 39 = .ok (.invokestatic 60, 3) := by decide +kernel
theorem dX0_fits_42 : decode cX0_fits 42 = .ok (.iconst 2, 1) := by decide +kernel
theorem dX0_fits_43 : decode cX0_fits 43 = .ok (.iload_n 3, 1) := by decide +kernel
theorem dX0_fits_44 : decode cX0_fits 44 = .ok (.imul, 1) := by decide +kernel
theorem dX0_fits_45 : decode cX0_fits 45 = .ok (.if_icmp .ge 5, 3) := by decide +kernel
theorem dX0_fits_48 : decode cX0_fits 48 = .ok (.iconst 0, 1) := by decide +kernel
theorem dX0_fits_49 : decode cX0_fits 49 = .ok (.ireturn, 1) := by decide +kernel
theorem dX0_fits_50 : decode cX0_fits 50 = .ok (.aload_n 0, 1) := by decide +kernel
theorem dX0_fits_51 : decode cX0_fits 51 = .ok (.iconst 1, 1) := by decide +kernel
theorem dX0_fits_52 : decode cX0_fits 52 = .ok (.iload_n 1, 1) := by decide +kernel
theorem dX0_fits_53 : decode cX0_fits 53 = .ok (.iload_n 2, 1) := by decide +kernel
theorem dX0_fits_54 : decode cX0_fits 54 = .ok (.invokevirtual 67, 3) := by decide +kernel
theorem dX0_fits_57 : decode cX0_fits 57 = .ok (.lstore 4, 2) := by decide +kernel
theorem dX0_fits_59 : decode cX0_fits 59 = .ok (.lload 4, 2) := by decide +kernel
theorem dX0_fits_61 : decode cX0_fits 61 = .ok (.invokestatic 71, 3) := by decide +kernel
theorem dX0_fits_64 : decode cX0_fits 64 = .ok (.istore 6, 2) := by decide +kernel
theorem dX0_fits_66 : decode cX0_fits 66 = .ok (.aload_n 0, 1) := by decide +kernel
theorem dX0_fits_67 : decode cX0_fits 67 = .ok (.getfield 21, 3) := by decide +kernel
theorem dX0_fits_70 : decode cX0_fits 70 = .ok (.iload 6, 2) := by decide +kernel
theorem dX0_fits_72 : decode cX0_fits 72 = .ok (.laload, 1) := by decide +kernel
theorem dX0_fits_73 : decode cX0_fits 73 = .ok (.lload 4, 2) := by decide +kernel
theorem dX0_fits_75 : decode cX0_fits 75 = .ok (.lcmp, 1) := by decide +kernel
theorem dX0_fits_76 : decode cX0_fits 76 = .ok (.ifCond .ne 19, 3) := by decide +kernel
theorem dX0_fits_79 : decode cX0_fits 79 = .ok (.aload_n 0, 1) := by decide +kernel
theorem dX0_fits_80 : decode cX0_fits 80 = .ok (.getfield 25, 3) := by decide +kernel
theorem dX0_fits_83 : decode cX0_fits 83 = .ok (.iload 6, 2) := by decide +kernel
theorem dX0_fits_85 : decode cX0_fits 85 = .ok (.iaload, 1) := by decide +kernel
theorem dX0_fits_86 : decode cX0_fits 86 = .ok (.ifCond .eq 7, 3) := by decide +kernel
theorem dX0_fits_89 : decode cX0_fits 89 = .ok (.iconst 1, 1) := by decide +kernel
theorem dX0_fits_90 : decode cX0_fits 90 = .ok (.goto 4, 3) := by decide +kernel
theorem dX0_fits_93 : decode cX0_fits 93 = .ok (.iconst 0, 1) := by decide +kernel
theorem dX0_fits_94 : decode cX0_fits 94 = .ok (.ireturn, 1) := by decide +kernel
theorem dX0_fits_95 : decode cX0_fits 95 = .ok (.aload_n 0, 1) := by decide +kernel
theorem dX0_fits_96 : decode cX0_fits 96 = .ok (.iload_n 1, 1) := by decide +kernel
theorem dX0_fits_97 : decode cX0_fits 97 = .ok (.iload_n 2, 1) := by decide +kernel
theorem dX0_fits_98 : decode cX0_fits 98 = .ok (.invokevirtual 112, 3) := by decide +kernel
theorem dX0_fits_101 : decode cX0_fits 101 = .ok (.istore 7, 2) := by decide +kernel
theorem dX0_fits_103 : decode cX0_fits 103 = .ok (.aload_n 0, 1) := by decide +kernel
theorem dX0_fits_104 : decode cX0_fits 104 = .ok (.iload 6, 2) := by decide +kernel
theorem dX0_fits_106 : decode cX0_fits 106 = .ok (.lload 4, 2) := by decide +kernel
theorem dX0_fits_108 : decode cX0_fits 108 = .ok (.iload 7, 2) := by decide +kernel
theorem dX0_fits_110 : decode cX0_fits 110 = .ok (.ifCond .eq 7, 3) := by decide +kernel
theorem dX0_fits_113 : decode cX0_fits 113 = .ok (.iconst 1, 1) := by decide +kernel
theorem dX0_fits_114 : decode cX0_fits 114 = .ok (.goto 4, 3) := by decide +kernel
theorem dX0_fits_117 : decode cX0_fits 117 = .ok (.iconst 0, 1) := by decide +kernel
theorem dX0_fits_118 : decode cX0_fits 118 = .ok (.invokevirtual 78, 3) := by decide +kernel
theorem dX0_fits_121 : decode cX0_fits 121 = .ok (.iload 7, 2) := by decide +kernel
theorem dX0_fits_123 : decode cX0_fits 123 = .ok (.ireturn, 1) := by decide +kernel
theorem dX0_fitsAnew_0 : decode cX0_fitsAnew 0 = .ok (.aload_n 0, 1) := by decide +kernel
theorem dX0_fitsAnew_1 : decode cX0_fitsAnew 1 = .ok (.iload_n 1, 1) := by decide +kernel
theorem dX0_fitsAnew_2 : decode cX0_fitsAnew 2 = .ok (.iload_n 2, 1) := by decide +kernel
theorem dX0_fitsAnew_3 : decode cX0_fitsAnew 3 = .ok (.invokevirtual 82, 3) := by decide +kernel
theorem dX0_fitsAnew_6 : decode cX0_fitsAnew 6 = .ok (.istore_n 3, 1) := by decide +kernel
theorem dX0_fitsAnew_7 : decode cX0_fitsAnew 7 = .ok (.iload_n 3, 1) := by decide +kernel
theorem dX0_fitsAnew_8 : decode cX0_fitsAnew 8 = .ok (.invokestatic 39, 3) := by decide +kernel
theorem dX0_fitsAnew_11 : decode cX0_fitsAnew 11 = .ok (.ifCond .ne 5, 3) := by decide +kernel
theorem dX0_fitsAnew_14 : decode cX0_fitsAnew 14 = .ok (.iconst 0, 1) := by decide +kernel
theorem dX0_fitsAnew_15 : decode cX0_fitsAnew 15 = .ok (.ireturn, 1) := by decide +kernel
theorem dX0_fitsAnew_16 : decode cX0_fitsAnew 16 = .ok (.aload_n 0, 1) := by decide +kernel
theorem dX0_fitsAnew_17 : decode cX0_fitsAnew 17 = .ok (.iload_n 3, 1) := by decide +kernel
theorem dX0_fitsAnew_18 : decode cX0_fitsAnew 18 = .ok (.iload_n 2, 1) := by decide +kernel
theorem dX0_fitsAnew_19 : decode cX0_fitsAnew 19 = .ok (.invokevirtual 47, 3) := by decide +kernel
theorem dX0_fitsAnew_22 : decode cX0_fitsAnew 22 = .ok (.invokestatic 60, 3) := by decide +kernel
theorem dX0_fitsAnew_25 : decode cX0_fitsAnew 25 = .ok (.iconst 2, 1) := by decide +kernel
theorem dX0_fitsAnew_26 : decode cX0_fitsAnew 26 = .ok (.if_icmp .gt 22, 3) := by decide +kernel
theorem dX0_fitsAnew_29 : decode cX0_fitsAnew 29 = .ok (.aload_n 0, 1) := by decide +kernel
theorem dX0_fitsAnew_30 : decode cX0_fitsAnew 30 = .ok (.iload_n 1, 1) := by decide +kernel
theorem dX0_fitsAnew_31 : decode cX0_fitsAnew 31 = .ok (.iload_n 2, 1) := by decide +kernel
theorem dX0_fitsAnew_32 : decode cX0_fitsAnew 32 = .ok (.iload_n 3, 1) := by decide +kernel
theorem dX0_fitsAnew_33 : decode cX0_fitsAnew 33 = .ok (.invokevirtual 115, 3) := by decide +kernel
theorem dX0_fitsAnew_36 : decode cX0_fitsAnew 36 = .ok (.iconst (-1), 1) := by decide +kernel
theorem dX0_fitsAnew_37 : decode cX0_fitsAnew 37 = .ok (.if_icmp .eq 7, 3) := by decide +kernel
theorem dX0_fitsAnew_40 : decode cX0_fitsAnew 40 = .ok (.iconst 1, 1) := by decide +kernel
theorem dX0_fitsAnew_41 : decode cX0_fitsAnew 41 = .ok (.goto 13, 3) := by decide +kernel
theorem dX0_fitsAnew_44 : decode cX0_fitsAnew 44 = .ok (.iconst 0, 1) := by decide +kernel
theorem dX0_fitsAnew_45 : decode cX0_fitsAnew 45 = .ok (.goto 9, 3) := by decide +kernel
theorem dX0_fitsAnew_48 : decode cX0_fitsAnew 48 = .ok (.aload_n 0, 1) := by decide +kernel
theorem dX0_fitsAnew_49 : decode cX0_fitsAnew 49 = .ok (.iload_n 1, 1) := by decide +kernel
theorem dX0_fitsAnew_50 : decode cX0_fitsAnew 50 = .ok (.iload_n 2, 1) := by decide +kernel
theorem dX0_fitsAnew_51 : decode cX0_fitsAnew 51 = .ok (.invokevirtual 118, 3) := by decide +kernel
theorem dX0_fitsAnew_54 : decode cX0_fitsAnew 54 = .ok (.ireturn, 1) := by decide +kernel
theorem dX0_fitsByPlace_0 : decode cX0_fitsByPlace 0 = .ok (.iload_n 2, 1) := by decide +kernel
theorem dX0_fitsByPlace_1 : decode cX0_fitsByPlace 1 = .ok (.invokestatic 51, 3) := by decide +kernel
theorem dX0_fitsByPlace_4 : decode cX0_fitsByPlace 4 = .ok (.istore_n 3, 1) := by decide +kernel
theorem dX0_fitsByPlace_5 : decode cX0_fitsByPlace 5 = .ok (.iconst 1, 1) := by decide +kernel
theorem dX0_fitsByPlace_6 : decode cX0_fitsByPlace 6 = .ok (.istore 4, 2) := by decide +kernel
theorem dX0_fitsByPlace_8 : decode cX0_fitsByPlace 8 = .ok (.iload 4, 2) := by decide +kernel
theorem dX0_fitsByPlace_10 : decode cX0_fitsByPlace 10 = .ok (.bipush 8, 2) := by decide +kernel
theorem dX0_fitsByPlace_12 : decode cX0_fitsByPlace 12 = .ok (.if_icmp .gt 33, 3) := by decide +kernel
theorem dX0_fitsByPlace_15 : decode cX0_fitsByPlace 15 = .ok (.aload_n 0, 1) := by decide +kernel
theorem dX0_fitsByPlace_16 : decode cX0_fitsByPlace 16 = .ok (.iload_n 1, 1) := by decide +kernel
theorem dX0_fitsByPlace_17 : decode cX0_fitsByPlace 17 = .ok (.iload 4, 2) := by decide +kernel
theorem dX0_fitsByPlace_19 : decode cX0_fitsByPlace 19 = .ok (.invokevirtual 56, 3) := by decide +kernel
theorem dX0_fitsByPlace_22 : decode cX0_fitsByPlace 22 = .ok (.ifCond .eq 17, 3) := by decide +kernel
theorem dX0_fitsByPlace_25 : decode cX0_fitsByPlace 25 = .ok (.aload_n 0, 1) := by decide +kernel
theorem dX0_fitsByPlace_26 : decode cX0_fitsByPlace 26 = .ok (.iload_n 1, 1) := by decide +kernel
theorem dX0_fitsByPlace_27 : decode cX0_fitsByPlace 27 = .ok (.iload_n 2, 1) := by decide +kernel
theorem dX0_fitsByPlace_28 : decode cX0_fitsByPlace 28 = .ok (.iload 4, 2) := by decide +kernel
theorem dX0_fitsByPlace_30 : decode cX0_fitsByPlace 30 = .ok (.iload_n 3, 1) := by decide +kernel
theorem dX0_fitsByPlace_31 : decode cX0_fitsByPlace 31 = .ok (.invokevirtual 121, 3) := by decide +kernel
theorem dX0_fitsByPlace_34 : decode cX0_fitsByPlace 34 = .ok (.ifCond .eq 5, 3) := by decide +kernel
theorem dX0_fitsByPlace_37 : decode cX0_fitsByPlace 37 = .ok (.iconst 1, 1) := by decide +kernel
theorem dX0_fitsByPlace_38 : decode cX0_fitsByPlace 38 = .ok (.ireturn, 1) := by decide +kernel
theorem dX0_fitsByPlace_39 : decode cX0_fitsByPlace 39 = .ok (.iinc 4 1, 3) := by decide +kernel
theorem dX0_fitsByPlace_42 : decode cX0_fitsByPlace 42 = .ok (.goto (-34), 3) := by decide +kernel
theorem dX0_fitsByPlace_45 : decode cX0_fitsByPlace 45 = .ok (.aload_n 0, 1) := by decide +kernel
theorem dX0_fitsByPlace_46 : decode cX0_fitsByPlace 46 = .ok (.iload_n 1, 1) := by decide +kernel
theorem dX0_fitsByPlace_47 : decode cX0_fitsByPlace 47 = .ok (.iload_n 2, 1) := by decide +kernel
theorem dX0_fitsByPlace_48 : decode cX0_fitsByPlace 48 = .ok (.iconst 1, 1) := by decide +kernel
theorem dX0_fitsByPlace_49 : decode cX0_fitsByPlace 49 = .ok (.iload_n 3, 1) := by decide +kernel
theorem dX0_fitsByPlace_50 : decode cX0_fitsByPlace 50 = .ok (.ishl, 1) := by decide +kernel
theorem dX0_fitsByPlace_51 : decode cX0_fitsByPlace 51 = .ok (.iconst (-1), 1) := by decide +kernel
theorem dX0_fitsByPlace_52 : decode cX0_fitsByPlace 52 = .ok (.ixor, 1) := by decide +kernel
theorem dX0_fitsByPlace_53 : decode cX0_fitsByPlace 53 = .ok (.iand, 1) := by decide +kernel
theorem dX0_fitsByPlace_54 : decode cX0_fitsByPlace 54 = .ok (.invokevirtual 125, 3) := by decide +kernel
theorem dX0_fitsByPlace_57 : decode cX0_fitsByPlace 57 = .ok (.ireturn, 1) := by decide +kernel
theorem dX0_fitsWith_0 : decode cX0_fitsWith 0 = .ok (.aload_n 0, 1) := by decide +kernel
theorem dX0_fitsWith_1 : decode cX0_fitsWith 1 = .ok (.iload_n 3, 1) := by decide +kernel
theorem dX0_fitsWith_2 : decode cX0_fitsWith 2 = .ok (.iload_n 2, 1) := by decide +kernel
theorem dX0_fitsWith_3 : decode cX0_fitsWith 3 = .ok (.iload 4, 2) := by decide +kernel
theorem dX0_fitsWith_5 : decode cX0_fitsWith 5 = .ok (.invokevirtual 98, 3) := by decide +kernel
theorem dX0_fitsWith_8 : decode cX0_fitsWith 8 = .ok (.ifCond .eq 33, 3) := by decide +kernel
theorem dX0_fitsWith_11 : decode cX0_fitsWith 11 = .ok (.aload_n 0, 1) := by decide +kernel
theorem dX0_fitsWith_12 : decode cX0_fitsWith 12 = .ok (.iload_n 1, 1) := by decide +kernel
theorem dX0_fitsWith_13 : decode cX0_fitsWith 13 = .ok (.iload_n 3, 1) := by decide +kernel
theorem dX0_fitsWith_14 : decode cX0_fitsWith 14 = .ok (.invokestatic 43, 3) := by decide +kernel
theorem dX0_fitsWith_17 : decode cX0_fitsWith 17 = .ok (.iconst (-1), 1) := by decide +kernel
theorem dX0_fitsWith_18 : decode cX0_fitsWith 18 = .ok (.ixor, 1) := by decide +kernel
theorem dX0_fitsWith_19 : decode cX0_fitsWith 19 = .ok (.iand, 1) := by decide +kernel
theorem dX0_fitsWith_20 : decode cX0_fitsWith 20 = .ok (.iload_n 2, 1) := by decide +kernel
theorem dX0_fitsWith_21 : decode cX0_fitsWith 21 = .ok (.aload_n 0, 1) := by decide +kernel
theorem dX0_fitsWith_22 : decode cX0_fitsWith 22 = .ok (.iload_n 3, 1) := by decide +kernel
theorem dX0_fitsWith_23 : decode cX0_fitsWith 23 = .ok (.iload 4, 2) := by decide +kernel
theorem dX0_fitsWith_25 : decode cX0_fitsWith 25 = .ok (.invokevirtual 92, 3) := by decide +kernel
theorem dX0_fitsWith_28 : decode cX0_fitsWith 28 = .ok (.iconst (-1), 1) := by decide +kernel
theorem dX0_fitsWith_29 : decode cX0_fitsWith 29 = .ok (.ixor, 1) := by decide +kernel
theorem dX0_fitsWith_30 : decode cX0_fitsWith 30 = .ok (.iand, 1) := by decide +kernel
theorem dX0_fitsWith_31 : decode cX0_fitsWith 31 = .ok (.invokevirtual 125, 3) := by decide +kernel
theorem dX0_fitsWith_34 : decode cX0_fitsWith 34 = .ok (.ifCond .eq 7, 3) := by decide +kernel
theorem dX0_fitsWith_37 : decode cX0_fitsWith 37 = .ok (.iconst 1, 1) := by decide +kernel
theorem dX0_fitsWith_38 : decode cX0_fitsWith 38 = .ok (.goto 4, 3) := by decide +kernel
theorem dX0_fitsWith_41 : decode cX0_fitsWith 41 = .ok (.iconst 0, 1) := by decide +kernel
theorem dX0_fitsWith_42 : decode cX0_fitsWith 42 = .ok (.ireturn, 1) := by decide +kernel
theorem dX0_lowestFirstOf_0 : decode cX0_lowestFirstOf 0 = .ok (.iconst 0, 1) := by decide +kernel
theorem dX0_lowestFirstOf_1 : decode cX0_lowestFirstOf 1 = .ok (.istore 4, 2) := by decide +kernel
theorem dX0_lowestFirstOf_3 : decode cX0_lowestFirstOf 3 = .ok (.iload 4, 2) := by decide +kernel
theorem dX0_lowestFirstOf_5 : decode cX0_lowestFirstOf 5 = .ok (.bipush 16, 2) := by decide +kernel
theorem dX0_lowestFirstOf_7 : decode cX0_lowestFirstOf 7 = .ok (.if_icmp .ge 24, 3) := by decide +kernel
theorem dX0_lowestFirstOf_10 : decode cX0_lowestFirstOf 10 = .ok (.aload_n 0, 1) := by decide +kernel
theorem dX0_lowestFirstOf_11 : decode cX0_lowestFirstOf 11 = .ok (.iload_n 1, 1) := by decide +kernel
theorem dX0_lowestFirstOf_12 : decode cX0_lowestFirstOf 12 = .ok (.iload_n 2, 1) := by decide +kernel
theorem dX0_lowestFirstOf_13 : decode cX0_lowestFirstOf 13 = .ok (.iload_n 3, 1) := by decide +kernel
theorem dX0_lowestFirstOf_14 : decode cX0_lowestFirstOf 14 = .ok (.iload 4, 2) := by decide +kernel
theorem dX0_lowestFirstOf_16 : decode cX0_lowestFirstOf 16 = .ok (.invokevirtual 121, 3) := by decide +kernel
theorem dX0_lowestFirstOf_19 : decode cX0_lowestFirstOf 19 = .ok (.ifCond .eq 6, 3) := by decide +kernel
theorem dX0_lowestFirstOf_22 : decode cX0_lowestFirstOf 22 = .ok (.iload 4, 2) := by decide +kernel
theorem dX0_lowestFirstOf_24 : decode cX0_lowestFirstOf 24 = .ok (.ireturn, 1) := by decide +kernel
theorem dX0_lowestFirstOf_25 : decode cX0_lowestFirstOf 25 = .ok (.iinc 4 1, 3) := by decide +kernel
theorem dX0_lowestFirstOf_28 : decode cX0_lowestFirstOf 28 = .ok (.goto (-25), 3) := by decide +kernel
theorem dX0_lowestFirstOf_31 : decode cX0_lowestFirstOf 31 = .ok (.iconst (-1), 1) := by decide +kernel
theorem dX0_lowestFirstOf_32 : decode cX0_lowestFirstOf 32 = .ok (.ireturn, 1) := by decide +kernel
theorem dX0_lowestFirst_0 : decode cX0_lowestFirst 0 = .ok (.iload_n 1, 1) := by decide +kernel
theorem dX0_lowestFirst_1 : decode cX0_lowestFirst 1 = .ok (.istore 4, 2) := by decide +kernel
theorem dX0_lowestFirst_3 : decode cX0_lowestFirst 3 = .ok (.iload_n 2, 1) := by decide +kernel
theorem dX0_lowestFirst_4 : decode cX0_lowestFirst 4 = .ok (.istore 5, 2) := by decide +kernel
theorem dX0_lowestFirst_6 : decode cX0_lowestFirst 6 = .ok (.iconst 1, 1) := by decide +kernel
theorem dX0_lowestFirst_7 : decode cX0_lowestFirst 7 = .ok (.istore 6, 2) := by decide +kernel
theorem dX0_lowestFirst_9 : decode cX0_lowestFirst 9 = .ok (.iload 6, 2) := by decide +kernel
theorem dX0_lowestFirst_11 : decode cX0_lowestFirst 11 = .ok (.bipush 8, 2) := by decide +kernel
theorem dX0_lowestFirst_13 : decode cX0_lowestFirst 13 = .ok (.if_icmp .gt 74, 3) := by decide +kernel
theorem dX0_lowestFirst_16 : decode cX0_lowestFirst 16 = .ok (.iload 4, 2) := by decide +kernel
theorem dX0_lowestFirst_18 : decode cX0_lowestFirst 18 = .ok (.iload 6, 2) := by decide +kernel
theorem dX0_lowestFirst_20 : decode cX0_lowestFirst 20 = .ok (.invokestatic 43, 3) := by decide +kernel
theorem dX0_lowestFirst_23 : decode cX0_lowestFirst 23 = .ok (.iand, 1) := by decide +kernel
theorem dX0_lowestFirst_24 : decode cX0_lowestFirst 24 = .ok (.ifCond .eq 57, 3) := by decide +kernel
theorem dX0_lowestFirst_27 : decode cX0_lowestFirst 27 = .ok (.aload_n 0, 1) := by decide +kernel
theorem dX0_lowestFirst_28 : decode cX0_lowestFirst 28 = .ok (.iload 4, 2) := by decide +kernel
theorem dX0_lowestFirst_30 : decode cX0_lowestFirst 30 = .ok (.iload 5, 2) := by decide +kernel
theorem dX0_lowestFirst_32 : decode cX0_lowestFirst 32 = .ok (.iload 6, 2) := by decide +kernel
theorem dX0_lowestFirst_34 : decode cX0_lowestFirst 34 = .ok (.invokevirtual 115, 3) := by decide +kernel
theorem dX0_lowestFirst_37 : decode cX0_lowestFirst 37 = .ok (.istore 7, 2) := by decide +kernel
theorem dX0_lowestFirst_39 : decode cX0_lowestFirst 39 = .ok (.iload 7, 2) := by decide +kernel
theorem dX0_lowestFirst_41 : decode cX0_lowestFirst 41 = .ok (.iconst (-1), 1) := by decide +kernel
theorem dX0_lowestFirst_42 : decode cX0_lowestFirst 42 = .ok (.if_icmp .eq 9, 3) := by decide +kernel
theorem dX0_lowestFirst_45 : decode cX0_lowestFirst 45 = .ok (.iload 6, 2) := by decide +kernel
theorem dX0_lowestFirst_47 : decode cX0_lowestFirst 47 = .ok (.iload_n 3, 1) := by decide +kernel
theorem dX0_lowestFirst_48 : decode cX0_lowestFirst 48 = .ok (.if_icmp .ne 6, 3) := by decide +kernel
theorem dX0_lowestFirst_51 : decode cX0_lowestFirst 51 = .ok (.iload 7, 2) := by decide +kernel
theorem dX0_lowestFirst_53 : decode cX0_lowestFirst 53 = .ok (.ireturn, 1) := by decide +kernel
theorem dX0_lowestFirst_54 : decode cX0_lowestFirst 54 = .ok (.iload 4, 2) := by decide +kernel
theorem dX0_lowestFirst_56 : decode cX0_lowestFirst 56 = .ok (.iload 6, 2) := by decide +kernel
theorem dX0_lowestFirst_58 : decode cX0_lowestFirst 58 = .ok (.invokestatic 43, 3) := by decide +kernel
theorem dX0_lowestFirst_61 : decode cX0_lowestFirst 61 = .ok (.iconst (-1), 1) := by decide +kernel
theorem dX0_lowestFirst_62 : decode cX0_lowestFirst 62 = .ok (.ixor, 1) := by decide +kernel
theorem dX0_lowestFirst_63 : decode cX0_lowestFirst 63 = .ok (.iand, 1) := by decide +kernel
theorem dX0_lowestFirst_64 : decode cX0_lowestFirst 64 = .ok (.istore 4, 2) := by decide +kernel
theorem dX0_lowestFirst_66 : decode cX0_lowestFirst 66 = .ok (.iload 5, 2) := by decide +kernel
theorem dX0_lowestFirst_68 : decode cX0_lowestFirst 68 = .ok (.aload_n 0, 1) := by decide +kernel
theorem dX0_lowestFirst_69 : decode cX0_lowestFirst 69 = .ok (.iload 6, 2) := by decide +kernel
theorem dX0_lowestFirst_71 : decode cX0_lowestFirst 71 = .ok (.iload 7, 2) := by decide +kernel
theorem dX0_lowestFirst_73 : decode cX0_lowestFirst 73 = .ok (.invokevirtual 92, 3) := by decide +kernel
theorem dX0_lowestFirst_76 : decode cX0_lowestFirst 76 = .ok (.iconst (-1), 1) := by decide +kernel
theorem dX0_lowestFirst_77 : decode cX0_lowestFirst 77 = .ok (.ixor, 1) := by decide +kernel
theorem dX0_lowestFirst_78 : decode cX0_lowestFirst 78 = .ok (.iand, 1) := by decide +kernel
theorem dX0_lowestFirst_79 : decode cX0_lowestFirst 79 = .ok (.istore 5, 2) := by decide +kernel
theorem dX0_lowestFirst_81 : decode cX0_lowestFirst 81 = .ok (.iinc 6 1, 3) := by decide +kernel
theorem dX0_lowestFirst_84 : decode cX0_lowestFirst 84 = .ok (.goto (-75), 3) := by decide +kernel
theorem dX0_lowestFirst_87 : decode cX0_lowestFirst 87 = .ok (.iconst (-1), 1) := by decide +kernel
theorem dX0_lowestFirst_88 : decode cX0_lowestFirst 88 = .ok (.ireturn, 1) := by decide +kernel
theorem dX0_settled_0 : decode cX0_settled 0 = .ok (.aload_n 0, 1) := by decide +kernel
theorem dX0_settled_1 : decode cX0_settled 1 = .ok (.iload_n 1, 1) := by decide +kernel
theorem dX0_settled_2 : decode cX0_settled 2 = .ok (.iload_n 2, 1) := by decide +kernel
theorem dX0_settled_3 : decode cX0_settled 3 = .ok (.invokevirtual 125, 3) := by decide +kernel
theorem dX0_settled_6 : decode cX0_settled 6 = .ok (.ifCond .ne 5, 3) := by decide +kernel
theorem dX0_settled_9 : decode cX0_settled 9 = .ok (.iconst (-1), 1) := by decide +kernel
theorem dX0_settled_10 : decode cX0_settled 10 = .ok (.ireturn, 1) := by decide +kernel
theorem dX0_settled_11 : decode cX0_settled 11 = .ok (.iconst 0, 1) := by decide +kernel
theorem dX0_settled_12 : decode cX0_settled 12 = .ok (.istore_n 3, 1) := by decide +kernel
theorem dX0_settled_13 : decode cX0_settled 13 = .ok (.iconst 1, 1) := by decide +kernel
theorem dX0_settled_14 : decode cX0_settled 14 = .ok (.istore 4, 2) := by decide +kernel
theorem dX0_settled_16 : decode cX0_settled 16 = .ok (.iload 4, 2) := by decide +kernel
theorem dX0_settled_18 : decode cX0_settled 18 = .ok (.bipush 8, 2) := by decide +kernel
theorem dX0_settled_20 : decode cX0_settled 20 = .ok (.if_icmp .gt 38, 3) := by decide +kernel
theorem dX0_settled_23 : decode cX0_settled 23 = .ok (.iload_n 1, 1) := by decide +kernel
theorem dX0_settled_24 : decode cX0_settled 24 = .ok (.iload 4, 2) := by decide +kernel
theorem dX0_settled_26 : decode cX0_settled 26 = .ok (.invokestatic 43, 3) := by decide +kernel
theorem dX0_settled_29 : decode cX0_settled 29 = .ok (.iand, 1) := by decide +kernel
theorem dX0_settled_30 : decode cX0_settled 30 = .ok (.ifCond .eq 22, 3) := by decide +kernel
theorem dX0_settled_33 : decode cX0_settled 33 = .ok (.aload_n 0, 1) := by decide +kernel
theorem dX0_settled_34 : decode cX0_settled 34 = .ok (.iload_n 1, 1) := by decide +kernel
theorem dX0_settled_35 : decode cX0_settled 35 = .ok (.iload_n 2, 1) := by decide +kernel
theorem dX0_settled_36 : decode cX0_settled 36 = .ok (.iload 4, 2) := by decide +kernel
theorem dX0_settled_38 : decode cX0_settled 38 = .ok (.invokevirtual 128, 3) := by decide +kernel
theorem dX0_settled_41 : decode cX0_settled 41 = .ok (.ifCond .eq 11, 3) := by decide +kernel
theorem dX0_settled_44 : decode cX0_settled 44 = .ok (.iload_n 3, 1) := by decide +kernel
theorem dX0_settled_45 : decode cX0_settled 45 = .ok (.iload 4, 2) := by decide +kernel
theorem dX0_settled_47 : decode cX0_settled 47 = .ok (.invokestatic 43, 3) := by decide +kernel
theorem dX0_settled_50 : decode cX0_settled 50 = .ok (.ior, 1) := by decide +kernel
theorem dX0_settled_51 : decode cX0_settled 51 = .ok (.istore_n 3, 1) := by decide +kernel
theorem dX0_settled_52 : decode cX0_settled 52 = .ok (.iinc 4 1, 3) := by decide +kernel
theorem dX0_settled_55 : decode cX0_settled 55 = .ok (.goto (-39), 3) := by decide +kernel
theorem dX0_settled_58 : decode cX0_settled 58 = .ok (.iload_n 3, 1) := by decide +kernel
theorem dX0_settled_59 : decode cX0_settled 59 = .ok (.ireturn, 1) := by decide +kernel
theorem dX0_isSettled_0 : decode cX0_isSettled 0 = .ok (.iconst 0, 1) := by decide +kernel
theorem dX0_isSettled_1 : decode cX0_isSettled 1 = .ok (.istore 4, 2) := by decide +kernel
theorem dX0_isSettled_3 : decode cX0_isSettled 3 = .ok (.iconst 0, 1) := by decide +kernel
theorem dX0_isSettled_4 : decode cX0_isSettled 4 = .ok (.istore 5, 2) := by decide +kernel
theorem dX0_isSettled_6 : decode cX0_isSettled 6 = .ok (.iload 5, 2) := by decide +kernel
theorem dX0_isSettled_8 : decode cX0_isSettled 8 = .ok (.bipush 16, 2) := by decide +kernel
theorem dX0_isSettled_10 : decode cX0_isSettled 10 = .ok (.if_icmp .ge 30, 3) := by decide +kernel
theorem dX0_isSettled_13 : decode cX0_isSettled 13 = .ok (.iload 4, 2) := by decide +kernel
theorem dX0_isSettled_15 : decode cX0_isSettled 15 = .ok (.iconst 2, 1) := by decide +kernel
theorem dX0_isSettled_16 : decode cX0_isSettled 16 = .ok (.if_icmp .ge 24, 3) := by decide +kernel
theorem dX0_isSettled_19 : decode cX0_isSettled 19 = .ok (.aload_n 0, 1) := by decide +kernel
theorem dX0_isSettled_20 : decode cX0_isSettled 20 = .ok (.iload_n 1, 1) := by decide +kernel
theorem dX0_isSettled_21 : decode cX0_isSettled 21 = .ok (.iload_n 2, 1) := by decide +kernel
theorem dX0_isSettled_22 : decode cX0_isSettled 22 = .ok (.iload_n 3, 1) := by decide +kernel
theorem dX0_isSettled_23 : decode cX0_isSettled 23 = .ok (.iload 5, 2) := by decide +kernel
theorem dX0_isSettled_25 : decode cX0_isSettled 25 = .ok (.invokevirtual 121, 3) := by decide +kernel
theorem dX0_isSettled_28 : decode cX0_isSettled 28 = .ok (.ifCond .eq 6, 3) := by decide +kernel
theorem dX0_isSettled_31 : decode cX0_isSettled 31 = .ok (.iinc 4 1, 3) := by decide +kernel
theorem dX0_isSettled_34 : decode cX0_isSettled 34 = .ok (.iinc 5 1, 3) := by decide +kernel
theorem dX0_isSettled_37 : decode cX0_isSettled 37 = .ok (.goto (-31), 3) := by decide +kernel
theorem dX0_isSettled_40 : decode cX0_isSettled 40 = .ok (.iload 4, 2) := by decide +kernel
theorem dX0_isSettled_42 : decode cX0_isSettled 42 = .ok (.iconst 1, 1) := by decide +kernel
theorem dX0_isSettled_43 : decode cX0_isSettled 43 = .ok (.if_icmp .ne 7, 3) := by decide +kernel
theorem dX0_isSettled_46 : decode cX0_isSettled 46 = .ok (.iconst 1, 1) := by decide +kernel
theorem dX0_isSettled_47 : decode cX0_isSettled 47 = .ok (.goto 4, 3) := by decide +kernel
theorem dX0_isSettled_50 : decode cX0_isSettled 50 = .ok (.iconst 0, 1) := by decide +kernel
theorem dX0_isSettled_51 : decode cX0_isSettled 51 = .ok (.ireturn, 1) := by decide +kernel
theorem dX0_largest_0 : decode cX0_largest 0 = .ok (.iload_n 1, 1) := by decide +kernel
theorem dX0_largest_1 : decode cX0_largest 1 = .ok (.invokestatic 60, 3) := by decide +kernel
theorem dX0_largest_4 : decode cX0_largest 4 = .ok (.iconst 2, 1) := by decide +kernel
theorem dX0_largest_5 : decode cX0_largest 5 = .ok (.idiv, 1) := by decide +kernel
theorem dX0_largest_6 : decode cX0_largest 6 = .ok (.istore_n 2, 1) := by decide +kernel
theorem dX0_largest_7 : decode cX0_largest 7 = .ok (.iload_n 2, 1) := by decide +kernel
theorem dX0_largest_8 : decode cX0_largest 8 = .ok (.ifCond .le 43, 3) := by decide +kernel
theorem dX0_largest_11 : decode cX0_largest 11 = .ok (.iconst 1, 1) := by decide +kernel
theorem dX0_largest_12 : decode cX0_largest 12 = .ok (.istore_n 3, 1) := by decide +kernel
theorem dX0_largest_13 : decode cX0_largest 13 = .ok (.iload_n 3, 1) := by decide +kernel
theorem dX0_largest_14 : decode cX0_largest 14 = .ok (.sipush 255, 3) := by decide +kernel
theorem dX0_largest_17 : decode cX0_largest 17 = .ok (.if_icmp .gt 28, 3) := by decide +kernel
theorem dX0_largest_20 : decode cX0_largest 20 = .ok (.iload_n 3, 1) := by decide +kernel
theorem dX0_largest_21 : decode cX0_largest 21 = .ok (.invokestatic 60, 3) := by decide +kernel
theorem dX0_largest_24 : decode cX0_largest 24 = .ok (.iload_n 2, 1) := by decide +kernel
theorem dX0_largest_25 : decode cX0_largest 25 = .ok (.if_icmp .ne 14, 3) := by decide +kernel
theorem dX0_largest_28 : decode cX0_largest 28 = .ok (.aload_n 0, 1) := by decide +kernel
theorem dX0_largest_29 : decode cX0_largest 29 = .ok (.iload_n 3, 1) := by decide +kernel
theorem dX0_largest_30 : decode cX0_largest 30 = .ok (.iload_n 1, 1) := by decide +kernel
theorem dX0_largest_31 : decode cX0_largest 31 = .ok (.invokevirtual 125, 3) := by decide +kernel
theorem dX0_largest_34 : decode cX0_largest 34 = .ok (.ifCond .eq 5, 3) := by decide +kernel
theorem dX0_largest_37 : decode cX0_largest 37 = .ok (.iload_n 3, 1) := by decide +kernel
theorem dX0_largest_38 : decode cX0_largest 38 = .ok (.ireturn, 1) := by decide +kernel
theorem dX0_largest_39 : decode cX0_largest 39 = .ok (.iinc 3 1, 3) := by decide +kernel
theorem dX0_largest_42 : decode cX0_largest 42 = .ok (.goto (-29), 3) := by decide +kernel
theorem dX0_largest_45 : decode cX0_largest 45 = .ok (.iinc 2 (-1), 3) := by decide +kernel
theorem dX0_largest_48 : decode cX0_largest 48 = .ok (.goto (-41), 3) := by decide +kernel
theorem dX0_largest_51 : decode cX0_largest 51 = .ok (.iconst 0, 1) := by decide +kernel
theorem dX0_largest_52 : decode cX0_largest 52 = .ok (.ireturn, 1) := by decide +kernel
theorem dX0_whoIn_0 : decode cX0_whoIn 0 = .ok (.iload 4, 2) := by decide +kernel
theorem dX0_whoIn_2 : decode cX0_whoIn 2 = .ok (.ifCond .lt 20, 3) := by decide +kernel
theorem dX0_whoIn_5 : decode cX0_whoIn 5 = .ok (.iload 4, 2) := by decide +kernel
theorem dX0_whoIn_7 : decode cX0_whoIn 7 = .ok (.bipush 16, 2) := by decide +kernel
theorem dX0_whoIn_9 : decode cX0_whoIn 9 = .ok (.if_icmp .ge 13, 3) := by decide +kernel
theorem dX0_whoIn_12 : decode cX0_whoIn 12 = .ok (.iload_n 3, 1) := by decide +kernel
theorem dX0_whoIn_13 : decode cX0_whoIn 13 = .ok (.aload_n 0, 1) := by decide +kernel
theorem dX0_whoIn_14 : decode cX0_whoIn 14 = .ok (.iload_n 1, 1) := by decide +kernel
theorem dX0_whoIn_15 : decode cX0_whoIn 15 = .ok (.iload_n 2, 1) := by decide +kernel
theorem dX0_whoIn_16 : decode cX0_whoIn 16 = .ok (.invokevirtual 95, 3) := by decide +kernel
theorem dX0_whoIn_19 : decode cX0_whoIn 19 = .ok (.if_icmp .lt 5, 3) := by decide +kernel
theorem dX0_whoIn_22 : decode cX0_whoIn 22 = .ok (.iconst (-1), 1) := by decide +kernel
theorem dX0_whoIn_23 : decode cX0_whoIn 23 = .ok (.ireturn, 1) := by decide +kernel
theorem dX0_whoIn_24 : decode cX0_whoIn 24 = .ok (.aload_n 0, 1) := by decide +kernel
theorem dX0_whoIn_25 : decode cX0_whoIn 25 = .ok (.getfield 28, 3) := by decide +kernel
theorem dX0_whoIn_28 : decode cX0_whoIn 28 = .ok (.iconst 0, 1) := by decide +kernel
theorem dX0_whoIn_29 : decode cX0_whoIn 29 = .ok (.invokestatic 131, 3) := by decide +kernel
theorem dX0_whoIn_32 : decode cX0_whoIn 32 = .ok (.iload_n 1, 1) := by decide +kernel
theorem dX0_whoIn_33 : decode cX0_whoIn 33 = .ok (.istore 5, 2) := by decide +kernel
theorem dX0_whoIn_35 : decode cX0_whoIn 35 = .ok (.iload_n 2, 1) := by decide +kernel
theorem dX0_whoIn_36 : decode cX0_whoIn 36 = .ok (.istore 6, 2) := by decide +kernel
theorem dX0_whoIn_38 : decode cX0_whoIn 38 = .ok (.iload_n 3, 1) := by decide +kernel
theorem dX0_whoIn_39 : decode cX0_whoIn 39 = .ok (.istore 7, 2) := by decide +kernel
theorem dX0_whoIn_41 : decode cX0_whoIn 41 = .ok (.iconst 0, 1) := by decide +kernel
theorem dX0_whoIn_42 : decode cX0_whoIn 42 = .ok (.istore 8, 2) := by decide +kernel
theorem dX0_whoIn_44 : decode cX0_whoIn 44 = .ok (.iload 8, 2) := by decide +kernel
theorem dX0_whoIn_46 : decode cX0_whoIn 46 = .ok (.iload 4, 2) := by decide +kernel
theorem dX0_whoIn_48 : decode cX0_whoIn 48 = .ok (.if_icmp .gt 150, 3) := by decide +kernel
theorem dX0_whoIn_51 : decode cX0_whoIn 51 = .ok (.aload_n 0, 1) := by decide +kernel
theorem dX0_whoIn_52 : decode cX0_whoIn 52 = .ok (.getfield 28, 3) := by decide +kernel
theorem dX0_whoIn_55 : decode cX0_whoIn 55 = .ok (.iload 8, 2) := by decide +kernel
theorem dX0_whoIn_57 : decode cX0_whoIn 57 = .ok (.iaload, 1) := by decide +kernel
theorem dX0_whoIn_58 : decode cX0_whoIn 58 = .ok (.ifCond .ne 134, 3) := by decide +kernel
theorem dX0_whoIn_61 : decode cX0_whoIn 61 = .ok (.iconst 0, 1) := by decide +kernel
theorem dX0_whoIn_62 : decode cX0_whoIn 62 = .ok (.istore 9, 2) := by decide +kernel
theorem dX0_whoIn_64 : decode cX0_whoIn 64 = .ok (.aload_n 0, 1) := by decide +kernel
theorem dX0_whoIn_65 : decode cX0_whoIn 65 = .ok (.iload 5, 2) := by decide +kernel
theorem dX0_whoIn_67 : decode cX0_whoIn 67 = .ok (.iload 6, 2) := by decide +kernel
theorem dX0_whoIn_69 : decode cX0_whoIn 69 = .ok (.iconst 1, 1) := by decide +kernel
theorem dX0_whoIn_70 : decode cX0_whoIn 70 = .ok (.iload 8, 2) := by decide +kernel
theorem dX0_whoIn_72 : decode cX0_whoIn 72 = .ok (.ishl, 1) := by decide +kernel
theorem dX0_whoIn_73 : decode cX0_whoIn 73 = .ok (.iconst (-1), 1) := by decide +kernel
theorem dX0_whoIn_74 : decode cX0_whoIn 74 = .ok (.ixor, 1) := by decide +kernel
theorem dX0_whoIn_75 : decode cX0_whoIn 75 = .ok (.iand, 1) := by decide +kernel
theorem dX0_whoIn_76 : decode cX0_whoIn 76 = .ok (.invokevirtual 95, 3) := by decide +kernel
theorem dX0_whoIn_79 : decode cX0_whoIn 79 = .ok (.istore 10, 2) := by decide +kernel
theorem dX0_whoIn_81 : decode cX0_whoIn 81 = .ok (.iconst 0, 1) := by decide +kernel
theorem dX0_whoIn_82 : decode cX0_whoIn 82 = .ok (.istore 11, 2) := by decide +kernel
theorem dX0_whoIn_84 : decode cX0_whoIn 84 = .ok (.iload 11, 2) := by decide +kernel
theorem dX0_whoIn_86 : decode cX0_whoIn 86 = .ok (.bipush 8, 2) := by decide +kernel
theorem dX0_whoIn_88 : decode cX0_whoIn 88 = .ok (.if_icmp .ge 55, 3) := by decide +kernel
theorem dX0_whoIn_91 : decode cX0_whoIn 91 = .ok (.iload 7, 2) := by decide +kernel
theorem dX0_whoIn_93 : decode cX0_whoIn 93 = .ok (.iload 10, 2) := by decide +kernel
theorem dX0_whoIn_95 : decode cX0_whoIn 95 = .ok (.if_icmp .lt 48, 3) := by decide +kernel
theorem dX0_whoIn_98 : decode cX0_whoIn 98 = .ok (.iload 7, 2) := by decide +kernel
theorem dX0_whoIn_100 : decode cX0_whoIn 100 = .ok (.iload 10, 2) := by decide +kernel
theorem dX0_whoIn_102 : decode cX0_whoIn 102 = .ok (.isub, 1) := by decide +kernel
theorem dX0_whoIn_103 : decode cX0_whoIn 103 = .ok (.istore 7, 2) := by decide +kernel
theorem dX0_whoIn_105 : decode cX0_whoIn 105 = .ok (.iinc 9 1, 3) := by decide +kernel
theorem dX0_whoIn_108 : decode cX0_whoIn 108 = .ok (.iload 5, 2) := by decide +kernel
theorem dX0_whoIn_110 : decode cX0_whoIn 110 = .ok (.iload 9, 2) := by decide +kernel
theorem dX0_whoIn_112 : decode cX0_whoIn 112 = .ok (.invokestatic 43, 3) := by decide +kernel
theorem dX0_whoIn_115 : decode cX0_whoIn 115 = .ok (.iand, 1) := by decide +kernel
theorem dX0_whoIn_116 : decode cX0_whoIn 116 = .ok (.ifCond .eq 18, 3) := by decide +kernel
theorem dX0_whoIn_119 : decode cX0_whoIn 119 = .ok (.aload_n 0, 1) := by decide +kernel
theorem dX0_whoIn_120 : decode cX0_whoIn 120 = .ok (.iload 5, 2) := by decide +kernel
theorem dX0_whoIn_122 : decode cX0_whoIn 122 = .ok (.iload 6, 2) := by decide +kernel
theorem dX0_whoIn_124 : decode cX0_whoIn 124 = .ok (.iload 9, 2) := by decide +kernel
theorem dX0_whoIn_126 : decode cX0_whoIn 126 = .ok (.iload 8, 2) := by decide +kernel
theorem dX0_whoIn_128 : decode cX0_whoIn 128 = .ok (.invokevirtual 137, 3) := by decide +kernel
theorem dX0_whoIn_131 : decode cX0_whoIn 131 = .ok (.goto 4, 3) := by decide +kernel
theorem dX0_whoIn_134 : decode cX0_whoIn 134 = .ok (.iconst 0, 1) := by decide +kernel
theorem dX0_whoIn_135 : decode cX0_whoIn 135 = .ok (.istore 10, 2) := by decide +kernel
theorem dX0_whoIn_137 : decode cX0_whoIn 137 = .ok (.iinc 11 1, 3) := by decide +kernel
theorem dX0_whoIn_140 : decode cX0_whoIn 140 = .ok (.goto (-56), 3) := by decide +kernel
theorem dX0_whoIn_143 : decode cX0_whoIn 143 = .ok (.iload 5, 2) := by decide +kernel
theorem dX0_whoIn_145 : decode cX0_whoIn 145 = .ok (.iload 9, 2) := by decide +kernel
theorem dX0_whoIn_147 : decode cX0_whoIn 147 = .ok (.ifCond .ne 8, 3) := by decide +kernel
theorem dX0_whoIn_150 : decode cX0_whoIn 150 = .ok (.iload 5, 2) := by decide +kernel
theorem dX0_whoIn_152 : decode cX0_whoIn 152 = .ok (.goto 10, 3) := by decide +kernel
theorem dX0_whoIn_155 : decode cX0_whoIn 155 = .ok (.iload 9, 2) := by decide +kernel
theorem dX0_whoIn_157 : decode cX0_whoIn 157 = .ok (.invokestatic 43, 3) := by decide +kernel
theorem dX0_whoIn_160 : decode cX0_whoIn 160 = .ok (.iconst (-1), 1) := by decide +kernel
theorem dX0_whoIn_161 : decode cX0_whoIn 161 = .ok (.ixor, 1) := by decide +kernel
theorem dX0_whoIn_162 : decode cX0_whoIn 162 = .ok (.iand, 1) := by decide +kernel
theorem dX0_whoIn_163 : decode cX0_whoIn 163 = .ok (.istore 5, 2) := by decide +kernel
theorem dX0_whoIn_165 : decode cX0_whoIn 165 = .ok (.iload 6, 2) := by decide +kernel
theorem dX0_whoIn_167 : decode cX0_whoIn 167 = .ok (.iload 9, 2) := by decide +kernel
theorem dX0_whoIn_169 : decode cX0_whoIn 169 = .ok (.ifCond .ne 10, 3) := by decide +kernel
theorem dX0_whoIn_172 : decode cX0_whoIn 172 = .ok (.iconst 1, 1) := by decide +kernel
theorem dX0_whoIn_173 : decode cX0_whoIn 173 = .ok (.iload 8, 2) := by decide +kernel
theorem dX0_whoIn_175 : decode cX0_whoIn 175 = .ok (.ishl, 1) := by decide +kernel
theorem dX0_whoIn_176 : decode cX0_whoIn 176 = .ok (.goto 11, 3) := by decide +kernel
theorem dX0_whoIn_179 : decode cX0_whoIn 179 = .ok (.aload_n 0, 1) := by decide +kernel
theorem dX0_whoIn_180 : decode cX0_whoIn 180 = .ok (.iload 9, 2) := by decide +kernel
theorem dX0_whoIn_182 : decode cX0_whoIn 182 = .ok (.iload 8, 2) := by decide +kernel
theorem dX0_whoIn_184 : decode cX0_whoIn 184 = .ok (.invokevirtual 140, 3) := by decide +kernel
theorem dX0_whoIn_187 : decode cX0_whoIn 187 = .ok (.iconst (-1), 1) := by decide +kernel
theorem dX0_whoIn_188 : decode cX0_whoIn 188 = .ok (.ixor, 1) := by decide +kernel
theorem dX0_whoIn_189 : decode cX0_whoIn 189 = .ok (.iand, 1) := by decide +kernel
theorem dX0_whoIn_190 : decode cX0_whoIn 190 = .ok (.istore 6, 2) := by decide +kernel
theorem dX0_whoIn_192 : decode cX0_whoIn 192 = .ok (.iinc 8 1, 3) := by decide +kernel
theorem dX0_whoIn_195 : decode cX0_whoIn 195 = .ok (.goto (-151), 3) := by decide +kernel
theorem dX0_whoIn_198 : decode cX0_whoIn 198 = .ok (.aload_n 0, 1) := by decide +kernel
theorem dX0_whoIn_199 : decode cX0_whoIn 199 = .ok (.getfield 28, 3) := by decide +kernel
theorem dX0_whoIn_202 : decode cX0_whoIn 202 = .ok (.iload 4, 2) := by decide +kernel
theorem dX0_whoIn_204 : decode cX0_whoIn 204 = .ok (.iaload, 1) := by decide +kernel
theorem dX0_whoIn_205 : decode cX0_whoIn 205 = .ok (.ireturn, 1) := by decide +kernel
theorem dX0_lay_0 : decode cX0_lay 0 = .ok (.iload_n 2, 1) := by decide +kernel
theorem dX0_lay_1 : decode cX0_lay 1 = .ok (.aload_n 0, 1) := by decide +kernel
theorem dX0_lay_2 : decode cX0_lay 2 = .ok (.getfield 11, 3) := by decide +kernel
theorem dX0_lay_5 : decode cX0_lay 5 = .ok (.iload_n 1, 1) := by decide +kernel
theorem dX0_lay_6 : decode cX0_lay 6 = .ok (.iaload, 1) := by decide +kernel
theorem dX0_lay_7 : decode cX0_lay 7 = .ok (.iadd, 1) := by decide +kernel
theorem dX0_lay_8 : decode cX0_lay 8 = .ok (.istore_n 3, 1) := by decide +kernel
theorem dX0_lay_9 : decode cX0_lay 9 = .ok (.iload_n 3, 1) := by decide +kernel
theorem dX0_lay_10 : decode cX0_lay 10 = .ok (.bipush 16, 2) := by decide +kernel
theorem dX0_lay_12 : decode cX0_lay 12 = .ok (.if_icmp .ge 17, 3) := by decide +kernel
theorem dX0_lay_15 : decode cX0_lay 15 = .ok (.aload_n 0, 1) := by decide +kernel
theorem dX0_lay_16 : decode cX0_lay 16 = .ok (.getfield 28, 3) := by decide +kernel
theorem dX0_lay_19 : decode cX0_lay 19 = .ok (.iload_n 2, 1) := by decide +kernel
theorem dX0_lay_20 : decode cX0_lay 20 = .ok (.iload_n 1, 1) := by decide +kernel
theorem dX0_lay_21 : decode cX0_lay 21 = .ok (.iastore, 1) := by decide +kernel
theorem dX0_lay_22 : decode cX0_lay 22 = .ok (.aload_n 0, 1) := by decide +kernel
theorem dX0_lay_23 : decode cX0_lay 23 = .ok (.getfield 28, 3) := by decide +kernel
theorem dX0_lay_26 : decode cX0_lay 26 = .ok (.iload_n 3, 1) := by decide +kernel
theorem dX0_lay_27 : decode cX0_lay 27 = .ok (.iload_n 1, 1) := by decide +kernel
theorem dX0_lay_28 : decode cX0_lay 28 = .ok (.iastore, 1) := by decide +kernel
theorem dX0_lay_29 : decode cX0_lay 29 = .ok (.aload_n 0, 1) := by decide +kernel
theorem dX0_lay_30 : decode cX0_lay 30 = .ok (.iload_n 1, 1) := by decide +kernel
theorem dX0_lay_31 : decode cX0_lay 31 = .ok (.iload_n 2, 1) := by decide +kernel
theorem dX0_lay_32 : decode cX0_lay 32 = .ok (.invokevirtual 92, 3) := by decide +kernel
theorem dX0_lay_35 : decode cX0_lay 35 = .ok (.ireturn, 1) := by decide +kernel
theorem dX0_choices_0 : decode cX0_choices 0 = .ok (.lconst 1, 1) := by decide +kernel
theorem dX0_choices_1 : decode cX0_choices 1 = .ok (.lstore_n 3, 1) := by decide +kernel
theorem dX0_choices_2 : decode cX0_choices 2 = .ok (.iconst 1, 1) := by decide +kernel
theorem dX0_choices_3 : decode cX0_choices 3 = .ok (.istore 5, 2) := by decide +kernel
theorem dX0_choices_5 : decode cX0_choices 5 = .ok (.iload 5, 2) := by decide +kernel
theorem dX0_choices_7 : decode cX0_choices 7 = .ok (.bipush 8, 2) := by decide +kernel
theorem dX0_choices_9 : decode cX0_choices 9 = .ok (.if_icmp .gt 32, 3) := by decide +kernel
theorem dX0_choices_12 : decode cX0_choices 12 = .ok (.iload_n 1, 1) := by decide +kernel
theorem dX0_choices_13 : decode cX0_choices 13 = .ok (.iload 5, 2) := by decide +kernel
theorem dX0_choices_15 : decode cX0_choices 15 = .ok (.invokestatic 43, 3) := by decide +kernel
theorem dX0_choices_18 : decode cX0_choices 18 = .ok (.iand, 1) := by decide +kernel
theorem dX0_choices_19 : decode cX0_choices 19 = .ok (.ifCond .eq 16, 3) := by decide +kernel
theorem dX0_choices_22 : decode cX0_choices 22 = .ok (.lload_n 3, 1) := by decide +kernel
theorem dX0_choices_23 : decode cX0_choices 23 = .ok (.iload_n 2, 1) := by decide +kernel
theorem dX0_choices_24 : decode cX0_choices 24 = .ok (.aload_n 0, 1) := by decide +kernel
theorem dX0_choices_25 : decode cX0_choices 25 = .ok (.getfield 11, 3) := by decide +kernel
theorem dX0_choices_28 : decode cX0_choices 28 = .ok (.iload 5, 2) := by decide +kernel
theorem dX0_choices_30 : decode cX0_choices 30 = .ok (.iaload, 1) := by decide +kernel
theorem dX0_choices_31 : decode cX0_choices 31 = .ok (.isub, 1) := by decide +kernel
theorem dX0_choices_32 : decode cX0_choices 32 = .ok (.i2l, 1) := by decide +kernel
theorem dX0_choices_33 : decode cX0_choices 33 = .ok (.lmul, 1) := by decide +kernel
theorem dX0_choices_34 : decode cX0_choices 34 = .ok (.lstore_n 3, 1) := by decide +kernel
theorem dX0_choices_35 : decode cX0_choices 35 = .ok (.iinc 5 1, 3) := by decide +kernel
theorem dX0_choices_38 : decode cX0_choices 38 = .ok (.goto (-33), 3) := by decide +kernel
theorem dX0_choices_41 : decode cX0_choices 41 = .ok (.lload_n 3, 1) := by decide +kernel
theorem dX0_choices_42 : decode cX0_choices 42 = .ok (.lreturn, 1) := by decide +kernel
theorem dX0_wins_0 : decode cX0_wins 0 = .ok (.iload_n 1, 1) := by decide +kernel
theorem dX0_wins_1 : decode cX0_wins 1 = .ok (.ifCond .ne 5, 3) := by decide +kernel
theorem dX0_wins_4 : decode cX0_wins 4 = .ok (.iconst 0, 1) := by decide +kernel
theorem dX0_wins_5 : decode cX0_wins 5 = .ok (.ireturn, 1) := by decide +kernel
theorem dX0_wins_6 : decode cX0_wins 6 = .ok (.aload_n 0, 1) := by decide +kernel
theorem dX0_wins_7 : decode cX0_wins 7 = .ok (.iconst 2, 1) := by decide +kernel
theorem dX0_wins_8 : decode cX0_wins 8 = .ok (.iload_n 1, 1) := by decide +kernel
theorem dX0_wins_9 : decode cX0_wins 9 = .ok (.iload_n 2, 1) := by decide +kernel
theorem dX0_wins_10 : decode cX0_wins 10 = .ok (.invokevirtual 67, 3) := by decide +kernel
theorem dX0_wins_13 : decode cX0_wins 13 = .ok (.lstore_n 3, 1) := by decide +kernel
theorem dX0_wins_14 : decode cX0_wins 14 = .ok (.lload_n 3, 1) := by decide +kernel
theorem dX0_wins_15 : decode cX0_wins 15 = .ok (.invokestatic 71, 3) := by decide +kernel
theorem dX0_wins_18 : decode cX0_wins 18 = .ok (.istore 5, 2) := by decide +kernel
theorem dX0_wins_20 : decode cX0_wins 20 = .ok (.aload_n 0, 1) := by decide +kernel
theorem dX0_wins_21 : decode cX0_wins 21 = .ok (.getfield 21, 3) := by decide +kernel
theorem dX0_wins_24 : decode cX0_wins 24 = .ok (.iload 5, 2) := by decide +kernel
theorem dX0_wins_26 : decode cX0_wins 26 = .ok (.laload, 1) := by decide +kernel
theorem dX0_wins_27 : decode cX0_wins 27 = .ok (.lload_n 3, 1) := by decide +kernel
theorem dX0_wins_28 : decode cX0_wins 28 = .ok (.lcmp, 1) := by decide +kernel
theorem dX0_wins_29 : decode cX0_wins 29 = .ok (.ifCond .ne 19, 3) := by decide +kernel
theorem dX0_wins_32 : decode cX0_wins 32 = .ok (.aload_n 0, 1) := by decide +kernel
theorem dX0_wins_33 : decode cX0_wins 33 = .ok (.getfield 25, 3) := by decide +kernel
theorem dX0_wins_36 : decode cX0_wins 36 = .ok (.iload 5, 2) := by decide +kernel
theorem dX0_wins_38 : decode cX0_wins 38 = .ok (.iaload, 1) := by decide +kernel
theorem dX0_wins_39 : decode cX0_wins 39 = .ok (.ifCond .eq 7, 3) := by decide +kernel
theorem dX0_wins_42 : decode cX0_wins 42 = .ok (.iconst 1, 1) := by decide +kernel
theorem dX0_wins_43 : decode cX0_wins 43 = .ok (.goto 4, 3) := by decide +kernel
theorem dX0_wins_46 : decode cX0_wins 46 = .ok (.iconst 0, 1) := by decide +kernel
theorem dX0_wins_47 : decode cX0_wins 47 = .ok (.ireturn, 1) := by decide +kernel
theorem dX0_wins_48 : decode cX0_wins 48 = .ok (.aload_n 0, 1) := by decide +kernel
theorem dX0_wins_49 : decode cX0_wins 49 = .ok (.iload_n 1, 1) := by decide +kernel
theorem dX0_wins_50 : decode cX0_wins 50 = .ok (.iload_n 2, 1) := by decide +kernel
theorem dX0_wins_51 : decode cX0_wins 51 = .ok (.invokevirtual 143, 3) := by decide +kernel
theorem dX0_wins_54 : decode cX0_wins 54 = .ok (.iconst (-1), 1) := by decide +kernel
theorem dX0_wins_55 : decode cX0_wins 55 = .ok (.if_icmp .eq 7, 3) := by decide +kernel
theorem dX0_wins_58 : decode cX0_wins 58 = .ok (.iconst 1, 1) := by decide +kernel
theorem dX0_wins_59 : decode cX0_wins 59 = .ok (.goto 4, 3) := by decide +kernel
theorem dX0_wins_62 : decode cX0_wins 62 = .ok (.iconst 0, 1) := by decide +kernel
theorem dX0_wins_63 : decode cX0_wins 63 = .ok (.istore 6, 2) := by decide +kernel
theorem dX0_wins_65 : decode cX0_wins 65 = .ok (.aload_n 0, 1) := by decide +kernel
theorem dX0_wins_66 : decode cX0_wins 66 = .ok (.iload 5, 2) := by decide +kernel
theorem dX0_wins_68 : decode cX0_wins 68 = .ok (.lload_n 3, 1) := by decide +kernel
theorem dX0_wins_69 : decode cX0_wins 69 = .ok (.iload 6, 2) := by decide +kernel
theorem dX0_wins_71 : decode cX0_wins 71 = .ok (.ifCond .eq 7, 3) := by decide +kernel
theorem dX0_wins_74 : decode cX0_wins 74 = .ok (.iconst 1, 1) := by decide +kernel
theorem dX0_wins_75 : decode cX0_wins 75 = .ok (.goto 4, 3) := by decide +kernel
theorem dX0_wins_78 : decode cX0_wins 78 = .ok (.iconst 0, 1) := by decide +kernel
theorem dX0_wins_79 : decode cX0_wins 79 = .ok (.invokevirtual 78, 3) := by decide +kernel
theorem dX0_wins_82 : decode cX0_wins 82 = .ok (.iload 6, 2) := by decide +kernel
theorem dX0_wins_84 : decode cX0_wins 84 = .ok (.ireturn, 1) := by decide +kernel
theorem dX0_winningPlay_0 : decode cX0_winningPlay 0 = .ok (.iconst 1, 1) := by decide +kernel
theorem dX0_winningPlay_1 : decode cX0_winningPlay 1 = .ok (.istore_n 3, 1) := by decide +kernel
theorem dX0_winningPlay_2 : decode cX0_winningPlay 2 = .ok (.iload_n 3, 1) := by decide +kernel
theorem dX0_winningPlay_3 : decode cX0_winningPlay 3 = .ok (.bipush 8, 2) := by decide +kernel
theorem dX0_winningPlay_5 : decode cX0_winningPlay 5 = .ok (.if_icmp .gt 41, 3) := by decide +kernel
theorem dX0_winningPlay_8 : decode cX0_winningPlay 8 = .ok (.aload_n 0, 1) := by decide +kernel
theorem dX0_winningPlay_9 : decode cX0_winningPlay 9 = .ok (.iload_n 1, 1) := by decide +kernel
theorem dX0_winningPlay_10 : decode cX0_winningPlay 10 = .ok (.iload_n 3, 1) := by decide +kernel
theorem dX0_winningPlay_11 : decode cX0_winningPlay 11 = .ok (.invokevirtual 56, 3) := by decide +kernel
theorem dX0_winningPlay_14 : decode cX0_winningPlay 14 = .ok (.ifCond .eq 26, 3) := by decide +kernel
theorem dX0_winningPlay_17 : decode cX0_winningPlay 17 = .ok (.aload_n 0, 1) := by decide +kernel
theorem dX0_winningPlay_18 : decode cX0_winningPlay 18 = .ok (.iload_n 1, 1) := by decide +kernel
theorem dX0_winningPlay_19 : decode cX0_winningPlay 19 = .ok (.iload_n 2, 1) := by decide +kernel
theorem dX0_winningPlay_20 : decode cX0_winningPlay 20 = .ok (.iload_n 3, 1) := by decide +kernel
theorem dX0_winningPlay_21 : decode cX0_winningPlay 21 = .ok (.invokevirtual 146, 3) := by decide +kernel
theorem dX0_winningPlay_24 : decode cX0_winningPlay 24 = .ok (.istore 4, 2) := by decide +kernel
theorem dX0_winningPlay_26 : decode cX0_winningPlay 26 = .ok (.iload 4, 2) := by decide +kernel
theorem dX0_winningPlay_28 : decode cX0_winningPlay 28 = .ok (.iconst (-1), 1) := by decide +kernel
theorem dX0_winningPlay_29 : decode cX0_winningPlay 29 = .ok (.if_icmp .eq 11, 3) := by decide +kernel
theorem dX0_winningPlay_32 : decode cX0_winningPlay 32 = .ok (.bipush 100, 2) := by decide +kernel
theorem dX0_winningPlay_34 : decode cX0_winningPlay 34 = .ok (.iload_n 3, 1) := by decide +kernel
theorem dX0_winningPlay_35 : decode cX0_winningPlay 35 = .ok (.imul, 1) := by decide +kernel
theorem dX0_winningPlay_36 : decode cX0_winningPlay 36 = .ok (.iload 4, 2) := by decide +kernel
theorem dX0_winningPlay_38 : decode cX0_winningPlay 38 = .ok (.iadd, 1) := by decide +kernel
theorem dX0_winningPlay_39 : decode cX0_winningPlay 39 = .ok (.ireturn, 1) := by decide +kernel
theorem dX0_winningPlay_40 : decode cX0_winningPlay 40 = .ok (.iinc 3 1, 3) := by decide +kernel
theorem dX0_winningPlay_43 : decode cX0_winningPlay 43 = .ok (.goto (-41), 3) := by decide +kernel
theorem dX0_winningPlay_46 : decode cX0_winningPlay 46 = .ok (.iconst (-1), 1) := by decide +kernel
theorem dX0_winningPlay_47 : decode cX0_winningPlay 47 = .ok (.ireturn, 1) := by decide +kernel
theorem dX0_winningFirst_0 : decode cX0_winningFirst 0 = .ok (.aload_n 0, 1) := by decide +kernel
theorem dX0_winningFirst_1 : decode cX0_winningFirst 1 = .ok (.iload_n 3, 1) := by decide +kernel
theorem dX0_winningFirst_2 : decode cX0_winningFirst 2 = .ok (.iload_n 2, 1) := by decide +kernel
theorem dX0_winningFirst_3 : decode cX0_winningFirst 3 = .ok (.invokevirtual 47, 3) := by decide +kernel
theorem dX0_winningFirst_6 : decode cX0_winningFirst 6 = .ok (.istore 4, 2) := by decide +kernel
theorem dX0_winningFirst_8 : decode cX0_winningFirst 8 = .ok (.iconst 0, 1) := by decide +kernel
theorem dX0_winningFirst_9 : decode cX0_winningFirst 9 = .ok (.istore 5, 2) := by decide +kernel
theorem dX0_winningFirst_11 : decode cX0_winningFirst 11 = .ok (.iload 5, 2) := by decide +kernel
theorem dX0_winningFirst_13 : decode cX0_winningFirst 13 = .ok (.bipush 16, 2) := by decide +kernel
theorem dX0_winningFirst_15 : decode cX0_winningFirst 15 = .ok (.if_icmp .ge 48, 3) := by decide +kernel
theorem dX0_winningFirst_18 : decode cX0_winningFirst 18 = .ok (.iload 4, 2) := by decide +kernel
theorem dX0_winningFirst_20 : decode cX0_winningFirst 20 = .ok (.iload 5, 2) := by decide +kernel
theorem dX0_winningFirst_22 : decode cX0_winningFirst 22 = .ok (.iushr, 1) := by decide +kernel
theorem dX0_winningFirst_23 : decode cX0_winningFirst 23 = .ok (.iconst 1, 1) := by decide +kernel
theorem dX0_winningFirst_24 : decode cX0_winningFirst 24 = .ok (.iand, 1) := by decide +kernel
theorem dX0_winningFirst_25 : decode cX0_winningFirst 25 = .ok (.ifCond .eq 32, 3) := by decide +kernel
theorem dX0_winningFirst_28 : decode cX0_winningFirst 28 = .ok (.aload_n 0, 1) := by decide +kernel
theorem dX0_winningFirst_29 : decode cX0_winningFirst 29 = .ok (.iload_n 1, 1) := by decide +kernel
theorem dX0_winningFirst_30 : decode cX0_winningFirst 30 = .ok (.iload_n 3, 1) := by decide +kernel
theorem dX0_winningFirst_31 : decode cX0_winningFirst 31 = .ok (.invokestatic 43, 3) := by decide +kernel
theorem dX0_winningFirst_34 : decode cX0_winningFirst 34 = .ok (.iconst (-1), 1) := by decide +kernel
theorem dX0_winningFirst_35 : decode cX0_winningFirst 35 = .ok (.ixor, 1) := by decide +kernel
theorem dX0_winningFirst_36 : decode cX0_winningFirst 36 = .ok (.iand, 1) := by decide +kernel
theorem dX0_winningFirst_37 : decode cX0_winningFirst 37 = .ok (.iload_n 2, 1) := by decide +kernel
theorem dX0_winningFirst_38 : decode cX0_winningFirst 38 = .ok (.aload_n 0, 1) := by decide +kernel
theorem dX0_winningFirst_39 : decode cX0_winningFirst 39 = .ok (.iload_n 3, 1) := by decide +kernel
theorem dX0_winningFirst_40 : decode cX0_winningFirst 40 = .ok (.iload 5, 2) := by decide +kernel
theorem dX0_winningFirst_42 : decode cX0_winningFirst 42 = .ok (.invokevirtual 92, 3) := by decide +kernel
theorem dX0_winningFirst_45 : decode cX0_winningFirst 45 = .ok (.iconst (-1), 1) := by decide +kernel
theorem dX0_winningFirst_46 : decode cX0_winningFirst 46 = .ok (.ixor, 1) := by decide +kernel
theorem dX0_winningFirst_47 : decode cX0_winningFirst 47 = .ok (.iand, 1) := by decide +kernel
theorem dX0_winningFirst_48 : decode cX0_winningFirst 48 = .ok (.invokevirtual 149, 3) := by decide +kernel
theorem dX0_winningFirst_51 : decode cX0_winningFirst 51 = .ok (.ifCond .ne 6, 3) := by decide +kernel
theorem dX0_winningFirst_54 : decode cX0_winningFirst 54 = .ok (.iload 5, 2) := by decide +kernel
theorem dX0_winningFirst_56 : decode cX0_winningFirst 56 = .ok (.ireturn, 1) := by decide +kernel
theorem dX0_winningFirst_57 : decode cX0_winningFirst 57 = .ok (.iinc 5 1, 3) := by decide +kernel
theorem dX0_winningFirst_60 : decode cX0_winningFirst 60 = .ok (.goto (-49), 3) := by decide +kernel
theorem dX0_winningFirst_63 : decode cX0_winningFirst 63 = .ok (.iconst (-1), 1) := by decide +kernel
theorem dX0_winningFirst_64 : decode cX0_winningFirst 64 = .ok (.ireturn, 1) := by decide +kernel
theorem dX1_init_0 : decode cX1_init 0 = .ok (.aload_n 0, 1) := by decide +kernel
theorem dX1_init_1 : decode cX1_init 1 = .ok (.invokespecial 3, 3) := by decide +kernel
theorem dX1_init_4 : decode cX1_init 4 = .ok (.aload_n 0, 1) := by decide +kernel
theorem dX1_init_5 : decode cX1_init 5 = .ok (.new 9, 3) := by decide +kernel
theorem dX1_init_8 : decode cX1_init 8 = .ok (.dup, 1) := by decide +kernel
theorem dX1_init_9 : decode cX1_init 9 = .ok (.invokespecial 11, 3) := by decide +kernel
theorem dX1_init_12 : decode cX1_init 12 = .ok (.putfield 12, 3) := by decide +kernel
theorem dX1_init_15 : decode cX1_init 15 = .ok (.aload_n 0, 1) := by decide +kernel
theorem dX1_init_16 : decode cX1_init 16 = .ok (.new 18, 3) := by decide +kernel
theorem dX1_init_19 : decode cX1_init 19 = .ok (.dup, 1) := by decide +kernel
theorem dX1_init_20 : decode cX1_init 20 = .ok (.invokespecial 20, 3) := by decide +kernel
theorem dX1_init_23 : decode cX1_init 23 = .ok (.putfield 21, 3) := by decide +kernel
theorem dX1_init_26 : decode cX1_init 26 = .ok (.aload_n 0, 1) := by decide +kernel
theorem dX1_init_27 : decode cX1_init 27 = .ok (.new 25, 3) := by decide +kernel
theorem dX1_init_30 : decode cX1_init 30 = .ok (.dup, 1) := by decide +kernel
theorem dX1_init_31 : decode cX1_init 31 = .ok (.invokespecial 27, 3) := by decide +kernel
theorem dX1_init_34 : decode cX1_init 34 = .ok (.putfield 28, 3) := by decide +kernel
theorem dX1_init_37 : decode cX1_init 37 = .ok (.aload_n 0, 1) := by decide +kernel
theorem dX1_init_38 : decode cX1_init 38 = .ok (.iconst 0, 1) := by decide +kernel
theorem dX1_init_39 : decode cX1_init 39 = .ok (.putfield 32, 3) := by decide +kernel
theorem dX1_init_42 : decode cX1_init 42 = .ok (.aload_n 0, 1) := by decide +kernel
theorem dX1_init_43 : decode cX1_init 43 = .ok (.iconst (-1), 1) := by decide +kernel
theorem dX1_init_44 : decode cX1_init 44 = .ok (.putfield 36, 3) := by decide +kernel
theorem dX1_init_47 : decode cX1_init 47 = .ok (.return_, 1) := by decide +kernel
theorem dX1_take_0 : decode cX1_take 0 = .ok (.aload_n 0, 1) := by decide +kernel
theorem dX1_take_1 : decode cX1_take 1 = .ok (.getfield 12, 3) := by decide +kernel
theorem dX1_take_4 : decode cX1_take 4 = .ok (.aload_n 1, 1) := by decide +kernel
theorem dX1_take_5 : decode cX1_take 5 = .ok (.invokevirtual 39, 3) := by decide +kernel
theorem dX1_take_8 : decode cX1_take 8 = .ok (.aload_n 0, 1) := by decide +kernel
theorem dX1_take_9 : decode cX1_take 9 = .ok (.getfield 21, 3) := by decide +kernel
theorem dX1_take_12 : decode cX1_take 12 = .ok (.aload_n 2, 1) := by decide +kernel
theorem dX1_take_13 : decode cX1_take 13 = .ok (.invokevirtual 43, 3) := by decide +kernel
theorem dX1_take_16 : decode cX1_take 16 = .ok (.aload_n 0, 1) := by decide +kernel
theorem dX1_take_17 : decode cX1_take 17 = .ok (.getfield 28, 3) := by decide +kernel
theorem dX1_take_20 : decode cX1_take 20 = .ok (.aload_n 3, 1) := by decide +kernel
theorem dX1_take_21 : decode cX1_take 21 = .ok (.invokevirtual 46, 3) := by decide +kernel
theorem dX1_take_24 : decode cX1_take 24 = .ok (.aload_n 0, 1) := by decide +kernel
theorem dX1_take_25 : decode cX1_take 25 = .ok (.iload 4, 2) := by decide +kernel
theorem dX1_take_27 : decode cX1_take 27 = .ok (.putfield 32, 3) := by decide +kernel
theorem dX1_take_30 : decode cX1_take 30 = .ok (.aload_n 0, 1) := by decide +kernel
theorem dX1_take_31 : decode cX1_take 31 = .ok (.iload 5, 2) := by decide +kernel
theorem dX1_take_33 : decode cX1_take 33 = .ok (.putfield 36, 3) := by decide +kernel
theorem dX1_take_36 : decode cX1_take 36 = .ok (.return_, 1) := by decide +kernel
theorem dX1_give_0 : decode cX1_give 0 = .ok (.aload_n 1, 1) := by decide +kernel
theorem dX1_give_1 : decode cX1_give 1 = .ok (.aload_n 0, 1) := by decide +kernel
theorem dX1_give_2 : decode cX1_give 2 = .ok (.getfield 12, 3) := by decide +kernel
theorem dX1_give_5 : decode cX1_give 5 = .ok (.invokevirtual 39, 3) := by decide +kernel
theorem dX1_give_8 : decode cX1_give 8 = .ok (.aload_n 2, 1) := by decide +kernel
theorem dX1_give_9 : decode cX1_give 9 = .ok (.aload_n 0, 1) := by decide +kernel
theorem dX1_give_10 : decode cX1_give 10 = .ok (.getfield 21, 3) := by decide +kernel
theorem dX1_give_13 : decode cX1_give 13 = .ok (.invokevirtual 43, 3) := by decide +kernel
theorem dX1_give_16 : decode cX1_give 16 = .ok (.aload_n 3, 1) := by decide +kernel
theorem dX1_give_17 : decode cX1_give 17 = .ok (.aload_n 0, 1) := by decide +kernel
theorem dX1_give_18 : decode cX1_give 18 = .ok (.getfield 28, 3) := by decide +kernel
theorem dX1_give_21 : decode cX1_give 21 = .ok (.invokevirtual 46, 3) := by decide +kernel
theorem dX1_give_24 : decode cX1_give 24 = .ok (.return_, 1) := by decide +kernel
theorem dX2_init_0 : decode cX2_init 0 = .ok (.aload_n 0, 1) := by decide +kernel
theorem dX2_init_1 : decode cX2_init 1 = .ok (.invokespecial 1, 3) := by decide +kernel
theorem dX2_init_4 : decode cX2_init 4 = .ok (.aload_n 0, 1) := by decide +kernel
theorem dX2_init_5 : decode cX2_init 5 = .ok (.aload_n 1, 1) := by decide +kernel
theorem dX2_init_6 : decode cX2_init 6 = .ok (.putfield 7, 3) := by decide +kernel
theorem dX2_init_9 : decode cX2_init 9 = .ok (.return_, 1) := by decide +kernel
theorem dX2_worth_0 : decode cX2_worth 0 = .ok (.iconst 0, 1) := by decide +kernel
theorem dX2_worth_1 : decode cX2_worth 1 = .ok (.istore 4, 2) := by decide +kernel
theorem dX2_worth_3 : decode cX2_worth 3 = .ok (.iconst 0, 1) := by decide +kernel
theorem dX2_worth_4 : decode cX2_worth 4 = .ok (.istore 5, 2) := by decide +kernel
theorem dX2_worth_6 : decode cX2_worth 6 = .ok (.iload 5, 2) := by decide +kernel
theorem dX2_worth_8 : decode cX2_worth 8 = .ok (.aload_n 0, 1) := by decide +kernel
theorem dX2_worth_9 : decode cX2_worth 9 = .ok (.getfield 7, 3) := by decide +kernel
theorem dX2_worth_12 : decode cX2_worth 12 = .ok (.arraylength, 1) := by decide +kernel
theorem dX2_worth_13 : decode cX2_worth 13 = .ok (.if_icmp .ge 188, 3) := by decide +kernel
theorem dX2_worth_16 : decode cX2_worth 16 = .ok (.iload 4, 2) := by decide +kernel
theorem dX2_worth_18 : decode cX2_worth 18 = .ok (.aload_n 3, 1) := by decide +kernel
theorem dX2_worth_19 : decode cX2_worth 19 = .ok (.arraylength, 1) := by decide +kernel
theorem dX2_worth_20 : decode cX2_worth 20 = .ok (.if_icmp .ge 181, 3) := by decide +kernel
theorem dX2_worth_23 : decode cX2_worth 23 = .ok (.aload_n 0, 1) := by decide +kernel
theorem dX2_worth_24 : decode cX2_worth 24 = .ok (.getfield 7, 3) := by decide +kernel
theorem dX2_worth_27 : decode cX2_worth 27 = .ok (.iload 5, 2) := by decide +kernel
theorem dX2_worth_29 : decode cX2_worth 29 = .ok (.iaload, 1) := by decide +kernel
theorem dX2_worth_30 : decode cX2_worth 30 = .ok (.istore 6, 2) := by decide +kernel
theorem dX2_worth_32 : decode cX2_worth 32 = .ok (.iload 6, 2) := by decide +kernel
theorem dX2_worth_34 : decode cX2_worth 34 = .ok (.bipush 100, 2) := by decide +kernel
theorem dX2_worth_36 : decode cX2_worth 36 = .ok (.if_icmp .lt 18, 3) := by decide +kernel
theorem dX2_worth_39 : decode cX2_worth 39 = .ok (.aload_n 3, 1) := by decide +kernel
theorem dX2_worth_40 : decode cX2_worth 40 = .ok (.iload 4, 2) := by decide +kernel
theorem dX2_worth_42 : decode cX2_worth 42 = .ok (.iload 6, 2) := by decide +kernel
theorem dX2_worth_44 : decode cX2_worth 44 = .ok (.bipush 100, 2) := by decide +kernel
theorem dX2_worth_46 : decode cX2_worth 46 = .ok (.isub, 1) := by decide +kernel
theorem dX2_worth_47 : decode cX2_worth 47 = .ok (.iastore, 1) := by decide +kernel
theorem dX2_worth_48 : decode cX2_worth 48 = .ok (.iinc 4 1, 3) := by decide +kernel
theorem dX2_worth_51 : decode cX2_worth 51 = .ok (.goto 144, 3) := by decide +kernel
theorem dX2_worth_54 : decode cX2_worth 54 = .ok (.iload 6, 2) := by decide +kernel
theorem dX2_worth_56 : decode cX2_worth 56 = .ok (.invokestatic 13, 3) := by decide +kernel
theorem dX2_worth_59 : decode cX2_worth 59 = .ok (.ifCond .eq 20, 3) := by decide +kernel
theorem dX2_worth_62 : decode cX2_worth 62 = .ok (.aload_n 3, 1) := by decide +kernel
theorem dX2_worth_63 : decode cX2_worth 63 = .ok (.iload 4, 2) := by decide +kernel
theorem dX2_worth_65 : decode cX2_worth 65 = .ok (.iload 6, 2) := by decide +kernel
theorem dX2_worth_67 : decode cX2_worth 67 = .ok (.aload_n 1, 1) := by decide +kernel
theorem dX2_worth_68 : decode cX2_worth 68 = .ok (.iload_n 2, 1) := by decide +kernel
theorem dX2_worth_69 : decode cX2_worth 69 = .ok (.invokestatic 19, 3) := by decide +kernel
theorem dX2_worth_72 : decode cX2_worth 72 = .ok (.iastore, 1) := by decide +kernel
theorem dX2_worth_73 : decode cX2_worth 73 = .ok (.iinc 4 1, 3) := by decide +kernel
theorem dX2_worth_76 : decode cX2_worth 76 = .ok (.goto 119, 3) := by decide +kernel
theorem dX2_worth_79 : decode cX2_worth 79 = .ok (.iload 6, 2) := by decide +kernel
theorem dX2_worth_81 : decode cX2_worth 81 = .ok (.bipush 50, 2) := by decide +kernel
theorem dX2_worth_83 : decode cX2_worth 83 = .ok (.if_icmp .ne 45, 3) := by decide +kernel
theorem dX2_worth_86 : decode cX2_worth 86 = .ok (.iload 4, 2) := by decide +kernel
theorem dX2_worth_88 : decode cX2_worth 88 = .ok (.iconst 3, 1) := by decide +kernel
theorem dX2_worth_89 : decode cX2_worth 89 = .ok (.if_icmp .lt 39, 3) := by decide +kernel
theorem dX2_worth_92 : decode cX2_worth 92 = .ok (.aload_n 3, 1) := by decide +kernel
theorem dX2_worth_93 : decode cX2_worth 93 = .ok (.iload 4, 2) := by decide +kernel
theorem dX2_worth_95 : decode cX2_worth 95 = .ok (.iconst 3, 1) := by decide +kernel
theorem dX2_worth_96 : decode cX2_worth 96 = .ok (.isub, 1) := by decide +kernel
theorem dX2_worth_97 : decode cX2_worth 97 = .ok (.aload_n 3, 1) := by decide +kernel
theorem dX2_worth_98 : decode cX2_worth 98 = .ok (.iload 4, 2) := by decide +kernel
theorem dX2_worth_100 : decode cX2_worth 100 = .ok (.iconst 3, 1) := by decide +kernel
theorem dX2_worth_101 : decode cX2_worth 101 = .ok (.isub, 1) := by decide +kernel
theorem dX2_worth_102 : decode cX2_worth 102 = .ok (.iaload, 1) := by decide +kernel
theorem dX2_worth_103 : decode cX2_worth 103 = .ok (.ifCond .eq 12, 3) := by decide +kernel
theorem dX2_worth_106 : decode cX2_worth 106 = .ok (.aload_n 3, 1) := by decide +kernel
theorem dX2_worth_107 : decode cX2_worth 107 = .ok (.iload 4, 2) := by decide +kernel
theorem dX2_worth_109 : decode cX2_worth 109 = .ok (.iconst 2, 1) := by decide +kernel
theorem dX2_worth_110 : decode cX2_worth 110 = .ok (.isub, 1) := by decide +kernel
theorem dX2_worth_111 : decode cX2_worth 111 = .ok (.iaload, 1) := by decide +kernel
theorem dX2_worth_112 : decode cX2_worth 112 = .ok (.goto 9, 3) := by decide +kernel
theorem dX2_worth_115 : decode cX2_worth 115 = .ok (.aload_n 3, 1) := by decide +kernel
theorem dX2_worth_116 : decode cX2_worth 116 = .ok (.iload 4, 2) := by decide +kernel
theorem dX2_worth_118 : decode cX2_worth 118 = .ok (.iconst 1, 1) := by decide +kernel
theorem dX2_worth_119 : decode cX2_worth 119 = .ok (.isub, 1) := by decide +kernel
theorem dX2_worth_120 : decode cX2_worth 120 = .ok (.iaload, 1) := by decide +kernel
theorem dX2_worth_121 : decode cX2_worth 121 = .ok (.iastore, 1) := by decide +kernel
theorem dX2_worth_122 : decode cX2_worth 122 = .ok (.iinc 4 (-2), 3) := by decide +kernel
theorem dX2_worth_125 : decode cX2_worth 125 = .ok (.goto 70, 3) := by decide +kernel
theorem dX2_worth_128 : decode cX2_worth 128 = .ok (.iload 6, 2) := by decide +kernel
theorem dX2_worth_130 : decode cX2_worth 130 = .ok (.invokestatic 23, 3) := by decide +kernel
theorem dX2_worth_133 : decode cX2_worth 133 = .ok (.ifCond .eq 30, 3) := by decide +kernel
theorem dX2_worth_136 : decode cX2_worth 136 = .ok (.iload 4, 2) := by decide +kernel
theorem dX2_worth_138 : decode cX2_worth 138 = .ok (.iconst 1, 1) := by decide +kernel
theorem dX2_worth_139 : decode cX2_worth 139 = .ok (.if_icmp .lt 24, 3) := by decide +kernel
theorem dX2_worth_142 : decode cX2_worth 142 = .ok (.aload_n 3, 1) := by decide +kernel
theorem dX2_worth_143 : decode cX2_worth 143 = .ok (.iload 4, 2) := by decide +kernel
theorem dX2_worth_145 : decode cX2_worth 145 = .ok (.iconst 1, 1) := by decide +kernel
theorem dX2_worth_146 : decode cX2_worth 146 = .ok (.isub, 1) := by decide +kernel
theorem dX2_worth_147 : decode cX2_worth 147 = .ok (.iload 6, 2) := by decide +kernel
theorem dX2_worth_149 : decode cX2_worth 149 = .ok (.aload_n 3, 1) := by decide +kernel
theorem dX2_worth_150 : decode cX2_worth 150 = .ok (.iload 4, 2) := by decide +kernel
theorem dX2_worth_152 : decode cX2_worth 152 = .ok (.iconst 1, 1) := by decide +kernel
theorem dX2_worth_153 : decode cX2_worth 153 = .ok (.isub, 1) := by decide +kernel
theorem dX2_worth_154 : decode cX2_worth 154 = .ok (.iaload, 1) := by decide +kernel
theorem dX2_worth_155 : decode cX2_worth 155 = .ok (.aload_n 1, 1) := by decide +kernel
theorem dX2_worth_156 : decode cX2_worth 156 = .ok (.invokestatic 26, 3) := by decide +kernel
theorem dX2_worth_159 : decode cX2_worth 159 = .ok (.iastore, 1) := by decide +kernel
theorem dX2_worth_160 : decode cX2_worth 160 = .ok (.goto 35, 3) := by decide +kernel
theorem dX2_worth_163 : decode cX2_worth 163 = .ok (.iload 4, 2) := by decide +kernel
theorem dX2_worth_165 : decode cX2_worth 165 = .ok (.iconst 2, 1) := by decide +kernel
theorem dX2_worth_166 : decode cX2_worth 166 = .ok (.if_icmp .lt 29, 3) := by decide +kernel
theorem dX2_worth_169 : decode cX2_worth 169 = .ok (.aload_n 3, 1) := by decide +kernel
theorem dX2_worth_170 : decode cX2_worth 170 = .ok (.iload 4, 2) := by decide +kernel
theorem dX2_worth_172 : decode cX2_worth 172 = .ok (.iconst 2, 1) := by decide +kernel
theorem dX2_worth_173 : decode cX2_worth 173 = .ok (.isub, 1) := by decide +kernel
theorem dX2_worth_174 : decode cX2_worth 174 = .ok (.iload 6, 2) := by decide +kernel
theorem dX2_worth_176 : decode cX2_worth 176 = .ok (.aload_n 3, 1) := by decide +kernel
theorem dX2_worth_177 : decode cX2_worth 177 = .ok (.iload 4, 2) := by decide +kernel
theorem dX2_worth_179 : decode cX2_worth 179 = .ok (.iconst 2, 1) := by decide +kernel
theorem dX2_worth_180 : decode cX2_worth 180 = .ok (.isub, 1) := by decide +kernel
theorem dX2_worth_181 : decode cX2_worth 181 = .ok (.iaload, 1) := by decide +kernel
theorem dX2_worth_182 : decode cX2_worth 182 = .ok (.aload_n 3, 1) := by decide +kernel
theorem dX2_worth_183 : decode cX2_worth 183 = .ok (.iload 4, 2) := by decide +kernel
theorem dX2_worth_185 : decode cX2_worth 185 = .ok (.iconst 1, 1) := by decide +kernel
theorem dX2_worth_186 : decode cX2_worth 186 = .ok (.isub, 1) := by decide +kernel
theorem dX2_worth_187 : decode cX2_worth 187 = .ok (.iaload, 1) := by decide +kernel
theorem dX2_worth_188 : decode cX2_worth 188 = .ok (.invokestatic 30, 3) := by decide +kernel
theorem dX2_worth_191 : decode cX2_worth 191 = .ok (.iastore, 1) := by decide +kernel
theorem dX2_worth_192 : decode cX2_worth 192 = .ok (.iinc 4 (-1), 3) := by decide +kernel
theorem dX2_worth_195 : decode cX2_worth 195 = .ok (.iinc 5 1, 3) := by decide +kernel
theorem dX2_worth_198 : decode cX2_worth 198 = .ok (.goto (-192), 3) := by decide +kernel
theorem dX2_worth_201 : decode cX2_worth 201 = .ok (.iload 4, 2) := by decide +kernel
theorem dX2_worth_203 : decode cX2_worth 203 = .ok (.iconst 1, 1) := by decide +kernel
theorem dX2_worth_204 : decode cX2_worth 204 = .ok (.if_icmp .lt 12, 3) := by decide +kernel
theorem dX2_worth_207 : decode cX2_worth 207 = .ok (.aload_n 3, 1) := by decide +kernel
theorem dX2_worth_208 : decode cX2_worth 208 = .ok (.iload 4, 2) := by decide +kernel
theorem dX2_worth_210 : decode cX2_worth 210 = .ok (.iconst 1, 1) := by decide +kernel
theorem dX2_worth_211 : decode cX2_worth 211 = .ok (.isub, 1) := by decide +kernel
theorem dX2_worth_212 : decode cX2_worth 212 = .ok (.iaload, 1) := by decide +kernel
theorem dX2_worth_213 : decode cX2_worth 213 = .ok (.goto 4, 3) := by decide +kernel
theorem dX2_worth_216 : decode cX2_worth 216 = .ok (.iconst 0, 1) := by decide +kernel
theorem dX2_worth_217 : decode cX2_worth 217 = .ok (.ireturn, 1) := by decide +kernel
theorem dX2_named_0 : decode cX2_named 0 = .ok (.iload_n 0, 1) := by decide +kernel
theorem dX2_named_1 : decode cX2_named 1 = .ok (.tableswitch 71 8 13 #[39, 46, 44, 51, 59, 65], 39) := by decide +kernel
theorem dX2_named_40 : decode cX2_named 40 = .ok (.aload_n 1, 1) := by decide +kernel
theorem dX2_named_41 : decode cX2_named 41 = .ok (.invokevirtual 34, 3) := by decide +kernel
theorem dX2_named_44 : decode cX2_named 44 = .ok (.ireturn, 1) := by decide +kernel
theorem dX2_named_45 : decode cX2_named 45 = .ok (.iload_n 2, 1) := by decide +kernel
theorem dX2_named_46 : decode cX2_named 46 = .ok (.ireturn, 1) := by decide +kernel
theorem dX2_named_47 : decode cX2_named 47 = .ok (.aload_n 1, 1) := by decide +kernel
theorem dX2_named_48 : decode cX2_named 48 = .ok (.invokevirtual 40, 3) := by decide +kernel
theorem dX2_named_51 : decode cX2_named 51 = .ok (.ireturn, 1) := by decide +kernel
theorem dX2_named_52 : decode cX2_named 52 = .ok (.aload_n 1, 1) := by decide +kernel
theorem dX2_named_53 : decode cX2_named 53 = .ok (.invokevirtual 43, 3) := by decide +kernel
theorem dX2_named_56 : decode cX2_named 56 = .ok (.invokestatic 46, 3) := by decide +kernel
theorem dX2_named_59 : decode cX2_named 59 = .ok (.ireturn, 1) := by decide +kernel
theorem dX2_named_60 : decode cX2_named 60 = .ok (.aload_n 1, 1) := by decide +kernel
theorem dX2_named_61 : decode cX2_named 61 = .ok (.iload_n 2, 1) := by decide +kernel
theorem dX2_named_62 : decode cX2_named 62 = .ok (.invokevirtual 52, 3) := by decide +kernel
theorem dX2_named_65 : decode cX2_named 65 = .ok (.ireturn, 1) := by decide +kernel
theorem dX2_named_66 : decode cX2_named 66 = .ok (.aload_n 1, 1) := by decide +kernel
theorem dX2_named_67 : decode cX2_named 67 = .ok (.iload_n 2, 1) := by decide +kernel
theorem dX2_named_68 : decode cX2_named 68 = .ok (.invokevirtual 55, 3) := by decide +kernel
theorem dX2_named_71 : decode cX2_named 71 = .ok (.ireturn, 1) := by decide +kernel
theorem dX2_named_72 : decode cX2_named 72 = .ok (.aload_n 1, 1) := by decide +kernel
theorem dX2_named_73 : decode cX2_named 73 = .ok (.invokevirtual 58, 3) := by decide +kernel
theorem dX2_named_76 : decode cX2_named 76 = .ok (.ireturn, 1) := by decide +kernel
theorem dX2_takesOne_0 : decode cX2_takesOne 0 = .ok (.iload_n 0, 1) := by decide +kernel
theorem dX2_takesOne_1 : decode cX2_takesOne 1 = .ok (.bipush 51, 2) := by decide +kernel
theorem dX2_takesOne_3 : decode cX2_takesOne 3 = .ok (.if_icmp .eq 21, 3) := by decide +kernel
theorem dX2_takesOne_6 : decode cX2_takesOne 6 = .ok (.iload_n 0, 1) := by decide +kernel
theorem dX2_takesOne_7 : decode cX2_takesOne 7 = .ok (.bipush 23, 2) := by decide +kernel
theorem dX2_takesOne_9 : decode cX2_takesOne 9 = .ok (.if_icmp .eq 15, 3) := by decide +kernel
theorem dX2_takesOne_12 : decode cX2_takesOne 12 = .ok (.iload_n 0, 1) := by decide +kernel
theorem dX2_takesOne_13 : decode cX2_takesOne 13 = .ok (.bipush 15, 2) := by decide +kernel
theorem dX2_takesOne_15 : decode cX2_takesOne 15 = .ok (.if_icmp .eq 9, 3) := by decide +kernel
theorem dX2_takesOne_18 : decode cX2_takesOne 18 = .ok (.iload_n 0, 1) := by decide +kernel
theorem dX2_takesOne_19 : decode cX2_takesOne 19 = .ok (.bipush 16, 2) := by decide +kernel
theorem dX2_takesOne_21 : decode cX2_takesOne 21 = .ok (.if_icmp .ne 7, 3) := by decide +kernel
theorem dX2_takesOne_24 : decode cX2_takesOne 24 = .ok (.iconst 1, 1) := by decide +kernel
theorem dX2_takesOne_25 : decode cX2_takesOne 25 = .ok (.goto 4, 3) := by decide +kernel
theorem dX2_takesOne_28 : decode cX2_takesOne 28 = .ok (.iconst 0, 1) := by decide +kernel
theorem dX2_takesOne_29 : decode cX2_takesOne 29 = .ok (.ireturn, 1) := by decide +kernel
theorem dX2_ofOne_0 : decode cX2_ofOne 0 = .ok (.iload_n 0, 1) := by decide +kernel
theorem dX2_ofOne_1 : decode cX2_ofOne 1 = .ok (.lookupswitch 62 #[(15, 48), (23, 38), (51, 35)], 35) := by decide +kernel
theorem dX2_ofOne_36 : decode cX2_ofOne 36 = .ok (.iload_n 1, 1) := by decide +kernel
theorem dX2_ofOne_37 : decode cX2_ofOne 37 = .ok (.ineg, 1) := by decide +kernel
theorem dX2_ofOne_38 : decode cX2_ofOne 38 = .ok (.ireturn, 1) := by decide +kernel
theorem dX2_ofOne_39 : decode cX2_ofOne 39 = .ok (.iload_n 1, 1) := by decide +kernel
theorem dX2_ofOne_40 : decode cX2_ofOne 40 = .ok (.ifCond .ne 7, 3) := by decide +kernel
theorem dX2_ofOne_43 : decode cX2_ofOne 43 = .ok (.iconst 1, 1) := by decide +kernel
theorem dX2_ofOne_44 : decode cX2_ofOne 44 = .ok (.goto 4, 3) := by decide +kernel
theorem dX2_ofOne_47 : decode cX2_ofOne 47 = .ok (.iconst 0, 1) := by decide +kernel
theorem dX2_ofOne_48 : decode cX2_ofOne 48 = .ok (.ireturn, 1) := by decide +kernel
theorem dX2_ofOne_49 : decode cX2_ofOne 49 = .ok (.aload_n 2, 1) := by decide +kernel
theorem dX2_ofOne_50 : decode cX2_ofOne 50 = .ok (.iload_n 1, 1) := by decide +kernel
theorem dX2_ofOne_51 : decode cX2_ofOne 51 = .ok (.invokevirtual 61, 3) := by decide +kernel
theorem dX2_ofOne_54 : decode cX2_ofOne 54 = .ok (.ifCond .eq 7, 3) := by decide +kernel
theorem dX2_ofOne_57 : decode cX2_ofOne 57 = .ok (.iconst 1, 1) := by decide +kernel
theorem dX2_ofOne_58 : decode cX2_ofOne 58 = .ok (.goto 4, 3) := by decide +kernel
theorem dX2_ofOne_61 : decode cX2_ofOne 61 = .ok (.iconst 0, 1) := by decide +kernel
theorem dX2_ofOne_62 : decode cX2_ofOne 62 = .ok (.ireturn, 1) := by decide +kernel
theorem dX2_ofOne_63 : decode cX2_ofOne 63 = .ok (.aload_n 2, 1) := by decide +kernel
theorem dX2_ofOne_64 : decode cX2_ofOne 64 = .ok (.iload_n 1, 1) := by decide +kernel
theorem dX2_ofOne_65 : decode cX2_ofOne 65 = .ok (.invokevirtual 64, 3) := by decide +kernel
theorem dX2_ofOne_68 : decode cX2_ofOne 68 = .ok (.ifCond .eq 7, 3) := by decide +kernel
theorem dX2_ofOne_71 : decode cX2_ofOne 71 = .ok (.iconst 1, 1) := by decide +kernel
theorem dX2_ofOne_72 : decode cX2_ofOne 72 = .ok (.goto 4, 3) := by decide +kernel
theorem dX2_ofOne_75 : decode cX2_ofOne 75 = .ok (.iconst 0, 1) := by decide +kernel
theorem dX2_ofOne_76 : decode cX2_ofOne 76 = .ok (.ireturn, 1) := by decide +kernel
theorem dX2_ofTwo_0 : decode cX2_ofTwo 0 = .ok (.iload_n 0, 1) := by decide +kernel
theorem dX2_ofTwo_1 : decode cX2_ofTwo 1 = .ok (.tableswitch 80 34 37 #[31, 43, 55, 68], 31) := by decide +kernel
theorem dX2_ofTwo_32 : decode cX2_ofTwo 32 = .ok (.iload_n 1, 1) := by decide +kernel
theorem dX2_ofTwo_33 : decode cX2_ofTwo 33 = .ok (.iload_n 2, 1) := by decide +kernel
theorem dX2_ofTwo_34 : decode cX2_ofTwo 34 = .ok (.iadd, 1) := by decide +kernel
theorem dX2_ofTwo_35 : decode cX2_ofTwo 35 = .ok (.i2l, 1) := by decide +kernel
theorem dX2_ofTwo_36 : decode cX2_ofTwo 36 = .ok (.ldc 67, 2) := by decide +kernel
theorem dX2_ofTwo_38 : decode cX2_ofTwo 38 = .ok (.ldc 68, 2) := by decide +kernel
theorem dX2_ofTwo_40 : decode cX2_ofTwo 40 = .ok (.invokestatic 69, 3) := by decide +kernel
theorem dX2_ofTwo_43 : decode cX2_ofTwo 43 = .ok (.ireturn, 1) := by decide +kernel
theorem dX2_ofTwo_44 : decode cX2_ofTwo 44 = .ok (.iload_n 1, 1) := by decide +kernel
theorem dX2_ofTwo_45 : decode cX2_ofTwo 45 = .ok (.iload_n 2, 1) := by decide +kernel
theorem dX2_ofTwo_46 : decode cX2_ofTwo 46 = .ok (.isub, 1) := by decide +kernel
theorem dX2_ofTwo_47 : decode cX2_ofTwo 47 = .ok (.i2l, 1) := by decide +kernel
theorem dX2_ofTwo_48 : decode cX2_ofTwo 48 = .ok (.ldc 67, 2) := by decide +kernel
theorem dX2_ofTwo_50 : decode cX2_ofTwo 50 = .ok (.ldc 68, 2) := by decide +kernel
theorem dX2_ofTwo_52 : decode cX2_ofTwo 52 = .ok (.invokestatic 69, 3) := by decide +kernel
theorem dX2_ofTwo_55 : decode cX2_ofTwo 55 = .ok (.ireturn, 1) := by decide +kernel
theorem dX2_ofTwo_56 : decode cX2_ofTwo 56 = .ok (.iload_n 1, 1) := by decide +kernel
theorem dX2_ofTwo_57 : decode cX2_ofTwo 57 = .ok (.i2l, 1) := by decide +kernel
theorem dX2_ofTwo_58 : decode cX2_ofTwo 58 = .ok (.iload_n 2, 1) := by decide +kernel
theorem dX2_ofTwo_59 : decode cX2_ofTwo 59 = .ok (.i2l, 1) := by decide +kernel
theorem dX2_ofTwo_60 : decode cX2_ofTwo 60 = .ok (.lmul, 1) := by decide +kernel
theorem dX2_ofTwo_61 : decode cX2_ofTwo 61 = .ok (.ldc 67, 2) := by decide +kernel
theorem dX2_ofTwo_63 : decode cX2_ofTwo 63 = .ok (.ldc 68, 2) := by decide +kernel
theorem dX2_ofTwo_65 : decode cX2_ofTwo 65 = .ok (.invokestatic 69, 3) := by decide +kernel
theorem dX2_ofTwo_68 : decode cX2_ofTwo 68 = .ok (.ireturn, 1) := by decide +kernel
theorem dX2_ofTwo_69 : decode cX2_ofTwo 69 = .ok (.iload_n 2, 1) := by decide +kernel
theorem dX2_ofTwo_70 : decode cX2_ofTwo 70 = .ok (.ifCond .ne 7, 3) := by decide +kernel
theorem dX2_ofTwo_73 : decode cX2_ofTwo 73 = .ok (.iconst 0, 1) := by decide +kernel
theorem dX2_ofTwo_74 : decode cX2_ofTwo 74 = .ok (.goto 6, 3) := by decide +kernel
theorem dX2_ofTwo_77 : decode cX2_ofTwo 77 = .ok (.iload_n 1, 1) := by decide +kernel
theorem dX2_ofTwo_78 : decode cX2_ofTwo 78 = .ok (.iload_n 2, 1) := by decide +kernel
theorem dX2_ofTwo_79 : decode cX2_ofTwo 79 = .ok (.idiv, 1) := by decide +kernel
theorem dX2_ofTwo_80 : decode cX2_ofTwo 80 = .ok (.ireturn, 1) := by decide +kernel
theorem dX2_ofTwo_81 : decode cX2_ofTwo 81 = .ok (.iload_n 0, 1) := by decide +kernel
theorem dX2_ofTwo_82 : decode cX2_ofTwo 82 = .ok (.iload_n 1, 1) := by decide +kernel
theorem dX2_ofTwo_83 : decode cX2_ofTwo 83 = .ok (.iload_n 2, 1) := by decide +kernel
theorem dX2_ofTwo_84 : decode cX2_ofTwo 84 = .ok (.invokestatic 75, 3) := by decide +kernel
theorem dX2_ofTwo_87 : decode cX2_ofTwo 87 = .ok (.ifCond .eq 7, 3) := by decide +kernel
theorem dX2_ofTwo_90 : decode cX2_ofTwo 90 = .ok (.iconst 1, 1) := by decide +kernel
theorem dX2_ofTwo_91 : decode cX2_ofTwo 91 = .ok (.goto 4, 3) := by decide +kernel
theorem dX2_ofTwo_94 : decode cX2_ofTwo 94 = .ok (.iconst 0, 1) := by decide +kernel
theorem dX2_ofTwo_95 : decode cX2_ofTwo 95 = .ok (.ireturn, 1) := by decide +kernel
theorem dX2_holdsOfTwo_0 : decode cX2_holdsOfTwo 0 = .ok (.iload_n 0, 1) := by decide +kernel
theorem dX2_holdsOfTwo_1 : decode cX2_holdsOfTwo 1 = .ok (.tableswitch 179 22 42 #[165, 179, 179, 179, 179, 179, 179, 179, 99, 121, 143, 154, 179, 179, 179, 179, 179, 179, 179, 110, 132], 99) := by decide +kernel
theorem dX2_holdsOfTwo_100 : decode cX2_holdsOfTwo 100 = .ok (.iload_n 1, 1) := by decide +kernel
theorem dX2_holdsOfTwo_101 : decode cX2_holdsOfTwo 101 = .ok (.iload_n 2, 1) := by decide +kernel
theorem dX2_holdsOfTwo_102 : decode cX2_holdsOfTwo 102 = .ok (.if_icmp .ge 7, 3) := by decide +kernel
theorem dX2_holdsOfTwo_105 : decode cX2_holdsOfTwo 105 = .ok (.iconst 1, 1) := by decide +kernel
theorem dX2_holdsOfTwo_106 : decode cX2_holdsOfTwo 106 = .ok (.goto 4, 3) := by decide +kernel
theorem dX2_holdsOfTwo_109 : decode cX2_holdsOfTwo 109 = .ok (.iconst 0, 1) := by decide +kernel
theorem dX2_holdsOfTwo_110 : decode cX2_holdsOfTwo 110 = .ok (.ireturn, 1) := by decide +kernel
theorem dX2_holdsOfTwo_111 : decode cX2_holdsOfTwo 111 = .ok (.iload_n 1, 1) := by decide +kernel
theorem dX2_holdsOfTwo_112 : decode cX2_holdsOfTwo 112 = .ok (.iload_n 2, 1) := by decide +kernel
theorem dX2_holdsOfTwo_113 : decode cX2_holdsOfTwo 113 = .ok (.if_icmp .gt 7, 3) := by decide +kernel
theorem dX2_holdsOfTwo_116 : decode cX2_holdsOfTwo 116 = .ok (.iconst 1, 1) := by decide +kernel
theorem dX2_holdsOfTwo_117 : decode cX2_holdsOfTwo 117 = .ok (.goto 4, 3) := by decide +kernel
theorem dX2_holdsOfTwo_120 : decode cX2_holdsOfTwo 120 = .ok (.iconst 0, 1) := by decide +kernel
theorem dX2_holdsOfTwo_121 : decode cX2_holdsOfTwo 121 = .ok (.ireturn, 1) := by decide +kernel
theorem dX2_holdsOfTwo_122 : decode cX2_holdsOfTwo 122 = .ok (.iload_n 1, 1) := by decide +kernel
theorem dX2_holdsOfTwo_123 : decode cX2_holdsOfTwo 123 = .ok (.iload_n 2, 1) := by decide +kernel
theorem dX2_holdsOfTwo_124 : decode cX2_holdsOfTwo 124 = .ok (.if_icmp .le 7, 3) := by decide +kernel
theorem dX2_holdsOfTwo_127 : decode cX2_holdsOfTwo 127 = .ok (.iconst 1, 1) := by decide +kernel
theorem dX2_holdsOfTwo_128 : decode cX2_holdsOfTwo 128 = .ok (.goto 4, 3) := by decide +kernel
theorem dX2_holdsOfTwo_131 : decode cX2_holdsOfTwo 131 = .ok (.iconst 0, 1) := by decide +kernel
theorem dX2_holdsOfTwo_132 : decode cX2_holdsOfTwo 132 = .ok (.ireturn, 1) := by decide +kernel
theorem dX2_holdsOfTwo_133 : decode cX2_holdsOfTwo 133 = .ok (.iload_n 1, 1) := by decide +kernel
theorem dX2_holdsOfTwo_134 : decode cX2_holdsOfTwo 134 = .ok (.iload_n 2, 1) := by decide +kernel
theorem dX2_holdsOfTwo_135 : decode cX2_holdsOfTwo 135 = .ok (.if_icmp .lt 7, 3) := by decide +kernel
theorem dX2_holdsOfTwo_138 : decode cX2_holdsOfTwo 138 = .ok (.iconst 1, 1) := by decide +kernel
theorem dX2_holdsOfTwo_139 : decode cX2_holdsOfTwo 139 = .ok (.goto 4, 3) := by decide +kernel
theorem dX2_holdsOfTwo_142 : decode cX2_holdsOfTwo 142 = .ok (.iconst 0, 1) := by decide +kernel
theorem dX2_holdsOfTwo_143 : decode cX2_holdsOfTwo 143 = .ok (.ireturn, 1) := by decide +kernel
theorem dX2_holdsOfTwo_144 : decode cX2_holdsOfTwo 144 = .ok (.iload_n 1, 1) := by decide +kernel
theorem dX2_holdsOfTwo_145 : decode cX2_holdsOfTwo 145 = .ok (.iload_n 2, 1) := by decide +kernel
theorem dX2_holdsOfTwo_146 : decode cX2_holdsOfTwo 146 = .ok (.if_icmp .ne 7, 3) := by decide +kernel
theorem dX2_holdsOfTwo_149 : decode cX2_holdsOfTwo 149 = .ok (.iconst 1, 1) := by decide +kernel
theorem dX2_holdsOfTwo_150 : decode cX2_holdsOfTwo 150 = .ok (.goto 4, 3) := by decide +kernel
theorem dX2_holdsOfTwo_153 : decode cX2_holdsOfTwo 153 = .ok (.iconst 0, 1) := by decide +kernel
theorem dX2_holdsOfTwo_154 : decode cX2_holdsOfTwo 154 = .ok (.ireturn, 1) := by decide +kernel
theorem dX2_holdsOfTwo_155 : decode cX2_holdsOfTwo 155 = .ok (.iload_n 1, 1) := by decide +kernel
theorem dX2_holdsOfTwo_156 : decode cX2_holdsOfTwo 156 = .ok (.iload_n 2, 1) := by decide +kernel
theorem dX2_holdsOfTwo_157 : decode cX2_holdsOfTwo 157 = .ok (.if_icmp .eq 7, 3) := by decide +kernel
theorem dX2_holdsOfTwo_160 : decode cX2_holdsOfTwo 160 = .ok (.iconst 1, 1) := by decide +kernel
theorem dX2_holdsOfTwo_161 : decode cX2_holdsOfTwo 161 = .ok (.goto 4, 3) := by decide +kernel
theorem dX2_holdsOfTwo_164 : decode cX2_holdsOfTwo 164 = .ok (.iconst 0, 1) := by decide +kernel
theorem dX2_holdsOfTwo_165 : decode cX2_holdsOfTwo 165 = .ok (.ireturn, 1) := by decide +kernel
theorem dX2_holdsOfTwo_166 : decode cX2_holdsOfTwo 166 = .ok (.iload_n 1, 1) := by decide +kernel
theorem dX2_holdsOfTwo_167 : decode cX2_holdsOfTwo 167 = .ok (.ifCond .eq 11, 3) := by decide +kernel
theorem dX2_holdsOfTwo_170 : decode cX2_holdsOfTwo 170 = .ok (.iload_n 2, 1) := by decide +kernel
theorem dX2_holdsOfTwo_171 : decode cX2_holdsOfTwo 171 = .ok (.ifCond .eq 7, 3) := by decide +kernel
theorem dX2_holdsOfTwo_174 : decode cX2_holdsOfTwo 174 = .ok (.iconst 1, 1) := by decide +kernel
theorem dX2_holdsOfTwo_175 : decode cX2_holdsOfTwo 175 = .ok (.goto 4, 3) := by decide +kernel
theorem dX2_holdsOfTwo_178 : decode cX2_holdsOfTwo 178 = .ok (.iconst 0, 1) := by decide +kernel
theorem dX2_holdsOfTwo_179 : decode cX2_holdsOfTwo 179 = .ok (.ireturn, 1) := by decide +kernel
theorem dX2_holdsOfTwo_180 : decode cX2_holdsOfTwo 180 = .ok (.iload_n 1, 1) := by decide +kernel
theorem dX2_holdsOfTwo_181 : decode cX2_holdsOfTwo 181 = .ok (.ifCond .ne 7, 3) := by decide +kernel
theorem dX2_holdsOfTwo_184 : decode cX2_holdsOfTwo 184 = .ok (.iload_n 2, 1) := by decide +kernel
theorem dX2_holdsOfTwo_185 : decode cX2_holdsOfTwo 185 = .ok (.ifCond .eq 7, 3) := by decide +kernel
theorem dX2_holdsOfTwo_188 : decode cX2_holdsOfTwo 188 = .ok (.iconst 1, 1) := by decide +kernel
theorem dX2_holdsOfTwo_189 : decode cX2_holdsOfTwo 189 = .ok (.goto 4, 3) := by decide +kernel
theorem dX2_holdsOfTwo_192 : decode cX2_holdsOfTwo 192 = .ok (.iconst 0, 1) := by decide +kernel
theorem dX2_holdsOfTwo_193 : decode cX2_holdsOfTwo 193 = .ok (.ireturn, 1) := by decide +kernel
theorem dX3_init_0 : decode cX3_init 0 = .ok (.aload_n 0, 1) := by decide +kernel
theorem dX3_init_1 : decode cX3_init 1 = .ok (.invokespecial 3, 3) := by decide +kernel
theorem dX3_init_4 : decode cX3_init 4 = .ok (.aload_n 0, 1) := by decide +kernel
theorem dX3_init_5 : decode cX3_init 5 = .ok (.new 9, 3) := by decide +kernel
theorem dX3_init_8 : decode cX3_init 8 = .ok (.dup, 1) := by decide +kernel
theorem dX3_init_9 : decode cX3_init 9 = .ok (.invokespecial 11, 3) := by decide +kernel
theorem dX3_init_12 : decode cX3_init 12 = .ok (.putfield 12, 3) := by decide +kernel
theorem dX3_init_15 : decode cX3_init 15 = .ok (.aload_n 0, 1) := by decide +kernel
theorem dX3_init_16 : decode cX3_init 16 = .ok (.bipush 24, 2) := by decide +kernel
theorem dX3_init_18 : decode cX3_init 18 = .ok (.newarray .int, 2) := by decide +kernel
theorem dX3_init_20 : decode cX3_init 20 = .ok (.putfield 18, 3) := by decide +kernel
theorem dX3_init_23 : decode cX3_init 23 = .ok (.aload_n 0, 1) := by decide +kernel
theorem dX3_init_24 : decode cX3_init 24 = .ok (.bipush 24, 2) := by decide +kernel
theorem dX3_init_26 : decode cX3_init 26 = .ok (.newarray .int, 2) := by decide +kernel
theorem dX3_init_28 : decode cX3_init 28 = .ok (.putfield 22, 3) := by decide +kernel
theorem dX3_init_31 : decode cX3_init 31 = .ok (.aload_n 0, 1) := by decide +kernel
theorem dX3_init_32 : decode cX3_init 32 = .ok (.bipush 24, 2) := by decide +kernel
theorem dX3_init_34 : decode cX3_init 34 = .ok (.newarray .int, 2) := by decide +kernel
theorem dX3_init_36 : decode cX3_init 36 = .ok (.putfield 25, 3) := by decide +kernel
theorem dX3_init_39 : decode cX3_init 39 = .ok (.aload_n 0, 1) := by decide +kernel
theorem dX3_init_40 : decode cX3_init 40 = .ok (.sipush 300, 3) := by decide +kernel
theorem dX3_init_43 : decode cX3_init 43 = .ok (.newarray .int, 2) := by decide +kernel
theorem dX3_init_45 : decode cX3_init 45 = .ok (.putfield 28, 3) := by decide +kernel
theorem dX3_init_48 : decode cX3_init 48 = .ok (.aload_n 0, 1) := by decide +kernel
theorem dX3_init_49 : decode cX3_init 49 = .ok (.iconst 0, 1) := by decide +kernel
theorem dX3_init_50 : decode cX3_init 50 = .ok (.putfield 31, 3) := by decide +kernel
theorem dX3_init_53 : decode cX3_init 53 = .ok (.aload_n 0, 1) := by decide +kernel
theorem dX3_init_54 : decode cX3_init 54 = .ok (.iconst 0, 1) := by decide +kernel
theorem dX3_init_55 : decode cX3_init 55 = .ok (.putfield 35, 3) := by decide +kernel
theorem dX3_init_58 : decode cX3_init 58 = .ok (.aload_n 0, 1) := by decide +kernel
theorem dX3_init_59 : decode cX3_init 59 = .ok (.iconst 0, 1) := by decide +kernel
theorem dX3_init_60 : decode cX3_init 60 = .ok (.putfield 38, 3) := by decide +kernel
theorem dX3_init_63 : decode cX3_init 63 = .ok (.aload_n 0, 1) := by decide +kernel
theorem dX3_init_64 : decode cX3_init 64 = .ok (.aconst_null, 1) := by decide +kernel
theorem dX3_init_65 : decode cX3_init 65 = .ok (.putfield 41, 3) := by decide +kernel
theorem dX3_init_68 : decode cX3_init 68 = .ok (.aload_n 0, 1) := by decide +kernel
theorem dX3_init_69 : decode cX3_init 69 = .ok (.aconst_null, 1) := by decide +kernel
theorem dX3_init_70 : decode cX3_init 70 = .ok (.putfield 45, 3) := by decide +kernel
theorem dX3_init_73 : decode cX3_init 73 = .ok (.aload_n 0, 1) := by decide +kernel
theorem dX3_init_74 : decode cX3_init 74 = .ok (.iconst (-1), 1) := by decide +kernel
theorem dX3_init_75 : decode cX3_init 75 = .ok (.putfield 48, 3) := by decide +kernel
theorem dX3_init_78 : decode cX3_init 78 = .ok (.aload_n 0, 1) := by decide +kernel
theorem dX3_init_79 : decode cX3_init 79 = .ok (.iconst (-1), 1) := by decide +kernel
theorem dX3_init_80 : decode cX3_init 80 = .ok (.putfield 51, 3) := by decide +kernel
theorem dX3_init_83 : decode cX3_init 83 = .ok (.return_, 1) := by decide +kernel
theorem dX3_read_0 : decode cX3_read 0 = .ok (.aload_n 0, 1) := by decide +kernel
theorem dX3_read_1 : decode cX3_read 1 = .ok (.iconst 0, 1) := by decide +kernel
theorem dX3_read_2 : decode cX3_read 2 = .ok (.putfield 48, 3) := by decide +kernel
theorem dX3_read_5 : decode cX3_read 5 = .ok (.aload_n 0, 1) := by decide +kernel
theorem dX3_read_6 : decode cX3_read 6 = .ok (.iconst (-1), 1) := by decide +kernel
theorem dX3_read_7 : decode cX3_read 7 = .ok (.putfield 51, 3) := by decide +kernel
theorem dX3_read_10 : decode cX3_read 10 = .ok (.aload_n 0, 1) := by decide +kernel
theorem dX3_read_11 : decode cX3_read 11 = .ok (.iconst 0, 1) := by decide +kernel
theorem dX3_read_12 : decode cX3_read 12 = .ok (.putfield 31, 3) := by decide +kernel
theorem dX3_read_15 : decode cX3_read 15 = .ok (.aload_n 0, 1) := by decide +kernel
theorem dX3_read_16 : decode cX3_read 16 = .ok (.aconst_null, 1) := by decide +kernel
theorem dX3_read_17 : decode cX3_read 17 = .ok (.putfield 41, 3) := by decide +kernel
theorem dX3_read_20 : decode cX3_read 20 = .ok (.aload_n 0, 1) := by decide +kernel
theorem dX3_read_21 : decode cX3_read 21 = .ok (.aconst_null, 1) := by decide +kernel
theorem dX3_read_22 : decode cX3_read 22 = .ok (.putfield 45, 3) := by decide +kernel
theorem dX3_read_25 : decode cX3_read 25 = .ok (.aload_n 0, 1) := by decide +kernel
theorem dX3_read_26 : decode cX3_read 26 = .ok (.getfield 12, 3) := by decide +kernel
theorem dX3_read_29 : decode cX3_read 29 = .ok (.aload_n 1, 1) := by decide +kernel
theorem dX3_read_30 : decode cX3_read 30 = .ok (.invokevirtual 54, 3) := by decide +kernel
theorem dX3_read_33 : decode cX3_read 33 = .ok (.iconst 0, 1) := by decide +kernel
theorem dX3_read_34 : decode cX3_read 34 = .ok (.istore_n 2, 1) := by decide +kernel
theorem dX3_read_35 : decode cX3_read 35 = .ok (.iload_n 2, 1) := by decide +kernel
theorem dX3_read_36 : decode cX3_read 36 = .ok (.bipush 24, 2) := by decide +kernel
theorem dX3_read_38 : decode cX3_read 38 = .ok (.if_icmp .gt 31, 3) := by decide +kernel
theorem dX3_read_41 : decode cX3_read 41 = .ok (.aload_n 0, 1) := by decide +kernel
theorem dX3_read_42 : decode cX3_read 42 = .ok (.getfield 48, 3) := by decide +kernel
theorem dX3_read_45 : decode cX3_read 45 = .ok (.ifCond .ne 24, 3) := by decide +kernel
theorem dX3_read_48 : decode cX3_read 48 = .ok (.aload_n 0, 1) := by decide +kernel
theorem dX3_read_49 : decode cX3_read 49 = .ok (.getfield 12, 3) := by decide +kernel
theorem dX3_read_52 : decode cX3_read 52 = .ok (.invokevirtual 58, 3) := by decide +kernel
theorem dX3_read_55 : decode cX3_read 55 = .ok (.iconst 1, 1) := by decide +kernel
theorem dX3_read_56 : decode cX3_read 56 = .ok (.if_icmp .eq 13, 3) := by decide +kernel
theorem dX3_read_59 : decode cX3_read 59 = .ok (.aload_n 0, 1) := by decide +kernel
theorem dX3_read_60 : decode cX3_read 60 = .ok (.invokevirtual 62, 3) := by decide +kernel
theorem dX3_read_63 : decode cX3_read 63 = .ok (.iinc 2 1, 3) := by decide +kernel
theorem dX3_read_66 : decode cX3_read 66 = .ok (.goto (-31), 3) := by decide +kernel
theorem dX3_read_69 : decode cX3_read 69 = .ok (.aload_n 0, 1) := by decide +kernel
theorem dX3_read_70 : decode cX3_read 70 = .ok (.getfield 48, 3) := by decide +kernel
theorem dX3_read_73 : decode cX3_read 73 = .ok (.ifCond .eq 16, 3) := by decide +kernel
theorem dX3_read_76 : decode cX3_read 76 = .ok (.aload_n 0, 1) := by decide +kernel
theorem dX3_read_77 : decode cX3_read 77 = .ok (.aload_n 0, 1) := by decide +kernel
theorem dX3_read_78 : decode cX3_read 78 = .ok (.getfield 12, 3) := by decide +kernel
theorem dX3_read_81 : decode cX3_read 81 = .ok (.invokevirtual 65, 3) := by decide +kernel
theorem dX3_read_84 : decode cX3_read 84 = .ok (.putfield 51, 3) := by decide +kernel
theorem dX3_read_87 : decode cX3_read 87 = .ok (.aconst_null, 1) := by decide +kernel
theorem dX3_read_88 : decode cX3_read 88 = .ok (.areturn, 1) := by decide +kernel
theorem dX3_read_89 : decode cX3_read 89 = .ok (.new 68, 3) := by decide +kernel
theorem dX3_read_92 : decode cX3_read 92 = .ok (.dup, 1) := by decide +kernel
theorem dX3_read_93 : decode cX3_read 93 = .ok (.aload_n 0, 1) := by decide +kernel
theorem dX3_read_94 : decode cX3_read 94 = .ok (.getfield 18, 3) := by decide +kernel
theorem dX3_read_97 : decode cX3_read 97 = .ok (.aload_n 0, 1) := by decide +kernel
theorem dX3_read_98 : decode cX3_read 98 = .ok (.getfield 31, 3) := by decide +kernel
theorem dX3_read_101 : decode cX3_read 101 = .ok (.invokestatic 70, 3) := by decide +kernel
theorem dX3_read_104 : decode cX3_read 104 = .ok (.aload_n 0, 1) := by decide +kernel
theorem dX3_read_105 : decode cX3_read 105 = .ok (.getfield 22, 3) := by decide +kernel
theorem dX3_read_108 : decode cX3_read 108 = .ok (.aload_n 0, 1) := by decide +kernel
theorem dX3_read_109 : decode cX3_read 109 = .ok (.getfield 31, 3) := by decide +kernel
theorem dX3_read_112 : decode cX3_read 112 = .ok (.invokestatic 70, 3) := by decide +kernel
theorem dX3_read_115 : decode cX3_read 115 = .ok (.aload_n 0, 1) := by decide +kernel
theorem dX3_read_116 : decode cX3_read 116 = .ok (.getfield 25, 3) := by decide +kernel
theorem dX3_read_119 : decode cX3_read 119 = .ok (.aload_n 0, 1) := by decide +kernel
theorem dX3_read_120 : decode cX3_read 120 = .ok (.getfield 31, 3) := by decide +kernel
theorem dX3_read_123 : decode cX3_read 123 = .ok (.invokestatic 70, 3) := by decide +kernel
theorem dX3_read_126 : decode cX3_read 126 = .ok (.aload_n 0, 1) := by decide +kernel
theorem dX3_read_127 : decode cX3_read 127 = .ok (.getfield 41, 3) := by decide +kernel
theorem dX3_read_130 : decode cX3_read 130 = .ok (.aload_n 0, 1) := by decide +kernel
theorem dX3_read_131 : decode cX3_read 131 = .ok (.getfield 45, 3) := by decide +kernel
theorem dX3_read_134 : decode cX3_read 134 = .ok (.invokespecial 76, 3) := by decide +kernel
theorem dX3_read_137 : decode cX3_read 137 = .ok (.areturn, 1) := by decide +kernel
theorem dX3_refuse_0 : decode cX3_refuse 0 = .ok (.aload_n 0, 1) := by decide +kernel
theorem dX3_refuse_1 : decode cX3_refuse 1 = .ok (.getfield 48, 3) := by decide +kernel
theorem dX3_refuse_4 : decode cX3_refuse 4 = .ok (.ifCond .ne 8, 3) := by decide +kernel
theorem dX3_refuse_7 : decode cX3_refuse 7 = .ok (.aload_n 0, 1) := by decide +kernel
theorem dX3_refuse_8 : decode cX3_refuse 8 = .ok (.iload_n 1, 1) := by decide +kernel
theorem dX3_refuse_9 : decode cX3_refuse 9 = .ok (.putfield 48, 3) := by decide +kernel
theorem dX3_refuse_12 : decode cX3_refuse 12 = .ok (.return_, 1) := by decide +kernel
theorem dX3_readClause_0 : decode cX3_readClause 0 = .ok (.aload_n 0, 1) := by decide +kernel
theorem dX3_readClause_1 : decode cX3_readClause 1 = .ok (.getfield 12, 3) := by decide +kernel
theorem dX3_readClause_4 : decode cX3_readClause 4 = .ok (.invokevirtual 58, 3) := by decide +kernel
theorem dX3_readClause_7 : decode cX3_readClause 7 = .ok (.istore_n 1, 1) := by decide +kernel
theorem dX3_readClause_8 : decode cX3_readClause 8 = .ok (.iload_n 1, 1) := by decide +kernel
theorem dX3_readClause_9 : decode cX3_readClause 9 = .ok (.iconst 3, 1) := by decide +kernel
theorem dX3_readClause_10 : decode cX3_readClause 10 = .ok (.if_icmp .lt 9, 3) := by decide +kernel
theorem dX3_readClause_13 : decode cX3_readClause 13 = .ok (.iload_n 1, 1) := by decide +kernel
theorem dX3_readClause_14 : decode cX3_readClause 14 = .ok (.bipush 9, 2) := by decide +kernel
theorem dX3_readClause_16 : decode cX3_readClause 16 = .ok (.if_icmp .le 11, 3) := by decide +kernel
theorem dX3_readClause_19 : decode cX3_readClause 19 = .ok (.aload_n 0, 1) := by decide +kernel
theorem dX3_readClause_20 : decode cX3_readClause 20 = .ok (.iconst 1, 1) := by decide +kernel
theorem dX3_readClause_21 : decode cX3_readClause 21 = .ok (.invokevirtual 79, 3) := by decide +kernel
theorem dX3_readClause_24 : decode cX3_readClause 24 = .ok (.goto 111, 3) := by decide +kernel
theorem dX3_readClause_27 : decode cX3_readClause 27 = .ok (.iload_n 1, 1) := by decide +kernel
theorem dX3_readClause_28 : decode cX3_readClause 28 = .ok (.iconst 3, 1) := by decide +kernel
theorem dX3_readClause_29 : decode cX3_readClause 29 = .ok (.if_icmp .ne 10, 3) := by decide +kernel
theorem dX3_readClause_32 : decode cX3_readClause 32 = .ok (.aload_n 0, 1) := by decide +kernel
theorem dX3_readClause_33 : decode cX3_readClause 33 = .ok (.getfield 41, 3) := by decide +kernel
theorem dX3_readClause_36 : decode cX3_readClause 36 = .ok (.ifnonnull 15, 3) := by decide +kernel
theorem dX3_readClause_39 : decode cX3_readClause 39 = .ok (.iload_n 1, 1) := by decide +kernel
theorem dX3_readClause_40 : decode cX3_readClause 40 = .ok (.iconst 4, 1) := by decide +kernel
theorem dX3_readClause_41 : decode cX3_readClause 41 = .ok (.if_icmp .ne 18, 3) := by decide +kernel
theorem dX3_readClause_44 : decode cX3_readClause 44 = .ok (.aload_n 0, 1) := by decide +kernel
theorem dX3_readClause_45 : decode cX3_readClause 45 = .ok (.getfield 45, 3) := by decide +kernel
theorem dX3_readClause_48 : decode cX3_readClause 48 = .ok (.ifnull 11, 3) := by decide +kernel
theorem dX3_readClause_51 : decode cX3_readClause 51 = .ok (.aload_n 0, 1) := by decide +kernel
theorem dX3_readClause_52 : decode cX3_readClause 52 = .ok (.iconst 4, 1) := by decide +kernel
theorem dX3_readClause_53 : decode cX3_readClause 53 = .ok (.invokevirtual 79, 3) := by decide +kernel
theorem dX3_readClause_56 : decode cX3_readClause 56 = .ok (.goto 79, 3) := by decide +kernel
theorem dX3_readClause_59 : decode cX3_readClause 59 = .ok (.aload_n 0, 1) := by decide +kernel
theorem dX3_readClause_60 : decode cX3_readClause 60 = .ok (.getfield 31, 3) := by decide +kernel
theorem dX3_readClause_63 : decode cX3_readClause 63 = .ok (.bipush 24, 2) := by decide +kernel
theorem dX3_readClause_65 : decode cX3_readClause 65 = .ok (.if_icmp .lt 12, 3) := by decide +kernel
theorem dX3_readClause_68 : decode cX3_readClause 68 = .ok (.aload_n 0, 1) := by decide +kernel
theorem dX3_readClause_69 : decode cX3_readClause 69 = .ok (.bipush 6, 2) := by decide +kernel
theorem dX3_readClause_71 : decode cX3_readClause 71 = .ok (.invokevirtual 79, 3) := by decide +kernel
theorem dX3_readClause_74 : decode cX3_readClause 74 = .ok (.goto 61, 3) := by decide +kernel
theorem dX3_readClause_77 : decode cX3_readClause 77 = .ok (.aload_n 0, 1) := by decide +kernel
theorem dX3_readClause_78 : decode cX3_readClause 78 = .ok (.getfield 18, 3) := by decide +kernel
theorem dX3_readClause_81 : decode cX3_readClause 81 = .ok (.aload_n 0, 1) := by decide +kernel
theorem dX3_readClause_82 : decode cX3_readClause 82 = .ok (.getfield 31, 3) := by decide +kernel
theorem dX3_readClause_85 : decode cX3_readClause 85 = .ok (.iload_n 1, 1) := by decide +kernel
theorem dX3_readClause_86 : decode cX3_readClause 86 = .ok (.iastore, 1) := by decide +kernel
theorem dX3_readClause_87 : decode cX3_readClause 87 = .ok (.aload_n 0, 1) := by decide +kernel
theorem dX3_readClause_88 : decode cX3_readClause 88 = .ok (.getfield 22, 3) := by decide +kernel
theorem dX3_readClause_91 : decode cX3_readClause 91 = .ok (.aload_n 0, 1) := by decide +kernel
theorem dX3_readClause_92 : decode cX3_readClause 92 = .ok (.getfield 31, 3) := by decide +kernel
theorem dX3_readClause_95 : decode cX3_readClause 95 = .ok (.iconst 0, 1) := by decide +kernel
theorem dX3_readClause_96 : decode cX3_readClause 96 = .ok (.iastore, 1) := by decide +kernel
theorem dX3_readClause_97 : decode cX3_readClause 97 = .ok (.aload_n 0, 1) := by decide +kernel
theorem dX3_readClause_98 : decode cX3_readClause 98 = .ok (.getfield 25, 3) := by decide +kernel
theorem dX3_readClause_101 : decode cX3_readClause 101 = .ok (.aload_n 0, 1) := by decide +kernel
theorem dX3_readClause_102 : decode cX3_readClause 102 = .ok (.getfield 31, 3) := by decide +kernel
theorem dX3_readClause_105 : decode cX3_readClause 105 = .ok (.iconst 0, 1) := by decide +kernel
theorem dX3_readClause_106 : decode cX3_readClause 106 = .ok (.iastore, 1) := by decide +kernel
theorem dX3_readClause_107 : decode cX3_readClause 107 = .ok (.aload_n 0, 1) := by decide +kernel
theorem dX3_readClause_108 : decode cX3_readClause 108 = .ok (.getfield 12, 3) := by decide +kernel
theorem dX3_readClause_111 : decode cX3_readClause 111 = .ok (.invokevirtual 83, 3) := by decide +kernel
theorem dX3_readClause_114 : decode cX3_readClause 114 = .ok (.aload_n 0, 1) := by decide +kernel
theorem dX3_readClause_115 : decode cX3_readClause 115 = .ok (.iload_n 1, 1) := by decide +kernel
theorem dX3_readClause_116 : decode cX3_readClause 116 = .ok (.invokevirtual 86, 3) := by decide +kernel
theorem dX3_readClause_119 : decode cX3_readClause 119 = .ok (.aload_n 0, 1) := by decide +kernel
theorem dX3_readClause_120 : decode cX3_readClause 120 = .ok (.bipush 40, 2) := by decide +kernel
theorem dX3_readClause_122 : decode cX3_readClause 122 = .ok (.invokevirtual 89, 3) := by decide +kernel
theorem dX3_readClause_125 : decode cX3_readClause 125 = .ok (.aload_n 0, 1) := by decide +kernel
theorem dX3_readClause_126 : decode cX3_readClause 126 = .ok (.dup, 1) := by decide +kernel
theorem dX3_readClause_127 : decode cX3_readClause 127 = .ok (.getfield 31, 3) := by decide +kernel
theorem dX3_readClause_130 : decode cX3_readClause 130 = .ok (.iconst 1, 1) := by decide +kernel
theorem dX3_readClause_131 : decode cX3_readClause 131 = .ok (.iadd, 1) := by decide +kernel
theorem dX3_readClause_132 : decode cX3_readClause 132 = .ok (.putfield 31, 3) := by decide +kernel
theorem dX3_readClause_135 : decode cX3_readClause 135 = .ok (.return_, 1) := by decide +kernel
theorem dX3_readRest_0 : decode cX3_readRest 0 = .ok (.iload_n 1, 1) := by decide +kernel
theorem dX3_readRest_1 : decode cX3_readRest 1 = .ok (.tableswitch 165 3 9 #[43, 55, 86, 127, 165, 146, 67], 43) := by decide +kernel
theorem dX3_readRest_44 : decode cX3_readRest 44 = .ok (.aload_n 0, 1) := by decide +kernel
theorem dX3_readRest_45 : decode cX3_readRest 45 = .ok (.aload_n 0, 1) := by decide +kernel
theorem dX3_readRest_46 : decode cX3_readRest 46 = .ok (.iload_n 1, 1) := by decide +kernel
theorem dX3_readRest_47 : decode cX3_readRest 47 = .ok (.invokevirtual 92, 3) := by decide +kernel
theorem dX3_readRest_50 : decode cX3_readRest 50 = .ok (.putfield 41, 3) := by decide +kernel
theorem dX3_readRest_53 : decode cX3_readRest 53 = .ok (.goto 113, 3) := by decide +kernel
theorem dX3_readRest_56 : decode cX3_readRest 56 = .ok (.aload_n 0, 1) := by decide +kernel
theorem dX3_readRest_57 : decode cX3_readRest 57 = .ok (.aload_n 0, 1) := by decide +kernel
theorem dX3_readRest_58 : decode cX3_readRest 58 = .ok (.iload_n 1, 1) := by decide +kernel
theorem dX3_readRest_59 : decode cX3_readRest 59 = .ok (.invokevirtual 92, 3) := by decide +kernel
theorem dX3_readRest_62 : decode cX3_readRest 62 = .ok (.putfield 45, 3) := by decide +kernel
theorem dX3_readRest_65 : decode cX3_readRest 65 = .ok (.goto 101, 3) := by decide +kernel
theorem dX3_readRest_68 : decode cX3_readRest 68 = .ok (.aload_n 0, 1) := by decide +kernel
theorem dX3_readRest_69 : decode cX3_readRest 69 = .ok (.getfield 22, 3) := by decide +kernel
theorem dX3_readRest_72 : decode cX3_readRest 72 = .ok (.aload_n 0, 1) := by decide +kernel
theorem dX3_readRest_73 : decode cX3_readRest 73 = .ok (.getfield 31, 3) := by decide +kernel
theorem dX3_readRest_76 : decode cX3_readRest 76 = .ok (.aload_n 0, 1) := by decide +kernel
theorem dX3_readRest_77 : decode cX3_readRest 77 = .ok (.iconst 1, 1) := by decide +kernel
theorem dX3_readRest_78 : decode cX3_readRest 78 = .ok (.bipush 16, 2) := by decide +kernel
theorem dX3_readRest_80 : decode cX3_readRest 80 = .ok (.invokevirtual 96, 3) := by decide +kernel
theorem dX3_readRest_83 : decode cX3_readRest 83 = .ok (.iastore, 1) := by decide +kernel
theorem dX3_readRest_84 : decode cX3_readRest 84 = .ok (.goto 82, 3) := by decide +kernel
theorem dX3_readRest_87 : decode cX3_readRest 87 = .ok (.aload_n 0, 1) := by decide +kernel
theorem dX3_readRest_88 : decode cX3_readRest 88 = .ok (.getfield 22, 3) := by decide +kernel
theorem dX3_readRest_91 : decode cX3_readRest 91 = .ok (.aload_n 0, 1) := by decide +kernel
theorem dX3_readRest_92 : decode cX3_readRest 92 = .ok (.getfield 31, 3) := by decide +kernel
theorem dX3_readRest_95 : decode cX3_readRest 95 = .ok (.aload_n 0, 1) := by decide +kernel
theorem dX3_readRest_96 : decode cX3_readRest 96 = .ok (.iconst 1, 1) := by decide +kernel
theorem dX3_readRest_97 : decode cX3_readRest 97 = .ok (.bipush 8, 2) := by decide +kernel
theorem dX3_readRest_99 : decode cX3_readRest 99 = .ok (.invokevirtual 96, 3) := by decide +kernel
theorem dX3_readRest_102 : decode cX3_readRest 102 = .ok (.iastore, 1) := by decide +kernel
theorem dX3_readRest_103 : decode cX3_readRest 103 = .ok (.aload_n 0, 1) := by decide +kernel
theorem dX3_readRest_104 : decode cX3_readRest 104 = .ok (.bipush 24, 2) := by decide +kernel
theorem dX3_readRest_106 : decode cX3_readRest 106 = .ok (.invokevirtual 89, 3) := by decide +kernel
theorem dX3_readRest_109 : decode cX3_readRest 109 = .ok (.aload_n 0, 1) := by decide +kernel
theorem dX3_readRest_110 : decode cX3_readRest 110 = .ok (.getfield 25, 3) := by decide +kernel
theorem dX3_readRest_113 : decode cX3_readRest 113 = .ok (.aload_n 0, 1) := by decide +kernel
theorem dX3_readRest_114 : decode cX3_readRest 114 = .ok (.getfield 31, 3) := by decide +kernel
theorem dX3_readRest_117 : decode cX3_readRest 117 = .ok (.aload_n 0, 1) := by decide +kernel
theorem dX3_readRest_118 : decode cX3_readRest 118 = .ok (.iconst 0, 1) := by decide +kernel
theorem dX3_readRest_119 : decode cX3_readRest 119 = .ok (.bipush 15, 2) := by decide +kernel
theorem dX3_readRest_121 : decode cX3_readRest 121 = .ok (.invokevirtual 96, 3) := by decide +kernel
theorem dX3_readRest_124 : decode cX3_readRest 124 = .ok (.iastore, 1) := by decide +kernel
theorem dX3_readRest_125 : decode cX3_readRest 125 = .ok (.goto 41, 3) := by decide +kernel
theorem dX3_readRest_128 : decode cX3_readRest 128 = .ok (.aload_n 0, 1) := by decide +kernel
theorem dX3_readRest_129 : decode cX3_readRest 129 = .ok (.getfield 22, 3) := by decide +kernel
theorem dX3_readRest_132 : decode cX3_readRest 132 = .ok (.aload_n 0, 1) := by decide +kernel
theorem dX3_readRest_133 : decode cX3_readRest 133 = .ok (.getfield 31, 3) := by decide +kernel
theorem dX3_readRest_136 : decode cX3_readRest 136 = .ok (.aload_n 0, 1) := by decide +kernel
theorem dX3_readRest_137 : decode cX3_readRest 137 = .ok (.iconst 1, 1) := by decide +kernel
theorem dX3_readRest_138 : decode cX3_readRest 138 = .ok (.bipush 8, 2) := by decide +kernel
theorem dX3_readRest_140 : decode cX3_readRest 140 = .ok (.invokevirtual 96, 3) := by decide +kernel
theorem dX3_readRest_143 : decode cX3_readRest 143 = .ok (.iastore, 1) := by decide +kernel
theorem dX3_readRest_144 : decode cX3_readRest 144 = .ok (.goto 22, 3) := by decide +kernel
theorem dX3_readRest_147 : decode cX3_readRest 147 = .ok (.aload_n 0, 1) := by decide +kernel
theorem dX3_readRest_148 : decode cX3_readRest 148 = .ok (.getfield 22, 3) := by decide +kernel
theorem dX3_readRest_151 : decode cX3_readRest 151 = .ok (.aload_n 0, 1) := by decide +kernel
theorem dX3_readRest_152 : decode cX3_readRest 152 = .ok (.getfield 31, 3) := by decide +kernel
theorem dX3_readRest_155 : decode cX3_readRest 155 = .ok (.aload_n 0, 1) := by decide +kernel
theorem dX3_readRest_156 : decode cX3_readRest 156 = .ok (.iconst 1, 1) := by decide +kernel
theorem dX3_readRest_157 : decode cX3_readRest 157 = .ok (.bipush 60, 2) := by decide +kernel
theorem dX3_readRest_159 : decode cX3_readRest 159 = .ok (.invokevirtual 96, 3) := by decide +kernel
theorem dX3_readRest_162 : decode cX3_readRest 162 = .ok (.iastore, 1) := by decide +kernel
theorem dX3_readRest_163 : decode cX3_readRest 163 = .ok (.goto 3, 3) := by decide +kernel
theorem dX3_readRest_166 : decode cX3_readRest 166 = .ok (.return_, 1) := by decide +kernel
theorem dX3_expect_0 : decode cX3_expect 0 = .ok (.aload_n 0, 1) := by decide +kernel
theorem dX3_expect_1 : decode cX3_expect 1 = .ok (.getfield 48, 3) := by decide +kernel
theorem dX3_expect_4 : decode cX3_expect 4 = .ok (.ifCond .eq 4, 3) := by decide +kernel
theorem dX3_expect_7 : decode cX3_expect 7 = .ok (.return_, 1) := by decide +kernel
theorem dX3_expect_8 : decode cX3_expect 8 = .ok (.aload_n 0, 1) := by decide +kernel
theorem dX3_expect_9 : decode cX3_expect 9 = .ok (.getfield 12, 3) := by decide +kernel
theorem dX3_expect_12 : decode cX3_expect 12 = .ok (.invokevirtual 58, 3) := by decide +kernel
theorem dX3_expect_15 : decode cX3_expect 15 = .ok (.iload_n 1, 1) := by decide +kernel
theorem dX3_expect_16 : decode cX3_expect 16 = .ok (.if_icmp .eq 11, 3) := by decide +kernel
theorem dX3_expect_19 : decode cX3_expect 19 = .ok (.aload_n 0, 1) := by decide +kernel
theorem dX3_expect_20 : decode cX3_expect 20 = .ok (.iconst 1, 1) := by decide +kernel
theorem dX3_expect_21 : decode cX3_expect 21 = .ok (.invokevirtual 79, 3) := by decide +kernel
theorem dX3_expect_24 : decode cX3_expect 24 = .ok (.goto 10, 3) := by decide +kernel
theorem dX3_expect_27 : decode cX3_expect 27 = .ok (.aload_n 0, 1) := by decide +kernel
theorem dX3_expect_28 : decode cX3_expect 28 = .ok (.getfield 12, 3) := by decide +kernel
theorem dX3_expect_31 : decode cX3_expect 31 = .ok (.invokevirtual 83, 3) := by decide +kernel
theorem dX3_expect_34 : decode cX3_expect 34 = .ok (.return_, 1) := by decide +kernel
theorem dX3_readNumber_0 : decode cX3_readNumber 0 = .ok (.aload_n 0, 1) := by decide +kernel
theorem dX3_readNumber_1 : decode cX3_readNumber 1 = .ok (.getfield 48, 3) := by decide +kernel
theorem dX3_readNumber_4 : decode cX3_readNumber 4 = .ok (.ifCond .eq 5, 3) := by decide +kernel
theorem dX3_readNumber_7 : decode cX3_readNumber 7 = .ok (.iconst 0, 1) := by decide +kernel
theorem dX3_readNumber_8 : decode cX3_readNumber 8 = .ok (.ireturn, 1) := by decide +kernel
theorem dX3_readNumber_9 : decode cX3_readNumber 9 = .ok (.aload_n 0, 1) := by decide +kernel
theorem dX3_readNumber_10 : decode cX3_readNumber 10 = .ok (.getfield 12, 3) := by decide +kernel
theorem dX3_readNumber_13 : decode cX3_readNumber 13 = .ok (.invokevirtual 58, 3) := by decide +kernel
theorem dX3_readNumber_16 : decode cX3_readNumber 16 = .ok (.iconst 2, 1) := by decide +kernel
theorem dX3_readNumber_17 : decode cX3_readNumber 17 = .ok (.if_icmp .eq 10, 3) := by decide +kernel
theorem dX3_readNumber_20 : decode cX3_readNumber 20 = .ok (.aload_n 0, 1) := by decide +kernel
theorem dX3_readNumber_21 : decode cX3_readNumber 21 = .ok (.iconst 1, 1) := by decide +kernel
theorem dX3_readNumber_22 : decode cX3_readNumber 22 = .ok (.invokevirtual 79, 3) := by decide +kernel
theorem dX3_readNumber_25 : decode cX3_readNumber 25 = .ok (.iconst 0, 1) := by decide +kernel
theorem dX3_readNumber_26 : decode cX3_readNumber 26 = .ok (.ireturn, 1) := by decide +kernel
theorem dX3_readNumber_27 : decode cX3_readNumber 27 = .ok (.aload_n 0, 1) := by decide +kernel
theorem dX3_readNumber_28 : decode cX3_readNumber 28 = .ok (.getfield 12, 3) := by decide +kernel
theorem dX3_readNumber_31 : decode cX3_readNumber 31 = .ok (.invokevirtual 100, 3) := by decide +kernel
theorem dX3_readNumber_34 : decode cX3_readNumber 34 = .ok (.istore_n 3, 1) := by decide +kernel
theorem dX3_readNumber_35 : decode cX3_readNumber 35 = .ok (.iload_n 3, 1) := by decide +kernel
theorem dX3_readNumber_36 : decode cX3_readNumber 36 = .ok (.iload_n 1, 1) := by decide +kernel
theorem dX3_readNumber_37 : decode cX3_readNumber 37 = .ok (.if_icmp .lt 8, 3) := by decide +kernel
theorem dX3_readNumber_40 : decode cX3_readNumber 40 = .ok (.iload_n 3, 1) := by decide +kernel
theorem dX3_readNumber_41 : decode cX3_readNumber 41 = .ok (.iload_n 2, 1) := by decide +kernel
theorem dX3_readNumber_42 : decode cX3_readNumber 42 = .ok (.if_icmp .le 11, 3) := by decide +kernel
theorem dX3_readNumber_45 : decode cX3_readNumber 45 = .ok (.aload_n 0, 1) := by decide +kernel
theorem dX3_readNumber_46 : decode cX3_readNumber 46 = .ok (.iconst 2, 1) := by decide +kernel
theorem dX3_readNumber_47 : decode cX3_readNumber 47 = .ok (.invokevirtual 79, 3) := by decide +kernel
theorem dX3_readNumber_50 : decode cX3_readNumber 50 = .ok (.goto 10, 3) := by decide +kernel
theorem dX3_readNumber_53 : decode cX3_readNumber 53 = .ok (.aload_n 0, 1) := by decide +kernel
theorem dX3_readNumber_54 : decode cX3_readNumber 54 = .ok (.getfield 12, 3) := by decide +kernel
theorem dX3_readNumber_57 : decode cX3_readNumber 57 = .ok (.invokevirtual 83, 3) := by decide +kernel
theorem dX3_readNumber_60 : decode cX3_readNumber 60 = .ok (.iload_n 3, 1) := by decide +kernel
theorem dX3_readNumber_61 : decode cX3_readNumber 61 = .ok (.ireturn, 1) := by decide +kernel
theorem dX3_readLaw_0 : decode cX3_readLaw 0 = .ok (.aload_n 0, 1) := by decide +kernel
theorem dX3_readLaw_1 : decode cX3_readLaw 1 = .ok (.iload_n 1, 1) := by decide +kernel
theorem dX3_readLaw_2 : decode cX3_readLaw 2 = .ok (.putfield 38, 3) := by decide +kernel
theorem dX3_readLaw_5 : decode cX3_readLaw 5 = .ok (.aload_n 0, 1) := by decide +kernel
theorem dX3_readLaw_6 : decode cX3_readLaw 6 = .ok (.iconst 0, 1) := by decide +kernel
theorem dX3_readLaw_7 : decode cX3_readLaw 7 = .ok (.putfield 35, 3) := by decide +kernel
theorem dX3_readLaw_10 : decode cX3_readLaw 10 = .ok (.aload_n 0, 1) := by decide +kernel
theorem dX3_readLaw_11 : decode cX3_readLaw 11 = .ok (.iconst 0, 1) := by decide +kernel
theorem dX3_readLaw_12 : decode cX3_readLaw 12 = .ok (.invokevirtual 103, 3) := by decide +kernel
theorem dX3_readLaw_15 : decode cX3_readLaw 15 = .ok (.new 106, 3) := by decide +kernel
theorem dX3_readLaw_18 : decode cX3_readLaw 18 = .ok (.dup, 1) := by decide +kernel
theorem dX3_readLaw_19 : decode cX3_readLaw 19 = .ok (.aload_n 0, 1) := by decide +kernel
theorem dX3_readLaw_20 : decode cX3_readLaw 20 = .ok (.getfield 28, 3) := by decide +kernel
theorem dX3_readLaw_23 : decode cX3_readLaw 23 = .ok (.aload_n 0, 1) := by decide +kernel
theorem dX3_readLaw_24 : decode cX3_readLaw 24 = .ok (.getfield 35, 3) := by decide +kernel
theorem dX3_readLaw_27 : decode cX3_readLaw 27 = .ok (.invokestatic 70, 3) := by decide +kernel
theorem dX3_readLaw_30 : decode cX3_readLaw 30 = .ok (.invokespecial 108, 3) := by decide +kernel
theorem dX3_readLaw_33 : decode cX3_readLaw 33 = .ok (.areturn, 1) := by decide +kernel
theorem dX3_emit_0 : decode cX3_emit 0 = .ok (.aload_n 0, 1) := by decide +kernel
theorem dX3_emit_1 : decode cX3_emit 1 = .ok (.getfield 48, 3) := by decide +kernel
theorem dX3_emit_4 : decode cX3_emit 4 = .ok (.ifCond .ne 33, 3) := by decide +kernel
theorem dX3_emit_7 : decode cX3_emit 7 = .ok (.aload_n 0, 1) := by decide +kernel
theorem dX3_emit_8 : decode cX3_emit 8 = .ok (.getfield 35, 3) := by decide +kernel
theorem dX3_emit_11 : decode cX3_emit 11 = .ok (.sipush 300, 3) := by decide +kernel
theorem dX3_emit_14 : decode cX3_emit 14 = .ok (.if_icmp .ge 23, 3) := by decide +kernel
theorem dX3_emit_17 : decode cX3_emit 17 = .ok (.aload_n 0, 1) := by decide +kernel
theorem dX3_emit_18 : decode cX3_emit 18 = .ok (.getfield 28, 3) := by decide +kernel
theorem dX3_emit_21 : decode cX3_emit 21 = .ok (.aload_n 0, 1) := by decide +kernel
theorem dX3_emit_22 : decode cX3_emit 22 = .ok (.getfield 35, 3) := by decide +kernel
theorem dX3_emit_25 : decode cX3_emit 25 = .ok (.iload_n 1, 1) := by decide +kernel
theorem dX3_emit_26 : decode cX3_emit 26 = .ok (.iastore, 1) := by decide +kernel
theorem dX3_emit_27 : decode cX3_emit 27 = .ok (.aload_n 0, 1) := by decide +kernel
theorem dX3_emit_28 : decode cX3_emit 28 = .ok (.dup, 1) := by decide +kernel
theorem dX3_emit_29 : decode cX3_emit 29 = .ok (.getfield 35, 3) := by decide +kernel
theorem dX3_emit_32 : decode cX3_emit 32 = .ok (.iconst 1, 1) := by decide +kernel
theorem dX3_emit_33 : decode cX3_emit 33 = .ok (.iadd, 1) := by decide +kernel
theorem dX3_emit_34 : decode cX3_emit 34 = .ok (.putfield 35, 3) := by decide +kernel
theorem dX3_emit_37 : decode cX3_emit 37 = .ok (.return_, 1) := by decide +kernel
theorem dX3_readSum_0 : decode cX3_readSum 0 = .ok (.aload_n 0, 1) := by decide +kernel
theorem dX3_readSum_1 : decode cX3_readSum 1 = .ok (.iload_n 1, 1) := by decide +kernel
theorem dX3_readSum_2 : decode cX3_readSum 2 = .ok (.invokevirtual 111, 3) := by decide +kernel
theorem dX3_readSum_5 : decode cX3_readSum 5 = .ok (.iconst 0, 1) := by decide +kernel
theorem dX3_readSum_6 : decode cX3_readSum 6 = .ok (.istore_n 2, 1) := by decide +kernel
theorem dX3_readSum_7 : decode cX3_readSum 7 = .ok (.iload_n 2, 1) := by decide +kernel
theorem dX3_readSum_8 : decode cX3_readSum 8 = .ok (.sipush 300, 3) := by decide +kernel
theorem dX3_readSum_11 : decode cX3_readSum 11 = .ok (.if_icmp .ge 54, 3) := by decide +kernel
theorem dX3_readSum_14 : decode cX3_readSum 14 = .ok (.aload_n 0, 1) := by decide +kernel
theorem dX3_readSum_15 : decode cX3_readSum 15 = .ok (.getfield 48, 3) := by decide +kernel
theorem dX3_readSum_18 : decode cX3_readSum 18 = .ok (.ifCond .ne 47, 3) := by decide +kernel
theorem dX3_readSum_21 : decode cX3_readSum 21 = .ok (.aload_n 0, 1) := by decide +kernel
theorem dX3_readSum_22 : decode cX3_readSum 22 = .ok (.getfield 12, 3) := by decide +kernel
theorem dX3_readSum_25 : decode cX3_readSum 25 = .ok (.invokevirtual 58, 3) := by decide +kernel
theorem dX3_readSum_28 : decode cX3_readSum 28 = .ok (.istore_n 3, 1) := by decide +kernel
theorem dX3_readSum_29 : decode cX3_readSum 29 = .ok (.iload_n 3, 1) := by decide +kernel
theorem dX3_readSum_30 : decode cX3_readSum 30 = .ok (.bipush 34, 2) := by decide +kernel
theorem dX3_readSum_32 : decode cX3_readSum 32 = .ok (.if_icmp .eq 10, 3) := by decide +kernel
theorem dX3_readSum_35 : decode cX3_readSum 35 = .ok (.iload_n 3, 1) := by decide +kernel
theorem dX3_readSum_36 : decode cX3_readSum 36 = .ok (.bipush 35, 2) := by decide +kernel
theorem dX3_readSum_38 : decode cX3_readSum 38 = .ok (.if_icmp .eq 4, 3) := by decide +kernel
theorem dX3_readSum_41 : decode cX3_readSum 41 = .ok (.return_, 1) := by decide +kernel
theorem dX3_readSum_42 : decode cX3_readSum 42 = .ok (.aload_n 0, 1) := by decide +kernel
theorem dX3_readSum_43 : decode cX3_readSum 43 = .ok (.getfield 12, 3) := by decide +kernel
theorem dX3_readSum_46 : decode cX3_readSum 46 = .ok (.invokevirtual 83, 3) := by decide +kernel
theorem dX3_readSum_49 : decode cX3_readSum 49 = .ok (.aload_n 0, 1) := by decide +kernel
theorem dX3_readSum_50 : decode cX3_readSum 50 = .ok (.iload_n 1, 1) := by decide +kernel
theorem dX3_readSum_51 : decode cX3_readSum 51 = .ok (.invokevirtual 111, 3) := by decide +kernel
theorem dX3_readSum_54 : decode cX3_readSum 54 = .ok (.aload_n 0, 1) := by decide +kernel
theorem dX3_readSum_55 : decode cX3_readSum 55 = .ok (.iload_n 3, 1) := by decide +kernel
theorem dX3_readSum_56 : decode cX3_readSum 56 = .ok (.invokevirtual 114, 3) := by decide +kernel
theorem dX3_readSum_59 : decode cX3_readSum 59 = .ok (.iinc 2 1, 3) := by decide +kernel
theorem dX3_readSum_62 : decode cX3_readSum 62 = .ok (.goto (-55), 3) := by decide +kernel
theorem dX3_readSum_65 : decode cX3_readSum 65 = .ok (.return_, 1) := by decide +kernel
theorem dX3_readProduct_0 : decode cX3_readProduct 0 = .ok (.aload_n 0, 1) := by decide +kernel
theorem dX3_readProduct_1 : decode cX3_readProduct 1 = .ok (.iload_n 1, 1) := by decide +kernel
theorem dX3_readProduct_2 : decode cX3_readProduct 2 = .ok (.invokevirtual 117, 3) := by decide +kernel
theorem dX3_readProduct_5 : decode cX3_readProduct 5 = .ok (.iconst 0, 1) := by decide +kernel
theorem dX3_readProduct_6 : decode cX3_readProduct 6 = .ok (.istore_n 2, 1) := by decide +kernel
theorem dX3_readProduct_7 : decode cX3_readProduct 7 = .ok (.iload_n 2, 1) := by decide +kernel
theorem dX3_readProduct_8 : decode cX3_readProduct 8 = .ok (.sipush 300, 3) := by decide +kernel
theorem dX3_readProduct_11 : decode cX3_readProduct 11 = .ok (.if_icmp .ge 54, 3) := by decide +kernel
theorem dX3_readProduct_14 : decode cX3_readProduct 14 = .ok (.aload_n 0, 1) := by decide +kernel
theorem dX3_readProduct_15 : decode cX3_readProduct 15 = .ok (.getfield 48, 3) := by decide +kernel
theorem dX3_readProduct_18 : decode cX3_readProduct 18 = .ok (.ifCond .ne 47, 3) := by decide +kernel
theorem dX3_readProduct_21 : decode cX3_readProduct 21 = .ok (.aload_n 0, 1) := by decide +kernel
theorem dX3_readProduct_22 : decode cX3_readProduct 22 = .ok (.getfield 12, 3) := by decide +kernel
theorem dX3_readProduct_25 : decode cX3_readProduct 25 = .ok (.invokevirtual 58, 3) := by decide +kernel
theorem dX3_readProduct_28 : decode cX3_readProduct 28 = .ok (.istore_n 3, 1) := by decide +kernel
theorem dX3_readProduct_29 : decode cX3_readProduct 29 = .ok (.iload_n 3, 1) := by decide +kernel
theorem dX3_readProduct_30 : decode cX3_readProduct 30 = .ok (.bipush 36, 2) := by decide +kernel
theorem dX3_readProduct_32 : decode cX3_readProduct 32 = .ok (.if_icmp .eq 10, 3) := by decide +kernel
theorem dX3_readProduct_35 : decode cX3_readProduct 35 = .ok (.iload_n 3, 1) := by decide +kernel
theorem dX3_readProduct_36 : decode cX3_readProduct 36 = .ok (.bipush 37, 2) := by decide +kernel
theorem dX3_readProduct_38 : decode cX3_readProduct 38 = .ok (.if_icmp .eq 4, 3) := by decide +kernel
theorem dX3_readProduct_41 : decode cX3_readProduct 41 = .ok (.return_, 1) := by decide +kernel
theorem dX3_readProduct_42 : decode cX3_readProduct 42 = .ok (.aload_n 0, 1) := by decide +kernel
theorem dX3_readProduct_43 : decode cX3_readProduct 43 = .ok (.getfield 12, 3) := by decide +kernel
theorem dX3_readProduct_46 : decode cX3_readProduct 46 = .ok (.invokevirtual 83, 3) := by decide +kernel
theorem dX3_readProduct_49 : decode cX3_readProduct 49 = .ok (.aload_n 0, 1) := by decide +kernel
theorem dX3_readProduct_50 : decode cX3_readProduct 50 = .ok (.iload_n 1, 1) := by decide +kernel
theorem dX3_readProduct_51 : decode cX3_readProduct 51 = .ok (.invokevirtual 117, 3) := by decide +kernel
theorem dX3_readProduct_54 : decode cX3_readProduct 54 = .ok (.aload_n 0, 1) := by decide +kernel
theorem dX3_readProduct_55 : decode cX3_readProduct 55 = .ok (.iload_n 3, 1) := by decide +kernel
theorem dX3_readProduct_56 : decode cX3_readProduct 56 = .ok (.invokevirtual 114, 3) := by decide +kernel
theorem dX3_readProduct_59 : decode cX3_readProduct 59 = .ok (.iinc 2 1, 3) := by decide +kernel
theorem dX3_readProduct_62 : decode cX3_readProduct 62 = .ok (.goto (-55), 3) := by decide +kernel
theorem dX3_readProduct_65 : decode cX3_readProduct 65 = .ok (.return_, 1) := by decide +kernel
theorem dX3_readOne_0 : decode cX3_readOne 0 = .ok (.aload_n 0, 1) := by decide +kernel
theorem dX3_readOne_1 : decode cX3_readOne 1 = .ok (.getfield 48, 3) := by decide +kernel
theorem dX3_readOne_4 : decode cX3_readOne 4 = .ok (.ifCond .eq 4, 3) := by decide +kernel
theorem dX3_readOne_7 : decode cX3_readOne 7 = .ok (.return_, 1) := by decide +kernel
theorem dX3_readOne_8 : decode cX3_readOne 8 = .ok (.aload_n 0, 1) := by decide +kernel
theorem dX3_readOne_9 : decode cX3_readOne 9 = .ok (.getfield 12, 3) := by decide +kernel
theorem dX3_readOne_12 : decode cX3_readOne 12 = .ok (.invokevirtual 58, 3) := by decide +kernel
theorem dX3_readOne_15 : decode cX3_readOne 15 = .ok (.istore_n 2, 1) := by decide +kernel
theorem dX3_readOne_16 : decode cX3_readOne 16 = .ok (.iload_n 2, 1) := by decide +kernel
theorem dX3_readOne_17 : decode cX3_readOne 17 = .ok (.iconst 2, 1) := by decide +kernel
theorem dX3_readOne_18 : decode cX3_readOne 18 = .ok (.if_icmp .ne 21, 3) := by decide +kernel
theorem dX3_readOne_21 : decode cX3_readOne 21 = .ok (.aload_n 0, 1) := by decide +kernel
theorem dX3_readOne_22 : decode cX3_readOne 22 = .ok (.bipush 100, 2) := by decide +kernel
theorem dX3_readOne_24 : decode cX3_readOne 24 = .ok (.aload_n 0, 1) := by decide +kernel
theorem dX3_readOne_25 : decode cX3_readOne 25 = .ok (.iconst 0, 1) := by decide +kernel
theorem dX3_readOne_26 : decode cX3_readOne 26 = .ok (.sipush 9999, 3) := by decide +kernel
theorem dX3_readOne_29 : decode cX3_readOne 29 = .ok (.invokevirtual 96, 3) := by decide +kernel
theorem dX3_readOne_32 : decode cX3_readOne 32 = .ok (.iadd, 1) := by decide +kernel
theorem dX3_readOne_33 : decode cX3_readOne 33 = .ok (.invokevirtual 114, 3) := by decide +kernel
theorem dX3_readOne_36 : decode cX3_readOne 36 = .ok (.goto 62, 3) := by decide +kernel
theorem dX3_readOne_39 : decode cX3_readOne 39 = .ok (.iload_n 2, 1) := by decide +kernel
theorem dX3_readOne_40 : decode cX3_readOne 40 = .ok (.invokestatic 120, 3) := by decide +kernel
theorem dX3_readOne_43 : decode cX3_readOne 43 = .ok (.ifCond .eq 11, 3) := by decide +kernel
theorem dX3_readOne_46 : decode cX3_readOne 46 = .ok (.aload_n 0, 1) := by decide +kernel
theorem dX3_readOne_47 : decode cX3_readOne 47 = .ok (.iload_n 2, 1) := by decide +kernel
theorem dX3_readOne_48 : decode cX3_readOne 48 = .ok (.invokevirtual 124, 3) := by decide +kernel
theorem dX3_readOne_51 : decode cX3_readOne 51 = .ok (.goto 47, 3) := by decide +kernel
theorem dX3_readOne_54 : decode cX3_readOne 54 = .ok (.iload_n 2, 1) := by decide +kernel
theorem dX3_readOne_55 : decode cX3_readOne 55 = .ok (.bipush 38, 2) := by decide +kernel
theorem dX3_readOne_57 : decode cX3_readOne 57 = .ok (.if_icmp .eq 27, 3) := by decide +kernel
theorem dX3_readOne_60 : decode cX3_readOne 60 = .ok (.iload_n 2, 1) := by decide +kernel
theorem dX3_readOne_61 : decode cX3_readOne 61 = .ok (.bipush 35, 2) := by decide +kernel
theorem dX3_readOne_63 : decode cX3_readOne 63 = .ok (.if_icmp .eq 21, 3) := by decide +kernel
theorem dX3_readOne_66 : decode cX3_readOne 66 = .ok (.iload_n 2, 1) := by decide +kernel
theorem dX3_readOne_67 : decode cX3_readOne 67 = .ok (.bipush 15, 2) := by decide +kernel
theorem dX3_readOne_69 : decode cX3_readOne 69 = .ok (.if_icmp .eq 15, 3) := by decide +kernel
theorem dX3_readOne_72 : decode cX3_readOne 72 = .ok (.iload_n 2, 1) := by decide +kernel
theorem dX3_readOne_73 : decode cX3_readOne 73 = .ok (.bipush 16, 2) := by decide +kernel
theorem dX3_readOne_75 : decode cX3_readOne 75 = .ok (.if_icmp .eq 9, 3) := by decide +kernel
theorem dX3_readOne_78 : decode cX3_readOne 78 = .ok (.iload_n 2, 1) := by decide +kernel
theorem dX3_readOne_79 : decode cX3_readOne 79 = .ok (.bipush 17, 2) := by decide +kernel
theorem dX3_readOne_81 : decode cX3_readOne 81 = .ok (.if_icmp .ne 12, 3) := by decide +kernel
theorem dX3_readOne_84 : decode cX3_readOne 84 = .ok (.aload_n 0, 1) := by decide +kernel
theorem dX3_readOne_85 : decode cX3_readOne 85 = .ok (.iload_n 2, 1) := by decide +kernel
theorem dX3_readOne_86 : decode cX3_readOne 86 = .ok (.iload_n 1, 1) := by decide +kernel
theorem dX3_readOne_87 : decode cX3_readOne 87 = .ok (.invokevirtual 127, 3) := by decide +kernel
theorem dX3_readOne_90 : decode cX3_readOne 90 = .ok (.goto 8, 3) := by decide +kernel
theorem dX3_readOne_93 : decode cX3_readOne 93 = .ok (.aload_n 0, 1) := by decide +kernel
theorem dX3_readOne_94 : decode cX3_readOne 94 = .ok (.iconst 1, 1) := by decide +kernel
theorem dX3_readOne_95 : decode cX3_readOne 95 = .ok (.invokevirtual 79, 3) := by decide +kernel
theorem dX3_readOne_98 : decode cX3_readOne 98 = .ok (.return_, 1) := by decide +kernel
theorem dX3_readName_0 : decode cX3_readName 0 = .ok (.iload_n 1, 1) := by decide +kernel
theorem dX3_readName_1 : decode cX3_readName 1 = .ok (.bipush 12, 2) := by decide +kernel
theorem dX3_readName_3 : decode cX3_readName 3 = .ok (.if_icmp .eq 9, 3) := by decide +kernel
theorem dX3_readName_6 : decode cX3_readName 6 = .ok (.iload_n 1, 1) := by decide +kernel
theorem dX3_readName_7 : decode cX3_readName 7 = .ok (.bipush 13, 2) := by decide +kernel
theorem dX3_readName_9 : decode cX3_readName 9 = .ok (.if_icmp .ne 7, 3) := by decide +kernel
theorem dX3_readName_12 : decode cX3_readName 12 = .ok (.iconst 1, 1) := by decide +kernel
theorem dX3_readName_13 : decode cX3_readName 13 = .ok (.goto 4, 3) := by decide +kernel
theorem dX3_readName_16 : decode cX3_readName 16 = .ok (.iconst 0, 1) := by decide +kernel
theorem dX3_readName_17 : decode cX3_readName 17 = .ok (.istore_n 2, 1) := by decide +kernel
theorem dX3_readName_18 : decode cX3_readName 18 = .ok (.iload_n 1, 1) := by decide +kernel
theorem dX3_readName_19 : decode cX3_readName 19 = .ok (.bipush 14, 2) := by decide +kernel
theorem dX3_readName_21 : decode cX3_readName 21 = .ok (.if_icmp .ne 7, 3) := by decide +kernel
theorem dX3_readName_24 : decode cX3_readName 24 = .ok (.iconst 1, 1) := by decide +kernel
theorem dX3_readName_25 : decode cX3_readName 25 = .ok (.goto 4, 3) := by decide +kernel
theorem dX3_readName_28 : decode cX3_readName 28 = .ok (.iconst 0, 1) := by decide +kernel
theorem dX3_readName_29 : decode cX3_readName 29 = .ok (.istore_n 3, 1) := by decide +kernel
theorem dX3_readName_30 : decode cX3_readName 30 = .ok (.iload_n 2, 1) := by decide +kernel
theorem dX3_readName_31 : decode cX3_readName 31 = .ok (.ifCond .eq 11, 3) := by decide +kernel
theorem dX3_readName_34 : decode cX3_readName 34 = .ok (.aload_n 0, 1) := by decide +kernel
theorem dX3_readName_35 : decode cX3_readName 35 = .ok (.getfield 38, 3) := by decide +kernel
theorem dX3_readName_38 : decode cX3_readName 38 = .ok (.iconst 4, 1) := by decide +kernel
theorem dX3_readName_39 : decode cX3_readName 39 = .ok (.if_icmp .ne 15, 3) := by decide +kernel
theorem dX3_readName_42 : decode cX3_readName 42 = .ok (.iload_n 3, 1) := by decide +kernel
theorem dX3_readName_43 : decode cX3_readName 43 = .ok (.ifCond .eq 17, 3) := by decide +kernel
theorem dX3_readName_46 : decode cX3_readName 46 = .ok (.aload_n 0, 1) := by decide +kernel
theorem dX3_readName_47 : decode cX3_readName 47 = .ok (.getfield 38, 3) := by decide +kernel
theorem dX3_readName_50 : decode cX3_readName 50 = .ok (.iconst 3, 1) := by decide +kernel
theorem dX3_readName_51 : decode cX3_readName 51 = .ok (.if_icmp .eq 9, 3) := by decide +kernel
theorem dX3_readName_54 : decode cX3_readName 54 = .ok (.aload_n 0, 1) := by decide +kernel
theorem dX3_readName_55 : decode cX3_readName 55 = .ok (.iconst 5, 1) := by decide +kernel
theorem dX3_readName_56 : decode cX3_readName 56 = .ok (.invokevirtual 79, 3) := by decide +kernel
theorem dX3_readName_59 : decode cX3_readName 59 = .ok (.return_, 1) := by decide +kernel
theorem dX3_readName_60 : decode cX3_readName 60 = .ok (.aload_n 0, 1) := by decide +kernel
theorem dX3_readName_61 : decode cX3_readName 61 = .ok (.iload_n 1, 1) := by decide +kernel
theorem dX3_readName_62 : decode cX3_readName 62 = .ok (.invokevirtual 114, 3) := by decide +kernel
theorem dX3_readName_65 : decode cX3_readName 65 = .ok (.aload_n 0, 1) := by decide +kernel
theorem dX3_readName_66 : decode cX3_readName 66 = .ok (.getfield 12, 3) := by decide +kernel
theorem dX3_readName_69 : decode cX3_readName 69 = .ok (.invokevirtual 83, 3) := by decide +kernel
theorem dX3_readName_72 : decode cX3_readName 72 = .ok (.return_, 1) := by decide +kernel
theorem dX3_readOpened_0 : decode cX3_readOpened 0 = .ok (.iload_n 2, 1) := by decide +kernel
theorem dX3_readOpened_1 : decode cX3_readOpened 1 = .ok (.bipush 8, 2) := by decide +kernel
theorem dX3_readOpened_3 : decode cX3_readOpened 3 = .ok (.if_icmp .lt 9, 3) := by decide +kernel
theorem dX3_readOpened_6 : decode cX3_readOpened 6 = .ok (.aload_n 0, 1) := by decide +kernel
theorem dX3_readOpened_7 : decode cX3_readOpened 7 = .ok (.iconst 3, 1) := by decide +kernel
theorem dX3_readOpened_8 : decode cX3_readOpened 8 = .ok (.invokevirtual 79, 3) := by decide +kernel
theorem dX3_readOpened_11 : decode cX3_readOpened 11 = .ok (.return_, 1) := by decide +kernel
theorem dX3_readOpened_12 : decode cX3_readOpened 12 = .ok (.aload_n 0, 1) := by decide +kernel
theorem dX3_readOpened_13 : decode cX3_readOpened 13 = .ok (.getfield 12, 3) := by decide +kernel
theorem dX3_readOpened_16 : decode cX3_readOpened 16 = .ok (.invokevirtual 83, 3) := by decide +kernel
theorem dX3_readOpened_19 : decode cX3_readOpened 19 = .ok (.iload_n 1, 1) := by decide +kernel
theorem dX3_readOpened_20 : decode cX3_readOpened 20 = .ok (.bipush 38, 2) := by decide +kernel
theorem dX3_readOpened_22 : decode cX3_readOpened 22 = .ok (.if_icmp .ne 19, 3) := by decide +kernel
theorem dX3_readOpened_25 : decode cX3_readOpened 25 = .ok (.aload_n 0, 1) := by decide +kernel
theorem dX3_readOpened_26 : decode cX3_readOpened 26 = .ok (.iload_n 2, 1) := by decide +kernel
theorem dX3_readOpened_27 : decode cX3_readOpened 27 = .ok (.iconst 1, 1) := by decide +kernel
theorem dX3_readOpened_28 : decode cX3_readOpened 28 = .ok (.iadd, 1) := by decide +kernel
theorem dX3_readOpened_29 : decode cX3_readOpened 29 = .ok (.invokevirtual 103, 3) := by decide +kernel
theorem dX3_readOpened_32 : decode cX3_readOpened 32 = .ok (.aload_n 0, 1) := by decide +kernel
theorem dX3_readOpened_33 : decode cX3_readOpened 33 = .ok (.bipush 39, 2) := by decide +kernel
theorem dX3_readOpened_35 : decode cX3_readOpened 35 = .ok (.invokevirtual 89, 3) := by decide +kernel
theorem dX3_readOpened_38 : decode cX3_readOpened 38 = .ok (.goto 80, 3) := by decide +kernel
theorem dX3_readOpened_41 : decode cX3_readOpened 41 = .ok (.iload_n 1, 1) := by decide +kernel
theorem dX3_readOpened_42 : decode cX3_readOpened 42 = .ok (.bipush 17, 2) := by decide +kernel
theorem dX3_readOpened_44 : decode cX3_readOpened 44 = .ok (.if_icmp .ne 51, 3) := by decide +kernel
theorem dX3_readOpened_47 : decode cX3_readOpened 47 = .ok (.aload_n 0, 1) := by decide +kernel
theorem dX3_readOpened_48 : decode cX3_readOpened 48 = .ok (.iload_n 2, 1) := by decide +kernel
theorem dX3_readOpened_49 : decode cX3_readOpened 49 = .ok (.iconst 1, 1) := by decide +kernel
theorem dX3_readOpened_50 : decode cX3_readOpened 50 = .ok (.iadd, 1) := by decide +kernel
theorem dX3_readOpened_51 : decode cX3_readOpened 51 = .ok (.invokevirtual 131, 3) := by decide +kernel
theorem dX3_readOpened_54 : decode cX3_readOpened 54 = .ok (.aload_n 0, 1) := by decide +kernel
theorem dX3_readOpened_55 : decode cX3_readOpened 55 = .ok (.bipush 18, 2) := by decide +kernel
theorem dX3_readOpened_57 : decode cX3_readOpened 57 = .ok (.invokevirtual 89, 3) := by decide +kernel
theorem dX3_readOpened_60 : decode cX3_readOpened 60 = .ok (.aload_n 0, 1) := by decide +kernel
theorem dX3_readOpened_61 : decode cX3_readOpened 61 = .ok (.iload_n 2, 1) := by decide +kernel
theorem dX3_readOpened_62 : decode cX3_readOpened 62 = .ok (.iconst 1, 1) := by decide +kernel
theorem dX3_readOpened_63 : decode cX3_readOpened 63 = .ok (.iadd, 1) := by decide +kernel
theorem dX3_readOpened_64 : decode cX3_readOpened 64 = .ok (.invokevirtual 103, 3) := by decide +kernel
theorem dX3_readOpened_67 : decode cX3_readOpened 67 = .ok (.aload_n 0, 1) := by decide +kernel
theorem dX3_readOpened_68 : decode cX3_readOpened 68 = .ok (.bipush 19, 2) := by decide +kernel
theorem dX3_readOpened_70 : decode cX3_readOpened 70 = .ok (.invokevirtual 89, 3) := by decide +kernel
theorem dX3_readOpened_73 : decode cX3_readOpened 73 = .ok (.aload_n 0, 1) := by decide +kernel
theorem dX3_readOpened_74 : decode cX3_readOpened 74 = .ok (.iload_n 2, 1) := by decide +kernel
theorem dX3_readOpened_75 : decode cX3_readOpened 75 = .ok (.iconst 1, 1) := by decide +kernel
theorem dX3_readOpened_76 : decode cX3_readOpened 76 = .ok (.iadd, 1) := by decide +kernel
theorem dX3_readOpened_77 : decode cX3_readOpened 77 = .ok (.invokevirtual 103, 3) := by decide +kernel
theorem dX3_readOpened_80 : decode cX3_readOpened 80 = .ok (.aload_n 0, 1) := by decide +kernel
theorem dX3_readOpened_81 : decode cX3_readOpened 81 = .ok (.bipush 20, 2) := by decide +kernel
theorem dX3_readOpened_83 : decode cX3_readOpened 83 = .ok (.invokevirtual 89, 3) := by decide +kernel
theorem dX3_readOpened_86 : decode cX3_readOpened 86 = .ok (.aload_n 0, 1) := by decide +kernel
theorem dX3_readOpened_87 : decode cX3_readOpened 87 = .ok (.bipush 50, 2) := by decide +kernel
theorem dX3_readOpened_89 : decode cX3_readOpened 89 = .ok (.invokevirtual 114, 3) := by decide +kernel
theorem dX3_readOpened_92 : decode cX3_readOpened 92 = .ok (.goto 26, 3) := by decide +kernel
theorem dX3_readOpened_95 : decode cX3_readOpened 95 = .ok (.aload_n 0, 1) := by decide +kernel
theorem dX3_readOpened_96 : decode cX3_readOpened 96 = .ok (.iload_n 2, 1) := by decide +kernel
theorem dX3_readOpened_97 : decode cX3_readOpened 97 = .ok (.iconst 1, 1) := by decide +kernel
theorem dX3_readOpened_98 : decode cX3_readOpened 98 = .ok (.iadd, 1) := by decide +kernel
theorem dX3_readOpened_99 : decode cX3_readOpened 99 = .ok (.invokevirtual 117, 3) := by decide +kernel
theorem dX3_readOpened_102 : decode cX3_readOpened 102 = .ok (.aload_n 0, 1) := by decide +kernel
theorem dX3_readOpened_103 : decode cX3_readOpened 103 = .ok (.iload_n 1, 1) := by decide +kernel
theorem dX3_readOpened_104 : decode cX3_readOpened 104 = .ok (.bipush 35, 2) := by decide +kernel
theorem dX3_readOpened_106 : decode cX3_readOpened 106 = .ok (.if_icmp .ne 8, 3) := by decide +kernel
theorem dX3_readOpened_109 : decode cX3_readOpened 109 = .ok (.bipush 51, 2) := by decide +kernel
theorem dX3_readOpened_111 : decode cX3_readOpened 111 = .ok (.goto 4, 3) := by decide +kernel
theorem dX3_readOpened_114 : decode cX3_readOpened 114 = .ok (.iload_n 1, 1) := by decide +kernel
theorem dX3_readOpened_115 : decode cX3_readOpened 115 = .ok (.invokevirtual 114, 3) := by decide +kernel
theorem dX3_readOpened_118 : decode cX3_readOpened 118 = .ok (.return_, 1) := by decide +kernel
theorem dX3_readEither_0 : decode cX3_readEither 0 = .ok (.aload_n 0, 1) := by decide +kernel
theorem dX3_readEither_1 : decode cX3_readEither 1 = .ok (.iload_n 1, 1) := by decide +kernel
theorem dX3_readEither_2 : decode cX3_readEither 2 = .ok (.invokevirtual 134, 3) := by decide +kernel
theorem dX3_readEither_5 : decode cX3_readEither 5 = .ok (.iconst 0, 1) := by decide +kernel
theorem dX3_readEither_6 : decode cX3_readEither 6 = .ok (.istore_n 2, 1) := by decide +kernel
theorem dX3_readEither_7 : decode cX3_readEither 7 = .ok (.iload_n 2, 1) := by decide +kernel
theorem dX3_readEither_8 : decode cX3_readEither 8 = .ok (.sipush 300, 3) := by decide +kernel
theorem dX3_readEither_11 : decode cX3_readEither 11 = .ok (.if_icmp .ge 46, 3) := by decide +kernel
theorem dX3_readEither_14 : decode cX3_readEither 14 = .ok (.aload_n 0, 1) := by decide +kernel
theorem dX3_readEither_15 : decode cX3_readEither 15 = .ok (.getfield 48, 3) := by decide +kernel
theorem dX3_readEither_18 : decode cX3_readEither 18 = .ok (.ifCond .ne 39, 3) := by decide +kernel
theorem dX3_readEither_21 : decode cX3_readEither 21 = .ok (.aload_n 0, 1) := by decide +kernel
theorem dX3_readEither_22 : decode cX3_readEither 22 = .ok (.getfield 12, 3) := by decide +kernel
theorem dX3_readEither_25 : decode cX3_readEither 25 = .ok (.invokevirtual 58, 3) := by decide +kernel
theorem dX3_readEither_28 : decode cX3_readEither 28 = .ok (.bipush 21, 2) := by decide +kernel
theorem dX3_readEither_30 : decode cX3_readEither 30 = .ok (.if_icmp .ne 27, 3) := by decide +kernel
theorem dX3_readEither_33 : decode cX3_readEither 33 = .ok (.aload_n 0, 1) := by decide +kernel
theorem dX3_readEither_34 : decode cX3_readEither 34 = .ok (.getfield 12, 3) := by decide +kernel
theorem dX3_readEither_37 : decode cX3_readEither 37 = .ok (.invokevirtual 83, 3) := by decide +kernel
theorem dX3_readEither_40 : decode cX3_readEither 40 = .ok (.aload_n 0, 1) := by decide +kernel
theorem dX3_readEither_41 : decode cX3_readEither 41 = .ok (.iload_n 1, 1) := by decide +kernel
theorem dX3_readEither_42 : decode cX3_readEither 42 = .ok (.invokevirtual 134, 3) := by decide +kernel
theorem dX3_readEither_45 : decode cX3_readEither 45 = .ok (.aload_n 0, 1) := by decide +kernel
theorem dX3_readEither_46 : decode cX3_readEither 46 = .ok (.bipush 21, 2) := by decide +kernel
theorem dX3_readEither_48 : decode cX3_readEither 48 = .ok (.invokevirtual 114, 3) := by decide +kernel
theorem dX3_readEither_51 : decode cX3_readEither 51 = .ok (.iinc 2 1, 3) := by decide +kernel
theorem dX3_readEither_54 : decode cX3_readEither 54 = .ok (.goto (-47), 3) := by decide +kernel
theorem dX3_readEither_57 : decode cX3_readEither 57 = .ok (.return_, 1) := by decide +kernel
theorem dX3_readBoth_0 : decode cX3_readBoth 0 = .ok (.aload_n 0, 1) := by decide +kernel
theorem dX3_readBoth_1 : decode cX3_readBoth 1 = .ok (.iload_n 1, 1) := by decide +kernel
theorem dX3_readBoth_2 : decode cX3_readBoth 2 = .ok (.invokevirtual 137, 3) := by decide +kernel
theorem dX3_readBoth_5 : decode cX3_readBoth 5 = .ok (.iconst 0, 1) := by decide +kernel
theorem dX3_readBoth_6 : decode cX3_readBoth 6 = .ok (.istore_n 2, 1) := by decide +kernel
theorem dX3_readBoth_7 : decode cX3_readBoth 7 = .ok (.iload_n 2, 1) := by decide +kernel
theorem dX3_readBoth_8 : decode cX3_readBoth 8 = .ok (.sipush 300, 3) := by decide +kernel
theorem dX3_readBoth_11 : decode cX3_readBoth 11 = .ok (.if_icmp .ge 46, 3) := by decide +kernel
theorem dX3_readBoth_14 : decode cX3_readBoth 14 = .ok (.aload_n 0, 1) := by decide +kernel
theorem dX3_readBoth_15 : decode cX3_readBoth 15 = .ok (.getfield 48, 3) := by decide +kernel
theorem dX3_readBoth_18 : decode cX3_readBoth 18 = .ok (.ifCond .ne 39, 3) := by decide +kernel
theorem dX3_readBoth_21 : decode cX3_readBoth 21 = .ok (.aload_n 0, 1) := by decide +kernel
theorem dX3_readBoth_22 : decode cX3_readBoth 22 = .ok (.getfield 12, 3) := by decide +kernel
theorem dX3_readBoth_25 : decode cX3_readBoth 25 = .ok (.invokevirtual 58, 3) := by decide +kernel
theorem dX3_readBoth_28 : decode cX3_readBoth 28 = .ok (.bipush 22, 2) := by decide +kernel
theorem dX3_readBoth_30 : decode cX3_readBoth 30 = .ok (.if_icmp .ne 27, 3) := by decide +kernel
theorem dX3_readBoth_33 : decode cX3_readBoth 33 = .ok (.aload_n 0, 1) := by decide +kernel
theorem dX3_readBoth_34 : decode cX3_readBoth 34 = .ok (.getfield 12, 3) := by decide +kernel
theorem dX3_readBoth_37 : decode cX3_readBoth 37 = .ok (.invokevirtual 83, 3) := by decide +kernel
theorem dX3_readBoth_40 : decode cX3_readBoth 40 = .ok (.aload_n 0, 1) := by decide +kernel
theorem dX3_readBoth_41 : decode cX3_readBoth 41 = .ok (.iload_n 1, 1) := by decide +kernel
theorem dX3_readBoth_42 : decode cX3_readBoth 42 = .ok (.invokevirtual 137, 3) := by decide +kernel
theorem dX3_readBoth_45 : decode cX3_readBoth 45 = .ok (.aload_n 0, 1) := by decide +kernel
theorem dX3_readBoth_46 : decode cX3_readBoth 46 = .ok (.bipush 22, 2) := by decide +kernel
theorem dX3_readBoth_48 : decode cX3_readBoth 48 = .ok (.invokevirtual 114, 3) := by decide +kernel
theorem dX3_readBoth_51 : decode cX3_readBoth 51 = .ok (.iinc 2 1, 3) := by decide +kernel
theorem dX3_readBoth_54 : decode cX3_readBoth 54 = .ok (.goto (-47), 3) := by decide +kernel
theorem dX3_readBoth_57 : decode cX3_readBoth 57 = .ok (.return_, 1) := by decide +kernel
theorem dX3_readAsk_0 : decode cX3_readAsk 0 = .ok (.aload_n 0, 1) := by decide +kernel
theorem dX3_readAsk_1 : decode cX3_readAsk 1 = .ok (.getfield 48, 3) := by decide +kernel
theorem dX3_readAsk_4 : decode cX3_readAsk 4 = .ok (.ifCond .eq 4, 3) := by decide +kernel
theorem dX3_readAsk_7 : decode cX3_readAsk 7 = .ok (.return_, 1) := by decide +kernel
theorem dX3_readAsk_8 : decode cX3_readAsk 8 = .ok (.aload_n 0, 1) := by decide +kernel
theorem dX3_readAsk_9 : decode cX3_readAsk 9 = .ok (.getfield 12, 3) := by decide +kernel
theorem dX3_readAsk_12 : decode cX3_readAsk 12 = .ok (.invokevirtual 58, 3) := by decide +kernel
theorem dX3_readAsk_15 : decode cX3_readAsk 15 = .ok (.bipush 23, 2) := by decide +kernel
theorem dX3_readAsk_17 : decode cX3_readAsk 17 = .ok (.if_icmp .eq 11, 3) := by decide +kernel
theorem dX3_readAsk_20 : decode cX3_readAsk 20 = .ok (.aload_n 0, 1) := by decide +kernel
theorem dX3_readAsk_21 : decode cX3_readAsk 21 = .ok (.iload_n 1, 1) := by decide +kernel
theorem dX3_readAsk_22 : decode cX3_readAsk 22 = .ok (.invokevirtual 140, 3) := by decide +kernel
theorem dX3_readAsk_25 : decode cX3_readAsk 25 = .ok (.goto 37, 3) := by decide +kernel
theorem dX3_readAsk_28 : decode cX3_readAsk 28 = .ok (.iload_n 1, 1) := by decide +kernel
theorem dX3_readAsk_29 : decode cX3_readAsk 29 = .ok (.bipush 8, 2) := by decide +kernel
theorem dX3_readAsk_31 : decode cX3_readAsk 31 = .ok (.if_icmp .lt 11, 3) := by decide +kernel
theorem dX3_readAsk_34 : decode cX3_readAsk 34 = .ok (.aload_n 0, 1) := by decide +kernel
theorem dX3_readAsk_35 : decode cX3_readAsk 35 = .ok (.iconst 3, 1) := by decide +kernel
theorem dX3_readAsk_36 : decode cX3_readAsk 36 = .ok (.invokevirtual 79, 3) := by decide +kernel
theorem dX3_readAsk_39 : decode cX3_readAsk 39 = .ok (.goto 23, 3) := by decide +kernel
theorem dX3_readAsk_42 : decode cX3_readAsk 42 = .ok (.aload_n 0, 1) := by decide +kernel
theorem dX3_readAsk_43 : decode cX3_readAsk 43 = .ok (.getfield 12, 3) := by decide +kernel
theorem dX3_readAsk_46 : decode cX3_readAsk 46 = .ok (.invokevirtual 83, 3) := by decide +kernel
theorem dX3_readAsk_49 : decode cX3_readAsk 49 = .ok (.aload_n 0, 1) := by decide +kernel
theorem dX3_readAsk_50 : decode cX3_readAsk 50 = .ok (.iload_n 1, 1) := by decide +kernel
theorem dX3_readAsk_51 : decode cX3_readAsk 51 = .ok (.iconst 1, 1) := by decide +kernel
theorem dX3_readAsk_52 : decode cX3_readAsk 52 = .ok (.iadd, 1) := by decide +kernel
theorem dX3_readAsk_53 : decode cX3_readAsk 53 = .ok (.invokevirtual 137, 3) := by decide +kernel
theorem dX3_readAsk_56 : decode cX3_readAsk 56 = .ok (.aload_n 0, 1) := by decide +kernel
theorem dX3_readAsk_57 : decode cX3_readAsk 57 = .ok (.bipush 23, 2) := by decide +kernel
theorem dX3_readAsk_59 : decode cX3_readAsk 59 = .ok (.invokevirtual 114, 3) := by decide +kernel
theorem dX3_readAsk_62 : decode cX3_readAsk 62 = .ok (.return_, 1) := by decide +kernel
theorem dX3_readCompared_0 : decode cX3_readCompared 0 = .ok (.aload_n 0, 1) := by decide +kernel
theorem dX3_readCompared_1 : decode cX3_readCompared 1 = .ok (.iload_n 1, 1) := by decide +kernel
theorem dX3_readCompared_2 : decode cX3_readCompared 2 = .ok (.invokevirtual 103, 3) := by decide +kernel
theorem dX3_readCompared_5 : decode cX3_readCompared 5 = .ok (.aload_n 0, 1) := by decide +kernel
theorem dX3_readCompared_6 : decode cX3_readCompared 6 = .ok (.getfield 48, 3) := by decide +kernel
theorem dX3_readCompared_9 : decode cX3_readCompared 9 = .ok (.ifCond .eq 4, 3) := by decide +kernel
theorem dX3_readCompared_12 : decode cX3_readCompared 12 = .ok (.return_, 1) := by decide +kernel
theorem dX3_readCompared_13 : decode cX3_readCompared 13 = .ok (.aload_n 0, 1) := by decide +kernel
theorem dX3_readCompared_14 : decode cX3_readCompared 14 = .ok (.getfield 12, 3) := by decide +kernel
theorem dX3_readCompared_17 : decode cX3_readCompared 17 = .ok (.invokevirtual 58, 3) := by decide +kernel
theorem dX3_readCompared_20 : decode cX3_readCompared 20 = .ok (.istore_n 2, 1) := by decide +kernel
theorem dX3_readCompared_21 : decode cX3_readCompared 21 = .ok (.iload_n 2, 1) := by decide +kernel
theorem dX3_readCompared_22 : decode cX3_readCompared 22 = .ok (.invokestatic 143, 3) := by decide +kernel
theorem dX3_readCompared_25 : decode cX3_readCompared 25 = .ok (.ifCond .ne 9, 3) := by decide +kernel
theorem dX3_readCompared_28 : decode cX3_readCompared 28 = .ok (.aload_n 0, 1) := by decide +kernel
theorem dX3_readCompared_29 : decode cX3_readCompared 29 = .ok (.iconst 1, 1) := by decide +kernel
theorem dX3_readCompared_30 : decode cX3_readCompared 30 = .ok (.invokevirtual 79, 3) := by decide +kernel
theorem dX3_readCompared_33 : decode cX3_readCompared 33 = .ok (.return_, 1) := by decide +kernel
theorem dX3_readCompared_34 : decode cX3_readCompared 34 = .ok (.aload_n 0, 1) := by decide +kernel
theorem dX3_readCompared_35 : decode cX3_readCompared 35 = .ok (.getfield 12, 3) := by decide +kernel
theorem dX3_readCompared_38 : decode cX3_readCompared 38 = .ok (.invokevirtual 83, 3) := by decide +kernel
theorem dX3_readCompared_41 : decode cX3_readCompared 41 = .ok (.aload_n 0, 1) := by decide +kernel
theorem dX3_readCompared_42 : decode cX3_readCompared 42 = .ok (.iload_n 1, 1) := by decide +kernel
theorem dX3_readCompared_43 : decode cX3_readCompared 43 = .ok (.invokevirtual 103, 3) := by decide +kernel
theorem dX3_readCompared_46 : decode cX3_readCompared 46 = .ok (.aload_n 0, 1) := by decide +kernel
theorem dX3_readCompared_47 : decode cX3_readCompared 47 = .ok (.iload_n 2, 1) := by decide +kernel
theorem dX3_readCompared_48 : decode cX3_readCompared 48 = .ok (.invokevirtual 114, 3) := by decide +kernel
theorem dX3_readCompared_51 : decode cX3_readCompared 51 = .ok (.return_, 1) := by decide +kernel
theorem dX4_init_0 : decode cX4_init 0 = .ok (.aload_n 0, 1) := by decide +kernel
theorem dX4_init_1 : decode cX4_init 1 = .ok (.invokespecial 3, 3) := by decide +kernel
theorem dX4_init_4 : decode cX4_init 4 = .ok (.aload_n 0, 1) := by decide +kernel
theorem dX4_init_5 : decode cX4_init 5 = .ok (.bipush 55, 2) := by decide +kernel
theorem dX4_init_7 : decode cX4_init 7 = .ok (.newarray .int, 2) := by decide +kernel
theorem dX4_init_9 : decode cX4_init 9 = .ok (.putfield 11, 3) := by decide +kernel
theorem dX4_init_12 : decode cX4_init 12 = .ok (.aload_n 0, 1) := by decide +kernel
theorem dX4_init_13 : decode cX4_init 13 = .ok (.getfield 11, 3) := by decide +kernel
theorem dX4_init_16 : decode cX4_init 16 = .ok (.iconst 0, 1) := by decide +kernel
theorem dX4_init_17 : decode cX4_init 17 = .ok (.bipush 8, 2) := by decide +kernel
theorem dX4_init_19 : decode cX4_init 19 = .ok (.iastore, 1) := by decide +kernel
theorem dX4_init_20 : decode cX4_init 20 = .ok (.aload_n 0, 1) := by decide +kernel
theorem dX4_init_21 : decode cX4_init 21 = .ok (.getfield 11, 3) := by decide +kernel
theorem dX4_init_24 : decode cX4_init 24 = .ok (.iconst 2, 1) := by decide +kernel
theorem dX4_init_25 : decode cX4_init 25 = .ok (.sipush 443, 3) := by decide +kernel
theorem dX4_init_28 : decode cX4_init 28 = .ok (.iastore, 1) := by decide +kernel
theorem dX4_init_29 : decode cX4_init 29 = .ok (.iconst 1, 1) := by decide +kernel
theorem dX4_init_30 : decode cX4_init 30 = .ok (.istore_n 1, 1) := by decide +kernel
theorem dX4_init_31 : decode cX4_init 31 = .ok (.iload_n 1, 1) := by decide +kernel
theorem dX4_init_32 : decode cX4_init 32 = .ok (.bipush 8, 2) := by decide +kernel
theorem dX4_init_34 : decode cX4_init 34 = .ok (.if_icmp .gt 28, 3) := by decide +kernel
theorem dX4_init_37 : decode cX4_init 37 = .ok (.aload_n 0, 1) := by decide +kernel
theorem dX4_init_38 : decode cX4_init 38 = .ok (.getfield 11, 3) := by decide +kernel
theorem dX4_init_41 : decode cX4_init 41 = .ok (.iconst 5, 1) := by decide +kernel
theorem dX4_init_42 : decode cX4_init 42 = .ok (.iload_n 1, 1) := by decide +kernel
theorem dX4_init_43 : decode cX4_init 43 = .ok (.iadd, 1) := by decide +kernel
theorem dX4_init_44 : decode cX4_init 44 = .ok (.iconst (-1), 1) := by decide +kernel
theorem dX4_init_45 : decode cX4_init 45 = .ok (.iastore, 1) := by decide +kernel
theorem dX4_init_46 : decode cX4_init 46 = .ok (.aload_n 0, 1) := by decide +kernel
theorem dX4_init_47 : decode cX4_init 47 = .ok (.getfield 11, 3) := by decide +kernel
theorem dX4_init_50 : decode cX4_init 50 = .ok (.bipush 13, 2) := by decide +kernel
theorem dX4_init_52 : decode cX4_init 52 = .ok (.iload_n 1, 1) := by decide +kernel
theorem dX4_init_53 : decode cX4_init 53 = .ok (.iadd, 1) := by decide +kernel
theorem dX4_init_54 : decode cX4_init 54 = .ok (.iconst (-1), 1) := by decide +kernel
theorem dX4_init_55 : decode cX4_init 55 = .ok (.iastore, 1) := by decide +kernel
theorem dX4_init_56 : decode cX4_init 56 = .ok (.iinc 1 1, 3) := by decide +kernel
theorem dX4_init_59 : decode cX4_init 59 = .ok (.goto (-28), 3) := by decide +kernel
theorem dX4_init_62 : decode cX4_init 62 = .ok (.return_, 1) := by decide +kernel
theorem dX4_become_0 : decode cX4_become 0 = .ok (.aload_n 1, 1) := by decide +kernel
theorem dX4_become_1 : decode cX4_become 1 = .ok (.getfield 11, 3) := by decide +kernel
theorem dX4_become_4 : decode cX4_become 4 = .ok (.iconst 0, 1) := by decide +kernel
theorem dX4_become_5 : decode cX4_become 5 = .ok (.aload_n 0, 1) := by decide +kernel
theorem dX4_become_6 : decode cX4_become 6 = .ok (.getfield 11, 3) := by decide +kernel
theorem dX4_become_9 : decode cX4_become 9 = .ok (.iconst 0, 1) := by decide +kernel
theorem dX4_become_10 : decode cX4_become 10 = .ok (.bipush 55, 2) := by decide +kernel
theorem dX4_become_12 : decode cX4_become 12 = .ok (.invokestatic 15, 3) := by decide +kernel
theorem dX4_become_15 : decode cX4_become 15 = .ok (.return_, 1) := by decide +kernel
theorem dX4_copyTo_0 : decode cX4_copyTo 0 = .ok (.iload_n 2, 1) := by decide +kernel
theorem dX4_copyTo_1 : decode cX4_copyTo 1 = .ok (.ifCond .lt 24, 3) := by decide +kernel
theorem dX4_copyTo_4 : decode cX4_copyTo 4 = .ok (.iload_n 2, 1) := by decide +kernel
theorem dX4_copyTo_5 : decode cX4_copyTo 5 = .ok (.aload_n 1, 1) := by decide +kernel
theorem dX4_copyTo_6 : decode cX4_copyTo 6 = .ok (.arraylength, 1) := by decide +kernel
theorem dX4_copyTo_7 : decode cX4_copyTo 7 = .ok (.bipush 55, 2) := by decide +kernel
theorem dX4_copyTo_9 : decode cX4_copyTo 9 = .ok (.isub, 1) := by decide +kernel
theorem dX4_copyTo_10 : decode cX4_copyTo 10 = .ok (.if_icmp .gt 15, 3) := by decide +kernel
theorem dX4_copyTo_13 : decode cX4_copyTo 13 = .ok (.aload_n 0, 1) := by decide +kernel
theorem dX4_copyTo_14 : decode cX4_copyTo 14 = .ok (.getfield 11, 3) := by decide +kernel
theorem dX4_copyTo_17 : decode cX4_copyTo 17 = .ok (.iconst 0, 1) := by decide +kernel
theorem dX4_copyTo_18 : decode cX4_copyTo 18 = .ok (.aload_n 1, 1) := by decide +kernel
theorem dX4_copyTo_19 : decode cX4_copyTo 19 = .ok (.iload_n 2, 1) := by decide +kernel
theorem dX4_copyTo_20 : decode cX4_copyTo 20 = .ok (.bipush 55, 2) := by decide +kernel
theorem dX4_copyTo_22 : decode cX4_copyTo 22 = .ok (.invokestatic 15, 3) := by decide +kernel
theorem dX4_copyTo_25 : decode cX4_copyTo 25 = .ok (.return_, 1) := by decide +kernel
theorem dX4_copyFrom_0 : decode cX4_copyFrom 0 = .ok (.iload_n 2, 1) := by decide +kernel
theorem dX4_copyFrom_1 : decode cX4_copyFrom 1 = .ok (.ifCond .lt 24, 3) := by decide +kernel
theorem dX4_copyFrom_4 : decode cX4_copyFrom 4 = .ok (.iload_n 2, 1) := by decide +kernel
theorem dX4_copyFrom_5 : decode cX4_copyFrom 5 = .ok (.aload_n 1, 1) := by decide +kernel
theorem dX4_copyFrom_6 : decode cX4_copyFrom 6 = .ok (.arraylength, 1) := by decide +kernel
theorem dX4_copyFrom_7 : decode cX4_copyFrom 7 = .ok (.bipush 55, 2) := by decide +kernel
theorem dX4_copyFrom_9 : decode cX4_copyFrom 9 = .ok (.isub, 1) := by decide +kernel
theorem dX4_copyFrom_10 : decode cX4_copyFrom 10 = .ok (.if_icmp .gt 15, 3) := by decide +kernel
theorem dX4_copyFrom_13 : decode cX4_copyFrom 13 = .ok (.aload_n 1, 1) := by decide +kernel
theorem dX4_copyFrom_14 : decode cX4_copyFrom 14 = .ok (.iload_n 2, 1) := by decide +kernel
theorem dX4_copyFrom_15 : decode cX4_copyFrom 15 = .ok (.aload_n 0, 1) := by decide +kernel
theorem dX4_copyFrom_16 : decode cX4_copyFrom 16 = .ok (.getfield 11, 3) := by decide +kernel
theorem dX4_copyFrom_19 : decode cX4_copyFrom 19 = .ok (.iconst 0, 1) := by decide +kernel
theorem dX4_copyFrom_20 : decode cX4_copyFrom 20 = .ok (.bipush 55, 2) := by decide +kernel
theorem dX4_copyFrom_22 : decode cX4_copyFrom 22 = .ok (.invokestatic 15, 3) := by decide +kernel
theorem dX4_copyFrom_25 : decode cX4_copyFrom 25 = .ok (.return_, 1) := by decide +kernel
theorem dX4_places_0 : decode cX4_places 0 = .ok (.aload_n 0, 1) := by decide +kernel
theorem dX4_places_1 : decode cX4_places 1 = .ok (.getfield 11, 3) := by decide +kernel
theorem dX4_places_4 : decode cX4_places 4 = .ok (.iconst 0, 1) := by decide +kernel
theorem dX4_places_5 : decode cX4_places 5 = .ok (.iaload, 1) := by decide +kernel
theorem dX4_places_6 : decode cX4_places 6 = .ok (.ireturn, 1) := by decide +kernel
theorem dX4_date_0 : decode cX4_date 0 = .ok (.aload_n 0, 1) := by decide +kernel
theorem dX4_date_1 : decode cX4_date 1 = .ok (.getfield 11, 3) := by decide +kernel
theorem dX4_date_4 : decode cX4_date 4 = .ok (.iconst 1, 1) := by decide +kernel
theorem dX4_date_5 : decode cX4_date 5 = .ok (.iaload, 1) := by decide +kernel
theorem dX4_date_6 : decode cX4_date 6 = .ok (.ireturn, 1) := by decide +kernel
theorem dX4_drawn_0 : decode cX4_drawn 0 = .ok (.aload_n 0, 1) := by decide +kernel
theorem dX4_drawn_1 : decode cX4_drawn 1 = .ok (.getfield 11, 3) := by decide +kernel
theorem dX4_drawn_4 : decode cX4_drawn 4 = .ok (.iconst 2, 1) := by decide +kernel
theorem dX4_drawn_5 : decode cX4_drawn 5 = .ok (.iaload, 1) := by decide +kernel
theorem dX4_drawn_6 : decode cX4_drawn 6 = .ok (.ireturn, 1) := by decide +kernel
theorem dX4_standing_0 : decode cX4_standing 0 = .ok (.aload_n 0, 1) := by decide +kernel
theorem dX4_standing_1 : decode cX4_standing 1 = .ok (.getfield 11, 3) := by decide +kernel
theorem dX4_standing_4 : decode cX4_standing 4 = .ok (.iconst 3, 1) := by decide +kernel
theorem dX4_standing_5 : decode cX4_standing 5 = .ok (.iaload, 1) := by decide +kernel
theorem dX4_standing_6 : decode cX4_standing 6 = .ok (.ireturn, 1) := by decide +kernel
theorem dX4_walking_0 : decode cX4_walking 0 = .ok (.aload_n 0, 1) := by decide +kernel
theorem dX4_walking_1 : decode cX4_walking 1 = .ok (.getfield 11, 3) := by decide +kernel
theorem dX4_walking_4 : decode cX4_walking 4 = .ok (.iconst 3, 1) := by decide +kernel
theorem dX4_walking_5 : decode cX4_walking 5 = .ok (.iaload, 1) := by decide +kernel
theorem dX4_walking_6 : decode cX4_walking 6 = .ok (.invokestatic 21, 3) := by decide +kernel
theorem dX4_walking_9 : decode cX4_walking 9 = .ok (.ireturn, 1) := by decide +kernel
theorem dX4_taken_0 : decode cX4_taken 0 = .ok (.aload_n 0, 1) := by decide +kernel
theorem dX4_taken_1 : decode cX4_taken 1 = .ok (.getfield 11, 3) := by decide +kernel
theorem dX4_taken_4 : decode cX4_taken 4 = .ok (.iconst 4, 1) := by decide +kernel
theorem dX4_taken_5 : decode cX4_taken 5 = .ok (.iaload, 1) := by decide +kernel
theorem dX4_taken_6 : decode cX4_taken 6 = .ok (.ireturn, 1) := by decide +kernel
theorem dX4_vacant_0 : decode cX4_vacant 0 = .ok (.aload_n 0, 1) := by decide +kernel
theorem dX4_vacant_1 : decode cX4_vacant 1 = .ok (.getfield 11, 3) := by decide +kernel
theorem dX4_vacant_4 : decode cX4_vacant 4 = .ok (.iconst 0, 1) := by decide +kernel
theorem dX4_vacant_5 : decode cX4_vacant 5 = .ok (.iaload, 1) := by decide +kernel
theorem dX4_vacant_6 : decode cX4_vacant 6 = .ok (.invokestatic 27, 3) := by decide +kernel
theorem dX4_vacant_9 : decode cX4_vacant 9 = .ok (.aload_n 0, 1) := by decide +kernel
theorem dX4_vacant_10 : decode cX4_vacant 10 = .ok (.getfield 11, 3) := by decide +kernel
theorem dX4_vacant_13 : decode cX4_vacant 13 = .ok (.iconst 4, 1) := by decide +kernel
theorem dX4_vacant_14 : decode cX4_vacant 14 = .ok (.iaload, 1) := by decide +kernel
theorem dX4_vacant_15 : decode cX4_vacant 15 = .ok (.iconst (-1), 1) := by decide +kernel
theorem dX4_vacant_16 : decode cX4_vacant 16 = .ok (.ixor, 1) := by decide +kernel
theorem dX4_vacant_17 : decode cX4_vacant 17 = .ok (.iand, 1) := by decide +kernel
theorem dX4_vacant_18 : decode cX4_vacant 18 = .ok (.ireturn, 1) := by decide +kernel
theorem dX4_isVacant_0 : decode cX4_isVacant 0 = .ok (.iload_n 1, 1) := by decide +kernel
theorem dX4_isVacant_1 : decode cX4_isVacant 1 = .ok (.ifCond .lt 30, 3) := by decide +kernel
theorem dX4_isVacant_4 : decode cX4_isVacant 4 = .ok (.iload_n 1, 1) := by decide +kernel
theorem dX4_isVacant_5 : decode cX4_isVacant 5 = .ok (.aload_n 0, 1) := by decide +kernel
theorem dX4_isVacant_6 : decode cX4_isVacant 6 = .ok (.getfield 11, 3) := by decide +kernel
theorem dX4_isVacant_9 : decode cX4_isVacant 9 = .ok (.iconst 0, 1) := by decide +kernel
theorem dX4_isVacant_10 : decode cX4_isVacant 10 = .ok (.iaload, 1) := by decide +kernel
theorem dX4_isVacant_11 : decode cX4_isVacant 11 = .ok (.if_icmp .ge 20, 3) := by decide +kernel
theorem dX4_isVacant_14 : decode cX4_isVacant 14 = .ok (.aload_n 0, 1) := by decide +kernel
theorem dX4_isVacant_15 : decode cX4_isVacant 15 = .ok (.getfield 11, 3) := by decide +kernel
theorem dX4_isVacant_18 : decode cX4_isVacant 18 = .ok (.iconst 4, 1) := by decide +kernel
theorem dX4_isVacant_19 : decode cX4_isVacant 19 = .ok (.iaload, 1) := by decide +kernel
theorem dX4_isVacant_20 : decode cX4_isVacant 20 = .ok (.iload_n 1, 1) := by decide +kernel
theorem dX4_isVacant_21 : decode cX4_isVacant 21 = .ok (.iushr, 1) := by decide +kernel
theorem dX4_isVacant_22 : decode cX4_isVacant 22 = .ok (.iconst 1, 1) := by decide +kernel
theorem dX4_isVacant_23 : decode cX4_isVacant 23 = .ok (.iand, 1) := by decide +kernel
theorem dX4_isVacant_24 : decode cX4_isVacant 24 = .ok (.ifCond .ne 7, 3) := by decide +kernel
theorem dX4_isVacant_27 : decode cX4_isVacant 27 = .ok (.iconst 1, 1) := by decide +kernel
theorem dX4_isVacant_28 : decode cX4_isVacant 28 = .ok (.goto 4, 3) := by decide +kernel
theorem dX4_isVacant_31 : decode cX4_isVacant 31 = .ok (.iconst 0, 1) := by decide +kernel
theorem dX4_isVacant_32 : decode cX4_isVacant 32 = .ok (.ireturn, 1) := by decide +kernel
theorem dX4_holds_0 : decode cX4_holds 0 = .ok (.iload_n 1, 1) := by decide +kernel
theorem dX4_holds_1 : decode cX4_holds 1 = .ok (.iconst 1, 1) := by decide +kernel
theorem dX4_holds_2 : decode cX4_holds 2 = .ok (.if_icmp .lt 24, 3) := by decide +kernel
theorem dX4_holds_5 : decode cX4_holds 5 = .ok (.iload_n 1, 1) := by decide +kernel
theorem dX4_holds_6 : decode cX4_holds 6 = .ok (.bipush 8, 2) := by decide +kernel
theorem dX4_holds_8 : decode cX4_holds 8 = .ok (.if_icmp .gt 18, 3) := by decide +kernel
theorem dX4_holds_11 : decode cX4_holds 11 = .ok (.aload_n 0, 1) := by decide +kernel
theorem dX4_holds_12 : decode cX4_holds 12 = .ok (.getfield 11, 3) := by decide +kernel
theorem dX4_holds_15 : decode cX4_holds 15 = .ok (.iconst 5, 1) := by decide +kernel
theorem dX4_holds_16 : decode cX4_holds 16 = .ok (.iload_n 1, 1) := by decide +kernel
theorem dX4_holds_17 : decode cX4_holds 17 = .ok (.iadd, 1) := by decide +kernel
theorem dX4_holds_18 : decode cX4_holds 18 = .ok (.iaload, 1) := by decide +kernel
theorem dX4_holds_19 : decode cX4_holds 19 = .ok (.ifCond .lt 7, 3) := by decide +kernel
theorem dX4_holds_22 : decode cX4_holds 22 = .ok (.iconst 1, 1) := by decide +kernel
theorem dX4_holds_23 : decode cX4_holds 23 = .ok (.goto 4, 3) := by decide +kernel
theorem dX4_holds_26 : decode cX4_holds 26 = .ok (.iconst 0, 1) := by decide +kernel
theorem dX4_holds_27 : decode cX4_holds 27 = .ok (.ireturn, 1) := by decide +kernel
theorem dX4_first_0 : decode cX4_first 0 = .ok (.iload_n 1, 1) := by decide +kernel
theorem dX4_first_1 : decode cX4_first 1 = .ok (.iconst 1, 1) := by decide +kernel
theorem dX4_first_2 : decode cX4_first 2 = .ok (.if_icmp .lt 20, 3) := by decide +kernel
theorem dX4_first_5 : decode cX4_first 5 = .ok (.iload_n 1, 1) := by decide +kernel
theorem dX4_first_6 : decode cX4_first 6 = .ok (.bipush 8, 2) := by decide +kernel
theorem dX4_first_8 : decode cX4_first 8 = .ok (.if_icmp .gt 14, 3) := by decide +kernel
theorem dX4_first_11 : decode cX4_first 11 = .ok (.aload_n 0, 1) := by decide +kernel
theorem dX4_first_12 : decode cX4_first 12 = .ok (.getfield 11, 3) := by decide +kernel
theorem dX4_first_15 : decode cX4_first 15 = .ok (.iconst 5, 1) := by decide +kernel
theorem dX4_first_16 : decode cX4_first 16 = .ok (.iload_n 1, 1) := by decide +kernel
theorem dX4_first_17 : decode cX4_first 17 = .ok (.iadd, 1) := by decide +kernel
theorem dX4_first_18 : decode cX4_first 18 = .ok (.iaload, 1) := by decide +kernel
theorem dX4_first_19 : decode cX4_first 19 = .ok (.goto 4, 3) := by decide +kernel
theorem dX4_first_22 : decode cX4_first 22 = .ok (.iconst (-1), 1) := by decide +kernel
theorem dX4_first_23 : decode cX4_first 23 = .ok (.ireturn, 1) := by decide +kernel
theorem dX4_second_0 : decode cX4_second 0 = .ok (.iload_n 1, 1) := by decide +kernel
theorem dX4_second_1 : decode cX4_second 1 = .ok (.iconst 1, 1) := by decide +kernel
theorem dX4_second_2 : decode cX4_second 2 = .ok (.if_icmp .lt 21, 3) := by decide +kernel
theorem dX4_second_5 : decode cX4_second 5 = .ok (.iload_n 1, 1) := by decide +kernel
theorem dX4_second_6 : decode cX4_second 6 = .ok (.bipush 8, 2) := by decide +kernel
theorem dX4_second_8 : decode cX4_second 8 = .ok (.if_icmp .gt 15, 3) := by decide +kernel
theorem dX4_second_11 : decode cX4_second 11 = .ok (.aload_n 0, 1) := by decide +kernel
theorem dX4_second_12 : decode cX4_second 12 = .ok (.getfield 11, 3) := by decide +kernel
theorem dX4_second_15 : decode cX4_second 15 = .ok (.bipush 13, 2) := by decide +kernel
theorem dX4_second_17 : decode cX4_second 17 = .ok (.iload_n 1, 1) := by decide +kernel
theorem dX4_second_18 : decode cX4_second 18 = .ok (.iadd, 1) := by decide +kernel
theorem dX4_second_19 : decode cX4_second 19 = .ok (.iaload, 1) := by decide +kernel
theorem dX4_second_20 : decode cX4_second 20 = .ok (.goto 4, 3) := by decide +kernel
theorem dX4_second_23 : decode cX4_second 23 = .ok (.iconst (-1), 1) := by decide +kernel
theorem dX4_second_24 : decode cX4_second 24 = .ok (.ireturn, 1) := by decide +kernel
theorem dX4_since_0 : decode cX4_since 0 = .ok (.iload_n 1, 1) := by decide +kernel
theorem dX4_since_1 : decode cX4_since 1 = .ok (.iconst 1, 1) := by decide +kernel
theorem dX4_since_2 : decode cX4_since 2 = .ok (.if_icmp .lt 21, 3) := by decide +kernel
theorem dX4_since_5 : decode cX4_since 5 = .ok (.iload_n 1, 1) := by decide +kernel
theorem dX4_since_6 : decode cX4_since 6 = .ok (.bipush 8, 2) := by decide +kernel
theorem dX4_since_8 : decode cX4_since 8 = .ok (.if_icmp .gt 15, 3) := by decide +kernel
theorem dX4_since_11 : decode cX4_since 11 = .ok (.aload_n 0, 1) := by decide +kernel
theorem dX4_since_12 : decode cX4_since 12 = .ok (.getfield 11, 3) := by decide +kernel
theorem dX4_since_15 : decode cX4_since 15 = .ok (.bipush 21, 2) := by decide +kernel
theorem dX4_since_17 : decode cX4_since 17 = .ok (.iload_n 1, 1) := by decide +kernel
theorem dX4_since_18 : decode cX4_since 18 = .ok (.iadd, 1) := by decide +kernel
theorem dX4_since_19 : decode cX4_since 19 = .ok (.iaload, 1) := by decide +kernel
theorem dX4_since_20 : decode cX4_since 20 = .ok (.goto 4, 3) := by decide +kernel
theorem dX4_since_23 : decode cX4_since 23 = .ok (.iconst 0, 1) := by decide +kernel
theorem dX4_since_24 : decode cX4_since 24 = .ok (.ireturn, 1) := by decide +kernel
theorem dX4_span_0 : decode cX4_span 0 = .ok (.aload_n 0, 1) := by decide +kernel
theorem dX4_span_1 : decode cX4_span 1 = .ok (.iload_n 1, 1) := by decide +kernel
theorem dX4_span_2 : decode cX4_span 2 = .ok (.invokevirtual 30, 3) := by decide +kernel
theorem dX4_span_5 : decode cX4_span 5 = .ok (.aload_n 0, 1) := by decide +kernel
theorem dX4_span_6 : decode cX4_span 6 = .ok (.iload_n 1, 1) := by decide +kernel
theorem dX4_span_7 : decode cX4_span 7 = .ok (.invokevirtual 33, 3) := by decide +kernel
theorem dX4_span_10 : decode cX4_span 10 = .ok (.isub, 1) := by decide +kernel
theorem dX4_span_11 : decode cX4_span 11 = .ok (.ireturn, 1) := by decide +kernel
theorem dX4_pairOf_0 : decode cX4_pairOf 0 = .ok (.aload_n 0, 1) := by decide +kernel
theorem dX4_pairOf_1 : decode cX4_pairOf 1 = .ok (.iload_n 1, 1) := by decide +kernel
theorem dX4_pairOf_2 : decode cX4_pairOf 2 = .ok (.invokevirtual 36, 3) := by decide +kernel
theorem dX4_pairOf_5 : decode cX4_pairOf 5 = .ok (.ifCond .eq 28, 3) := by decide +kernel
theorem dX4_pairOf_8 : decode cX4_pairOf 8 = .ok (.iconst 1, 1) := by decide +kernel
theorem dX4_pairOf_9 : decode cX4_pairOf 9 = .ok (.aload_n 0, 1) := by decide +kernel
theorem dX4_pairOf_10 : decode cX4_pairOf 10 = .ok (.getfield 11, 3) := by decide +kernel
theorem dX4_pairOf_13 : decode cX4_pairOf 13 = .ok (.iconst 5, 1) := by decide +kernel
theorem dX4_pairOf_14 : decode cX4_pairOf 14 = .ok (.iload_n 1, 1) := by decide +kernel
theorem dX4_pairOf_15 : decode cX4_pairOf 15 = .ok (.iadd, 1) := by decide +kernel
theorem dX4_pairOf_16 : decode cX4_pairOf 16 = .ok (.iaload, 1) := by decide +kernel
theorem dX4_pairOf_17 : decode cX4_pairOf 17 = .ok (.ishl, 1) := by decide +kernel
theorem dX4_pairOf_18 : decode cX4_pairOf 18 = .ok (.iconst 1, 1) := by decide +kernel
theorem dX4_pairOf_19 : decode cX4_pairOf 19 = .ok (.aload_n 0, 1) := by decide +kernel
theorem dX4_pairOf_20 : decode cX4_pairOf 20 = .ok (.getfield 11, 3) := by decide +kernel
theorem dX4_pairOf_23 : decode cX4_pairOf 23 = .ok (.bipush 13, 2) := by decide +kernel
theorem dX4_pairOf_25 : decode cX4_pairOf 25 = .ok (.iload_n 1, 1) := by decide +kernel
theorem dX4_pairOf_26 : decode cX4_pairOf 26 = .ok (.iadd, 1) := by decide +kernel
theorem dX4_pairOf_27 : decode cX4_pairOf 27 = .ok (.iaload, 1) := by decide +kernel
theorem dX4_pairOf_28 : decode cX4_pairOf 28 = .ok (.ishl, 1) := by decide +kernel
theorem dX4_pairOf_29 : decode cX4_pairOf 29 = .ok (.ior, 1) := by decide +kernel
theorem dX4_pairOf_30 : decode cX4_pairOf 30 = .ok (.goto 4, 3) := by decide +kernel
theorem dX4_pairOf_33 : decode cX4_pairOf 33 = .ok (.iconst 0, 1) := by decide +kernel
theorem dX4_pairOf_34 : decode cX4_pairOf 34 = .ok (.ireturn, 1) := by decide +kernel
theorem dX4_placesOf_0 : decode cX4_placesOf 0 = .ok (.iconst 0, 1) := by decide +kernel
theorem dX4_placesOf_1 : decode cX4_placesOf 1 = .ok (.istore_n 2, 1) := by decide +kernel
theorem dX4_placesOf_2 : decode cX4_placesOf 2 = .ok (.iconst 1, 1) := by decide +kernel
theorem dX4_placesOf_3 : decode cX4_placesOf 3 = .ok (.istore_n 3, 1) := by decide +kernel
theorem dX4_placesOf_4 : decode cX4_placesOf 4 = .ok (.iload_n 3, 1) := by decide +kernel
theorem dX4_placesOf_5 : decode cX4_placesOf 5 = .ok (.bipush 8, 2) := by decide +kernel
theorem dX4_placesOf_7 : decode cX4_placesOf 7 = .ok (.if_icmp .gt 26, 3) := by decide +kernel
theorem dX4_placesOf_10 : decode cX4_placesOf 10 = .ok (.iload_n 1, 1) := by decide +kernel
theorem dX4_placesOf_11 : decode cX4_placesOf 11 = .ok (.iload_n 3, 1) := by decide +kernel
theorem dX4_placesOf_12 : decode cX4_placesOf 12 = .ok (.invokestatic 40, 3) := by decide +kernel
theorem dX4_placesOf_15 : decode cX4_placesOf 15 = .ok (.iand, 1) := by decide +kernel
theorem dX4_placesOf_16 : decode cX4_placesOf 16 = .ok (.ifCond .eq 11, 3) := by decide +kernel
theorem dX4_placesOf_19 : decode cX4_placesOf 19 = .ok (.iload_n 2, 1) := by decide +kernel
theorem dX4_placesOf_20 : decode cX4_placesOf 20 = .ok (.aload_n 0, 1) := by decide +kernel
theorem dX4_placesOf_21 : decode cX4_placesOf 21 = .ok (.iload_n 3, 1) := by decide +kernel
theorem dX4_placesOf_22 : decode cX4_placesOf 22 = .ok (.invokevirtual 43, 3) := by decide +kernel
theorem dX4_placesOf_25 : decode cX4_placesOf 25 = .ok (.ior, 1) := by decide +kernel
theorem dX4_placesOf_26 : decode cX4_placesOf 26 = .ok (.istore_n 2, 1) := by decide +kernel
theorem dX4_placesOf_27 : decode cX4_placesOf 27 = .ok (.iinc 3 1, 3) := by decide +kernel
theorem dX4_placesOf_30 : decode cX4_placesOf 30 = .ok (.goto (-26), 3) := by decide +kernel
theorem dX4_placesOf_33 : decode cX4_placesOf 33 = .ok (.iload_n 2, 1) := by decide +kernel
theorem dX4_placesOf_34 : decode cX4_placesOf 34 = .ok (.ireturn, 1) := by decide +kernel
theorem dX4_who_0 : decode cX4_who 0 = .ok (.iconst 1, 1) := by decide +kernel
theorem dX4_who_1 : decode cX4_who 1 = .ok (.istore_n 2, 1) := by decide +kernel
theorem dX4_who_2 : decode cX4_who 2 = .ok (.iload_n 2, 1) := by decide +kernel
theorem dX4_who_3 : decode cX4_who 3 = .ok (.bipush 8, 2) := by decide +kernel
theorem dX4_who_5 : decode cX4_who 5 = .ok (.if_icmp .gt 37, 3) := by decide +kernel
theorem dX4_who_8 : decode cX4_who 8 = .ok (.aload_n 0, 1) := by decide +kernel
theorem dX4_who_9 : decode cX4_who 9 = .ok (.iload_n 2, 1) := by decide +kernel
theorem dX4_who_10 : decode cX4_who 10 = .ok (.invokevirtual 36, 3) := by decide +kernel
theorem dX4_who_13 : decode cX4_who 13 = .ok (.ifCond .eq 23, 3) := by decide +kernel
theorem dX4_who_16 : decode cX4_who 16 = .ok (.aload_n 0, 1) := by decide +kernel
theorem dX4_who_17 : decode cX4_who 17 = .ok (.iload_n 2, 1) := by decide +kernel
theorem dX4_who_18 : decode cX4_who 18 = .ok (.invokevirtual 33, 3) := by decide +kernel
theorem dX4_who_21 : decode cX4_who 21 = .ok (.iload_n 1, 1) := by decide +kernel
theorem dX4_who_22 : decode cX4_who 22 = .ok (.if_icmp .eq 12, 3) := by decide +kernel
theorem dX4_who_25 : decode cX4_who 25 = .ok (.aload_n 0, 1) := by decide +kernel
theorem dX4_who_26 : decode cX4_who 26 = .ok (.iload_n 2, 1) := by decide +kernel
theorem dX4_who_27 : decode cX4_who 27 = .ok (.invokevirtual 30, 3) := by decide +kernel
theorem dX4_who_30 : decode cX4_who 30 = .ok (.iload_n 1, 1) := by decide +kernel
theorem dX4_who_31 : decode cX4_who 31 = .ok (.if_icmp .ne 5, 3) := by decide +kernel
theorem dX4_who_34 : decode cX4_who 34 = .ok (.iload_n 2, 1) := by decide +kernel
theorem dX4_who_35 : decode cX4_who 35 = .ok (.ireturn, 1) := by decide +kernel
theorem dX4_who_36 : decode cX4_who 36 = .ok (.iinc 2 1, 3) := by decide +kernel
theorem dX4_who_39 : decode cX4_who 39 = .ok (.goto (-37), 3) := by decide +kernel
theorem dX4_who_42 : decode cX4_who 42 = .ok (.iconst 0, 1) := by decide +kernel
theorem dX4_who_43 : decode cX4_who 43 = .ok (.ireturn, 1) := by decide +kernel
theorem dX4_inside_0 : decode cX4_inside 0 = .ok (.aload_n 0, 1) := by decide +kernel
theorem dX4_inside_1 : decode cX4_inside 1 = .ok (.iload_n 1, 1) := by decide +kernel
theorem dX4_inside_2 : decode cX4_inside 2 = .ok (.invokevirtual 36, 3) := by decide +kernel
theorem dX4_inside_5 : decode cX4_inside 5 = .ok (.ifCond .eq 11, 3) := by decide +kernel
theorem dX4_inside_8 : decode cX4_inside 8 = .ok (.aload_n 0, 1) := by decide +kernel
theorem dX4_inside_9 : decode cX4_inside 9 = .ok (.iload_n 2, 1) := by decide +kernel
theorem dX4_inside_10 : decode cX4_inside 10 = .ok (.invokevirtual 36, 3) := by decide +kernel
theorem dX4_inside_13 : decode cX4_inside 13 = .ok (.ifCond .ne 5, 3) := by decide +kernel
theorem dX4_inside_16 : decode cX4_inside 16 = .ok (.iconst 0, 1) := by decide +kernel
theorem dX4_inside_17 : decode cX4_inside 17 = .ok (.ireturn, 1) := by decide +kernel
theorem dX4_inside_18 : decode cX4_inside 18 = .ok (.aload_n 0, 1) := by decide +kernel
theorem dX4_inside_19 : decode cX4_inside 19 = .ok (.iload_n 1, 1) := by decide +kernel
theorem dX4_inside_20 : decode cX4_inside 20 = .ok (.aload_n 0, 1) := by decide +kernel
theorem dX4_inside_21 : decode cX4_inside 21 = .ok (.iload_n 2, 1) := by decide +kernel
theorem dX4_inside_22 : decode cX4_inside 22 = .ok (.invokevirtual 33, 3) := by decide +kernel
theorem dX4_inside_25 : decode cX4_inside 25 = .ok (.invokevirtual 46, 3) := by decide +kernel
theorem dX4_inside_28 : decode cX4_inside 28 = .ok (.ifCond .eq 7, 3) := by decide +kernel
theorem dX4_inside_31 : decode cX4_inside 31 = .ok (.iconst 1, 1) := by decide +kernel
theorem dX4_inside_32 : decode cX4_inside 32 = .ok (.goto 4, 3) := by decide +kernel
theorem dX4_inside_35 : decode cX4_inside 35 = .ok (.iconst 0, 1) := by decide +kernel
theorem dX4_inside_36 : decode cX4_inside 36 = .ok (.aload_n 0, 1) := by decide +kernel
theorem dX4_inside_37 : decode cX4_inside 37 = .ok (.iload_n 1, 1) := by decide +kernel
theorem dX4_inside_38 : decode cX4_inside 38 = .ok (.aload_n 0, 1) := by decide +kernel
theorem dX4_inside_39 : decode cX4_inside 39 = .ok (.iload_n 2, 1) := by decide +kernel
theorem dX4_inside_40 : decode cX4_inside 40 = .ok (.invokevirtual 30, 3) := by decide +kernel
theorem dX4_inside_43 : decode cX4_inside 43 = .ok (.invokevirtual 46, 3) := by decide +kernel
theorem dX4_inside_46 : decode cX4_inside 46 = .ok (.ifCond .eq 7, 3) := by decide +kernel
theorem dX4_inside_49 : decode cX4_inside 49 = .ok (.iconst 1, 1) := by decide +kernel
theorem dX4_inside_50 : decode cX4_inside 50 = .ok (.goto 4, 3) := by decide +kernel
theorem dX4_inside_53 : decode cX4_inside 53 = .ok (.iconst 0, 1) := by decide +kernel
theorem dX4_inside_54 : decode cX4_inside 54 = .ok (.iadd, 1) := by decide +kernel
theorem dX4_inside_55 : decode cX4_inside 55 = .ok (.ireturn, 1) := by decide +kernel
theorem dX4_parts_0 : decode cX4_parts 0 = .ok (.aload_n 0, 1) := by decide +kernel
theorem dX4_parts_1 : decode cX4_parts 1 = .ok (.iload_n 1, 1) := by decide +kernel
theorem dX4_parts_2 : decode cX4_parts 2 = .ok (.invokevirtual 33, 3) := by decide +kernel
theorem dX4_parts_5 : decode cX4_parts 5 = .ok (.iload_n 2, 1) := by decide +kernel
theorem dX4_parts_6 : decode cX4_parts 6 = .ok (.if_icmp .ge 16, 3) := by decide +kernel
theorem dX4_parts_9 : decode cX4_parts 9 = .ok (.iload_n 2, 1) := by decide +kernel
theorem dX4_parts_10 : decode cX4_parts 10 = .ok (.aload_n 0, 1) := by decide +kernel
theorem dX4_parts_11 : decode cX4_parts 11 = .ok (.iload_n 1, 1) := by decide +kernel
theorem dX4_parts_12 : decode cX4_parts 12 = .ok (.invokevirtual 30, 3) := by decide +kernel
theorem dX4_parts_15 : decode cX4_parts 15 = .ok (.if_icmp .ge 7, 3) := by decide +kernel
theorem dX4_parts_18 : decode cX4_parts 18 = .ok (.iconst 1, 1) := by decide +kernel
theorem dX4_parts_19 : decode cX4_parts 19 = .ok (.goto 4, 3) := by decide +kernel
theorem dX4_parts_22 : decode cX4_parts 22 = .ok (.iconst 0, 1) := by decide +kernel
theorem dX4_parts_23 : decode cX4_parts 23 = .ok (.ireturn, 1) := by decide +kernel
theorem dX4_stretch_0 : decode cX4_stretch 0 = .ok (.aload_n 0, 1) := by decide +kernel
theorem dX4_stretch_1 : decode cX4_stretch 1 = .ok (.getfield 11, 3) := by decide +kernel
theorem dX4_stretch_4 : decode cX4_stretch 4 = .ok (.iconst 0, 1) := by decide +kernel
theorem dX4_stretch_5 : decode cX4_stretch 5 = .ok (.iload_n 1, 1) := by decide +kernel
theorem dX4_stretch_6 : decode cX4_stretch 6 = .ok (.iastore, 1) := by decide +kernel
theorem dX4_stretch_7 : decode cX4_stretch 7 = .ok (.return_, 1) := by decide +kernel
theorem dX4_enter_0 : decode cX4_enter 0 = .ok (.iload_n 1, 1) := by decide +kernel
theorem dX4_enter_1 : decode cX4_enter 1 = .ok (.invokestatic 50, 3) := by decide +kernel
theorem dX4_enter_4 : decode cX4_enter 4 = .ok (.ifCond .eq 11, 3) := by decide +kernel
theorem dX4_enter_7 : decode cX4_enter 7 = .ok (.aload_n 0, 1) := by decide +kernel
theorem dX4_enter_8 : decode cX4_enter 8 = .ok (.iload_n 1, 1) := by decide +kernel
theorem dX4_enter_9 : decode cX4_enter 9 = .ok (.invokevirtual 36, 3) := by decide +kernel
theorem dX4_enter_12 : decode cX4_enter 12 = .ok (.ifCond .eq 4, 3) := by decide +kernel
theorem dX4_enter_15 : decode cX4_enter 15 = .ok (.return_, 1) := by decide +kernel
theorem dX4_enter_16 : decode cX4_enter 16 = .ok (.aload_n 0, 1) := by decide +kernel
theorem dX4_enter_17 : decode cX4_enter 17 = .ok (.getfield 11, 3) := by decide +kernel
theorem dX4_enter_20 : decode cX4_enter 20 = .ok (.iconst 5, 1) := by decide +kernel
theorem dX4_enter_21 : decode cX4_enter 21 = .ok (.iload_n 1, 1) := by decide +kernel
theorem dX4_enter_22 : decode cX4_enter 22 = .ok (.iadd, 1) := by decide +kernel
theorem dX4_enter_23 : decode cX4_enter 23 = .ok (.iload_n 2, 1) := by decide +kernel
theorem dX4_enter_24 : decode cX4_enter 24 = .ok (.iastore, 1) := by decide +kernel
theorem dX4_enter_25 : decode cX4_enter 25 = .ok (.aload_n 0, 1) := by decide +kernel
theorem dX4_enter_26 : decode cX4_enter 26 = .ok (.getfield 11, 3) := by decide +kernel
theorem dX4_enter_29 : decode cX4_enter 29 = .ok (.bipush 13, 2) := by decide +kernel
theorem dX4_enter_31 : decode cX4_enter 31 = .ok (.iload_n 1, 1) := by decide +kernel
theorem dX4_enter_32 : decode cX4_enter 32 = .ok (.iadd, 1) := by decide +kernel
theorem dX4_enter_33 : decode cX4_enter 33 = .ok (.iload_n 3, 1) := by decide +kernel
theorem dX4_enter_34 : decode cX4_enter 34 = .ok (.iastore, 1) := by decide +kernel
theorem dX4_enter_35 : decode cX4_enter 35 = .ok (.aload_n 0, 1) := by decide +kernel
theorem dX4_enter_36 : decode cX4_enter 36 = .ok (.getfield 11, 3) := by decide +kernel
theorem dX4_enter_39 : decode cX4_enter 39 = .ok (.iconst 3, 1) := by decide +kernel
theorem dX4_enter_40 : decode cX4_enter 40 = .ok (.dup2, 1) := by decide +kernel
theorem dX4_enter_41 : decode cX4_enter 41 = .ok (.iaload, 1) := by decide +kernel
theorem dX4_enter_42 : decode cX4_enter 42 = .ok (.iload_n 1, 1) := by decide +kernel
theorem dX4_enter_43 : decode cX4_enter 43 = .ok (.invokestatic 40, 3) := by decide +kernel
theorem dX4_enter_46 : decode cX4_enter 46 = .ok (.ior, 1) := by decide +kernel
theorem dX4_enter_47 : decode cX4_enter 47 = .ok (.iastore, 1) := by decide +kernel
theorem dX4_enter_48 : decode cX4_enter 48 = .ok (.aload_n 0, 1) := by decide +kernel
theorem dX4_enter_49 : decode cX4_enter 49 = .ok (.getfield 11, 3) := by decide +kernel
theorem dX4_enter_52 : decode cX4_enter 52 = .ok (.iconst 4, 1) := by decide +kernel
theorem dX4_enter_53 : decode cX4_enter 53 = .ok (.dup2, 1) := by decide +kernel
theorem dX4_enter_54 : decode cX4_enter 54 = .ok (.iaload, 1) := by decide +kernel
theorem dX4_enter_55 : decode cX4_enter 55 = .ok (.aload_n 0, 1) := by decide +kernel
theorem dX4_enter_56 : decode cX4_enter 56 = .ok (.iload_n 1, 1) := by decide +kernel
theorem dX4_enter_57 : decode cX4_enter 57 = .ok (.invokevirtual 43, 3) := by decide +kernel
theorem dX4_enter_60 : decode cX4_enter 60 = .ok (.ior, 1) := by decide +kernel
theorem dX4_enter_61 : decode cX4_enter 61 = .ok (.iastore, 1) := by decide +kernel
theorem dX4_enter_62 : decode cX4_enter 62 = .ok (.aload_n 0, 1) := by decide +kernel
theorem dX4_enter_63 : decode cX4_enter 63 = .ok (.iload_n 1, 1) := by decide +kernel
theorem dX4_enter_64 : decode cX4_enter 64 = .ok (.iconst 0, 1) := by decide +kernel
theorem dX4_enter_65 : decode cX4_enter 65 = .ok (.iload_n 2, 1) := by decide +kernel
theorem dX4_enter_66 : decode cX4_enter 66 = .ok (.invokevirtual 53, 3) := by decide +kernel
theorem dX4_enter_69 : decode cX4_enter 69 = .ok (.return_, 1) := by decide +kernel
theorem dX4_depart_0 : decode cX4_depart 0 = .ok (.aload_n 0, 1) := by decide +kernel
theorem dX4_depart_1 : decode cX4_depart 1 = .ok (.iload_n 1, 1) := by decide +kernel
theorem dX4_depart_2 : decode cX4_depart 2 = .ok (.invokevirtual 36, 3) := by decide +kernel
theorem dX4_depart_5 : decode cX4_depart 5 = .ok (.ifCond .ne 4, 3) := by decide +kernel
theorem dX4_depart_8 : decode cX4_depart 8 = .ok (.return_, 1) := by decide +kernel
theorem dX4_depart_9 : decode cX4_depart 9 = .ok (.aload_n 0, 1) := by decide +kernel
theorem dX4_depart_10 : decode cX4_depart 10 = .ok (.iload_n 1, 1) := by decide +kernel
theorem dX4_depart_11 : decode cX4_depart 11 = .ok (.iload_n 2, 1) := by decide +kernel
theorem dX4_depart_12 : decode cX4_depart 12 = .ok (.aload_n 0, 1) := by decide +kernel
theorem dX4_depart_13 : decode cX4_depart 13 = .ok (.iload_n 1, 1) := by decide +kernel
theorem dX4_depart_14 : decode cX4_depart 14 = .ok (.invokevirtual 33, 3) := by decide +kernel
theorem dX4_depart_17 : decode cX4_depart 17 = .ok (.invokevirtual 53, 3) := by decide +kernel
theorem dX4_depart_20 : decode cX4_depart 20 = .ok (.aload_n 0, 1) := by decide +kernel
theorem dX4_depart_21 : decode cX4_depart 21 = .ok (.getfield 11, 3) := by decide +kernel
theorem dX4_depart_24 : decode cX4_depart 24 = .ok (.iconst 3, 1) := by decide +kernel
theorem dX4_depart_25 : decode cX4_depart 25 = .ok (.dup2, 1) := by decide +kernel
theorem dX4_depart_26 : decode cX4_depart 26 = .ok (.iaload, 1) := by decide +kernel
theorem dX4_depart_27 : decode cX4_depart 27 = .ok (.iload_n 1, 1) := by decide +kernel
theorem dX4_depart_28 : decode cX4_depart 28 = .ok (.invokestatic 40, 3) := by decide +kernel
theorem dX4_depart_31 : decode cX4_depart 31 = .ok (.iconst (-1), 1) := by decide +kernel
theorem dX4_depart_32 : decode cX4_depart 32 = .ok (.ixor, 1) := by decide +kernel
theorem dX4_depart_33 : decode cX4_depart 33 = .ok (.iand, 1) := by decide +kernel
theorem dX4_depart_34 : decode cX4_depart 34 = .ok (.iastore, 1) := by decide +kernel
theorem dX4_depart_35 : decode cX4_depart 35 = .ok (.aload_n 0, 1) := by decide +kernel
theorem dX4_depart_36 : decode cX4_depart 36 = .ok (.getfield 11, 3) := by decide +kernel
theorem dX4_depart_39 : decode cX4_depart 39 = .ok (.iconst 4, 1) := by decide +kernel
theorem dX4_depart_40 : decode cX4_depart 40 = .ok (.dup2, 1) := by decide +kernel
theorem dX4_depart_41 : decode cX4_depart 41 = .ok (.iaload, 1) := by decide +kernel
theorem dX4_depart_42 : decode cX4_depart 42 = .ok (.aload_n 0, 1) := by decide +kernel
theorem dX4_depart_43 : decode cX4_depart 43 = .ok (.iload_n 1, 1) := by decide +kernel
theorem dX4_depart_44 : decode cX4_depart 44 = .ok (.invokevirtual 43, 3) := by decide +kernel
theorem dX4_depart_47 : decode cX4_depart 47 = .ok (.iconst (-1), 1) := by decide +kernel
theorem dX4_depart_48 : decode cX4_depart 48 = .ok (.ixor, 1) := by decide +kernel
theorem dX4_depart_49 : decode cX4_depart 49 = .ok (.iand, 1) := by decide +kernel
theorem dX4_depart_50 : decode cX4_depart 50 = .ok (.iastore, 1) := by decide +kernel
theorem dX4_depart_51 : decode cX4_depart 51 = .ok (.aload_n 0, 1) := by decide +kernel
theorem dX4_depart_52 : decode cX4_depart 52 = .ok (.getfield 11, 3) := by decide +kernel
theorem dX4_depart_55 : decode cX4_depart 55 = .ok (.iconst 5, 1) := by decide +kernel
theorem dX4_depart_56 : decode cX4_depart 56 = .ok (.iload_n 1, 1) := by decide +kernel
theorem dX4_depart_57 : decode cX4_depart 57 = .ok (.iadd, 1) := by decide +kernel
theorem dX4_depart_58 : decode cX4_depart 58 = .ok (.iconst (-1), 1) := by decide +kernel
theorem dX4_depart_59 : decode cX4_depart 59 = .ok (.iastore, 1) := by decide +kernel
theorem dX4_depart_60 : decode cX4_depart 60 = .ok (.aload_n 0, 1) := by decide +kernel
theorem dX4_depart_61 : decode cX4_depart 61 = .ok (.getfield 11, 3) := by decide +kernel
theorem dX4_depart_64 : decode cX4_depart 64 = .ok (.bipush 13, 2) := by decide +kernel
theorem dX4_depart_66 : decode cX4_depart 66 = .ok (.iload_n 1, 1) := by decide +kernel
theorem dX4_depart_67 : decode cX4_depart 67 = .ok (.iadd, 1) := by decide +kernel
theorem dX4_depart_68 : decode cX4_depart 68 = .ok (.iconst (-1), 1) := by decide +kernel
theorem dX4_depart_69 : decode cX4_depart 69 = .ok (.iastore, 1) := by decide +kernel
theorem dX4_depart_70 : decode cX4_depart 70 = .ok (.aload_n 0, 1) := by decide +kernel
theorem dX4_depart_71 : decode cX4_depart 71 = .ok (.getfield 11, 3) := by decide +kernel
theorem dX4_depart_74 : decode cX4_depart 74 = .ok (.bipush 21, 2) := by decide +kernel
theorem dX4_depart_76 : decode cX4_depart 76 = .ok (.iload_n 1, 1) := by decide +kernel
theorem dX4_depart_77 : decode cX4_depart 77 = .ok (.iadd, 1) := by decide +kernel
theorem dX4_depart_78 : decode cX4_depart 78 = .ok (.iconst 0, 1) := by decide +kernel
theorem dX4_depart_79 : decode cX4_depart 79 = .ok (.iastore, 1) := by decide +kernel
theorem dX4_depart_80 : decode cX4_depart 80 = .ok (.return_, 1) := by decide +kernel
theorem dX4_reverse_0 : decode cX4_reverse 0 = .ok (.aload_n 0, 1) := by decide +kernel
theorem dX4_reverse_1 : decode cX4_reverse 1 = .ok (.invokevirtual 57, 3) := by decide +kernel
theorem dX4_reverse_4 : decode cX4_reverse 4 = .ok (.iconst 1, 1) := by decide +kernel
theorem dX4_reverse_5 : decode cX4_reverse 5 = .ok (.isub, 1) := by decide +kernel
theorem dX4_reverse_6 : decode cX4_reverse 6 = .ok (.istore_n 1, 1) := by decide +kernel
theorem dX4_reverse_7 : decode cX4_reverse 7 = .ok (.iconst 1, 1) := by decide +kernel
theorem dX4_reverse_8 : decode cX4_reverse 8 = .ok (.istore_n 2, 1) := by decide +kernel
theorem dX4_reverse_9 : decode cX4_reverse 9 = .ok (.iload_n 2, 1) := by decide +kernel
theorem dX4_reverse_10 : decode cX4_reverse 10 = .ok (.bipush 8, 2) := by decide +kernel
theorem dX4_reverse_12 : decode cX4_reverse 12 = .ok (.if_icmp .gt 57, 3) := by decide +kernel
theorem dX4_reverse_15 : decode cX4_reverse 15 = .ok (.aload_n 0, 1) := by decide +kernel
theorem dX4_reverse_16 : decode cX4_reverse 16 = .ok (.iload_n 2, 1) := by decide +kernel
theorem dX4_reverse_17 : decode cX4_reverse 17 = .ok (.invokevirtual 36, 3) := by decide +kernel
theorem dX4_reverse_20 : decode cX4_reverse 20 = .ok (.ifCond .eq 43, 3) := by decide +kernel
theorem dX4_reverse_23 : decode cX4_reverse 23 = .ok (.aload_n 0, 1) := by decide +kernel
theorem dX4_reverse_24 : decode cX4_reverse 24 = .ok (.getfield 11, 3) := by decide +kernel
theorem dX4_reverse_27 : decode cX4_reverse 27 = .ok (.iconst 5, 1) := by decide +kernel
theorem dX4_reverse_28 : decode cX4_reverse 28 = .ok (.iload_n 2, 1) := by decide +kernel
theorem dX4_reverse_29 : decode cX4_reverse 29 = .ok (.iadd, 1) := by decide +kernel
theorem dX4_reverse_30 : decode cX4_reverse 30 = .ok (.iaload, 1) := by decide +kernel
theorem dX4_reverse_31 : decode cX4_reverse 31 = .ok (.istore_n 3, 1) := by decide +kernel
theorem dX4_reverse_32 : decode cX4_reverse 32 = .ok (.aload_n 0, 1) := by decide +kernel
theorem dX4_reverse_33 : decode cX4_reverse 33 = .ok (.getfield 11, 3) := by decide +kernel
theorem dX4_reverse_36 : decode cX4_reverse 36 = .ok (.iconst 5, 1) := by decide +kernel
theorem dX4_reverse_37 : decode cX4_reverse 37 = .ok (.iload_n 2, 1) := by decide +kernel
theorem dX4_reverse_38 : decode cX4_reverse 38 = .ok (.iadd, 1) := by decide +kernel
theorem dX4_reverse_39 : decode cX4_reverse 39 = .ok (.iload_n 1, 1) := by decide +kernel
theorem dX4_reverse_40 : decode cX4_reverse 40 = .ok (.aload_n 0, 1) := by decide +kernel
theorem dX4_reverse_41 : decode cX4_reverse 41 = .ok (.getfield 11, 3) := by decide +kernel
theorem dX4_reverse_44 : decode cX4_reverse 44 = .ok (.bipush 13, 2) := by decide +kernel
theorem dX4_reverse_46 : decode cX4_reverse 46 = .ok (.iload_n 2, 1) := by decide +kernel
theorem dX4_reverse_47 : decode cX4_reverse 47 = .ok (.iadd, 1) := by decide +kernel
theorem dX4_reverse_48 : decode cX4_reverse 48 = .ok (.iaload, 1) := by decide +kernel
theorem dX4_reverse_49 : decode cX4_reverse 49 = .ok (.isub, 1) := by decide +kernel
theorem dX4_reverse_50 : decode cX4_reverse 50 = .ok (.iastore, 1) := by decide +kernel
theorem dX4_reverse_51 : decode cX4_reverse 51 = .ok (.aload_n 0, 1) := by decide +kernel
theorem dX4_reverse_52 : decode cX4_reverse 52 = .ok (.getfield 11, 3) := by decide +kernel
theorem dX4_reverse_55 : decode cX4_reverse 55 = .ok (.bipush 13, 2) := by decide +kernel
theorem dX4_reverse_57 : decode cX4_reverse 57 = .ok (.iload_n 2, 1) := by decide +kernel
theorem dX4_reverse_58 : decode cX4_reverse 58 = .ok (.iadd, 1) := by decide +kernel
theorem dX4_reverse_59 : decode cX4_reverse 59 = .ok (.iload_n 1, 1) := by decide +kernel
theorem dX4_reverse_60 : decode cX4_reverse 60 = .ok (.iload_n 3, 1) := by decide +kernel
theorem dX4_reverse_61 : decode cX4_reverse 61 = .ok (.isub, 1) := by decide +kernel
theorem dX4_reverse_62 : decode cX4_reverse 62 = .ok (.iastore, 1) := by decide +kernel
theorem dX4_reverse_63 : decode cX4_reverse 63 = .ok (.iinc 2 1, 3) := by decide +kernel
theorem dX4_reverse_66 : decode cX4_reverse 66 = .ok (.goto (-57), 3) := by decide +kernel
theorem dX4_reverse_69 : decode cX4_reverse 69 = .ok (.aload_n 0, 1) := by decide +kernel
theorem dX4_reverse_70 : decode cX4_reverse 70 = .ok (.getfield 11, 3) := by decide +kernel
theorem dX4_reverse_73 : decode cX4_reverse 73 = .ok (.iconst 4, 1) := by decide +kernel
theorem dX4_reverse_74 : decode cX4_reverse 74 = .ok (.aload_n 0, 1) := by decide +kernel
theorem dX4_reverse_75 : decode cX4_reverse 75 = .ok (.sipush 255, 3) := by decide +kernel
theorem dX4_reverse_78 : decode cX4_reverse 78 = .ok (.invokevirtual 61, 3) := by decide +kernel
theorem dX4_reverse_81 : decode cX4_reverse 81 = .ok (.iastore, 1) := by decide +kernel
theorem dX4_reverse_82 : decode cX4_reverse 82 = .ok (.return_, 1) := by decide +kernel
theorem dX4_canMove_0 : decode cX4_canMove 0 = .ok (.iconst 1, 1) := by decide +kernel
theorem dX4_canMove_1 : decode cX4_canMove 1 = .ok (.istore_n 2, 1) := by decide +kernel
theorem dX4_canMove_2 : decode cX4_canMove 2 = .ok (.iload_n 2, 1) := by decide +kernel
theorem dX4_canMove_3 : decode cX4_canMove 3 = .ok (.bipush 8, 2) := by decide +kernel
theorem dX4_canMove_5 : decode cX4_canMove 5 = .ok (.if_icmp .gt 43, 3) := by decide +kernel
theorem dX4_canMove_8 : decode cX4_canMove 8 = .ok (.aload_n 0, 1) := by decide +kernel
theorem dX4_canMove_9 : decode cX4_canMove 9 = .ok (.iload_n 2, 1) := by decide +kernel
theorem dX4_canMove_10 : decode cX4_canMove 10 = .ok (.invokevirtual 36, 3) := by decide +kernel
theorem dX4_canMove_13 : decode cX4_canMove 13 = .ok (.ifCond .eq 29, 3) := by decide +kernel
theorem dX4_canMove_16 : decode cX4_canMove 16 = .ok (.aload_n 0, 1) := by decide +kernel
theorem dX4_canMove_17 : decode cX4_canMove 17 = .ok (.iload_n 2, 1) := by decide +kernel
theorem dX4_canMove_18 : decode cX4_canMove 18 = .ok (.invokevirtual 33, 3) := by decide +kernel
theorem dX4_canMove_21 : decode cX4_canMove 21 = .ok (.iload_n 1, 1) := by decide +kernel
theorem dX4_canMove_22 : decode cX4_canMove 22 = .ok (.iadd, 1) := by decide +kernel
theorem dX4_canMove_23 : decode cX4_canMove 23 = .ok (.ifCond .lt 17, 3) := by decide +kernel
theorem dX4_canMove_26 : decode cX4_canMove 26 = .ok (.aload_n 0, 1) := by decide +kernel
theorem dX4_canMove_27 : decode cX4_canMove 27 = .ok (.iload_n 2, 1) := by decide +kernel
theorem dX4_canMove_28 : decode cX4_canMove 28 = .ok (.invokevirtual 30, 3) := by decide +kernel
theorem dX4_canMove_31 : decode cX4_canMove 31 = .ok (.iload_n 1, 1) := by decide +kernel
theorem dX4_canMove_32 : decode cX4_canMove 32 = .ok (.iadd, 1) := by decide +kernel
theorem dX4_canMove_33 : decode cX4_canMove 33 = .ok (.aload_n 0, 1) := by decide +kernel
theorem dX4_canMove_34 : decode cX4_canMove 34 = .ok (.invokevirtual 57, 3) := by decide +kernel
theorem dX4_canMove_37 : decode cX4_canMove 37 = .ok (.if_icmp .lt 5, 3) := by decide +kernel
theorem dX4_canMove_40 : decode cX4_canMove 40 = .ok (.iconst 0, 1) := by decide +kernel
theorem dX4_canMove_41 : decode cX4_canMove 41 = .ok (.ireturn, 1) := by decide +kernel
theorem dX4_canMove_42 : decode cX4_canMove 42 = .ok (.iinc 2 1, 3) := by decide +kernel
theorem dX4_canMove_45 : decode cX4_canMove 45 = .ok (.goto (-43), 3) := by decide +kernel
theorem dX4_canMove_48 : decode cX4_canMove 48 = .ok (.aload_n 0, 1) := by decide +kernel
theorem dX4_canMove_49 : decode cX4_canMove 49 = .ok (.getfield 11, 3) := by decide +kernel
theorem dX4_canMove_52 : decode cX4_canMove 52 = .ok (.iconst 3, 1) := by decide +kernel
theorem dX4_canMove_53 : decode cX4_canMove 53 = .ok (.iaload, 1) := by decide +kernel
theorem dX4_canMove_54 : decode cX4_canMove 54 = .ok (.ifCond .eq 7, 3) := by decide +kernel
theorem dX4_canMove_57 : decode cX4_canMove 57 = .ok (.iconst 1, 1) := by decide +kernel
theorem dX4_canMove_58 : decode cX4_canMove 58 = .ok (.goto 4, 3) := by decide +kernel
theorem dX4_canMove_61 : decode cX4_canMove 61 = .ok (.iconst 0, 1) := by decide +kernel
theorem dX4_canMove_62 : decode cX4_canMove 62 = .ok (.ireturn, 1) := by decide +kernel
theorem dX4_move_0 : decode cX4_move 0 = .ok (.iconst 1, 1) := by decide +kernel
theorem dX4_move_1 : decode cX4_move 1 = .ok (.istore_n 2, 1) := by decide +kernel
theorem dX4_move_2 : decode cX4_move 2 = .ok (.iload_n 2, 1) := by decide +kernel
theorem dX4_move_3 : decode cX4_move 3 = .ok (.bipush 8, 2) := by decide +kernel
theorem dX4_move_5 : decode cX4_move 5 = .ok (.if_icmp .gt 42, 3) := by decide +kernel
theorem dX4_move_8 : decode cX4_move 8 = .ok (.aload_n 0, 1) := by decide +kernel
theorem dX4_move_9 : decode cX4_move 9 = .ok (.iload_n 2, 1) := by decide +kernel
theorem dX4_move_10 : decode cX4_move 10 = .ok (.invokevirtual 36, 3) := by decide +kernel
theorem dX4_move_13 : decode cX4_move 13 = .ok (.ifCond .eq 28, 3) := by decide +kernel
theorem dX4_move_16 : decode cX4_move 16 = .ok (.aload_n 0, 1) := by decide +kernel
theorem dX4_move_17 : decode cX4_move 17 = .ok (.getfield 11, 3) := by decide +kernel
theorem dX4_move_20 : decode cX4_move 20 = .ok (.iconst 5, 1) := by decide +kernel
theorem dX4_move_21 : decode cX4_move 21 = .ok (.iload_n 2, 1) := by decide +kernel
theorem dX4_move_22 : decode cX4_move 22 = .ok (.iadd, 1) := by decide +kernel
theorem dX4_move_23 : decode cX4_move 23 = .ok (.dup2, 1) := by decide +kernel
theorem dX4_move_24 : decode cX4_move 24 = .ok (.iaload, 1) := by decide +kernel
theorem dX4_move_25 : decode cX4_move 25 = .ok (.iload_n 1, 1) := by decide +kernel
theorem dX4_move_26 : decode cX4_move 26 = .ok (.iadd, 1) := by decide +kernel
theorem dX4_move_27 : decode cX4_move 27 = .ok (.iastore, 1) := by decide +kernel
theorem dX4_move_28 : decode cX4_move 28 = .ok (.aload_n 0, 1) := by decide +kernel
theorem dX4_move_29 : decode cX4_move 29 = .ok (.getfield 11, 3) := by decide +kernel
theorem dX4_move_32 : decode cX4_move 32 = .ok (.bipush 13, 2) := by decide +kernel
theorem dX4_move_34 : decode cX4_move 34 = .ok (.iload_n 2, 1) := by decide +kernel
theorem dX4_move_35 : decode cX4_move 35 = .ok (.iadd, 1) := by decide +kernel
theorem dX4_move_36 : decode cX4_move 36 = .ok (.dup2, 1) := by decide +kernel
theorem dX4_move_37 : decode cX4_move 37 = .ok (.iaload, 1) := by decide +kernel
theorem dX4_move_38 : decode cX4_move 38 = .ok (.iload_n 1, 1) := by decide +kernel
theorem dX4_move_39 : decode cX4_move 39 = .ok (.iadd, 1) := by decide +kernel
theorem dX4_move_40 : decode cX4_move 40 = .ok (.iastore, 1) := by decide +kernel
theorem dX4_move_41 : decode cX4_move 41 = .ok (.iinc 2 1, 3) := by decide +kernel
theorem dX4_move_44 : decode cX4_move 44 = .ok (.goto (-42), 3) := by decide +kernel
theorem dX4_move_47 : decode cX4_move 47 = .ok (.aload_n 0, 1) := by decide +kernel
theorem dX4_move_48 : decode cX4_move 48 = .ok (.getfield 11, 3) := by decide +kernel
theorem dX4_move_51 : decode cX4_move 51 = .ok (.iconst 4, 1) := by decide +kernel
theorem dX4_move_52 : decode cX4_move 52 = .ok (.aload_n 0, 1) := by decide +kernel
theorem dX4_move_53 : decode cX4_move 53 = .ok (.sipush 255, 3) := by decide +kernel
theorem dX4_move_56 : decode cX4_move 56 = .ok (.invokevirtual 61, 3) := by decide +kernel
theorem dX4_move_59 : decode cX4_move 59 = .ok (.iastore, 1) := by decide +kernel
theorem dX4_move_60 : decode cX4_move 60 = .ok (.return_, 1) := by decide +kernel
theorem dX4_age_0 : decode cX4_age 0 = .ok (.aload_n 0, 1) := by decide +kernel
theorem dX4_age_1 : decode cX4_age 1 = .ok (.iload_n 1, 1) := by decide +kernel
theorem dX4_age_2 : decode cX4_age 2 = .ok (.invokevirtual 36, 3) := by decide +kernel
theorem dX4_age_5 : decode cX4_age 5 = .ok (.ifCond .eq 30, 3) := by decide +kernel
theorem dX4_age_8 : decode cX4_age 8 = .ok (.aload_n 0, 1) := by decide +kernel
theorem dX4_age_9 : decode cX4_age 9 = .ok (.getfield 11, 3) := by decide +kernel
theorem dX4_age_12 : decode cX4_age 12 = .ok (.bipush 21, 2) := by decide +kernel
theorem dX4_age_14 : decode cX4_age 14 = .ok (.iload_n 1, 1) := by decide +kernel
theorem dX4_age_15 : decode cX4_age 15 = .ok (.iadd, 1) := by decide +kernel
theorem dX4_age_16 : decode cX4_age 16 = .ok (.iaload, 1) := by decide +kernel
theorem dX4_age_17 : decode cX4_age 17 = .ok (.bipush 99, 2) := by decide +kernel
theorem dX4_age_19 : decode cX4_age 19 = .ok (.if_icmp .ge 16, 3) := by decide +kernel
theorem dX4_age_22 : decode cX4_age 22 = .ok (.aload_n 0, 1) := by decide +kernel
theorem dX4_age_23 : decode cX4_age 23 = .ok (.getfield 11, 3) := by decide +kernel
theorem dX4_age_26 : decode cX4_age 26 = .ok (.bipush 21, 2) := by decide +kernel
theorem dX4_age_28 : decode cX4_age 28 = .ok (.iload_n 1, 1) := by decide +kernel
theorem dX4_age_29 : decode cX4_age 29 = .ok (.iadd, 1) := by decide +kernel
theorem dX4_age_30 : decode cX4_age 30 = .ok (.dup2, 1) := by decide +kernel
theorem dX4_age_31 : decode cX4_age 31 = .ok (.iaload, 1) := by decide +kernel
theorem dX4_age_32 : decode cX4_age 32 = .ok (.iconst 1, 1) := by decide +kernel
theorem dX4_age_33 : decode cX4_age 33 = .ok (.iadd, 1) := by decide +kernel
theorem dX4_age_34 : decode cX4_age 34 = .ok (.iastore, 1) := by decide +kernel
theorem dX4_age_35 : decode cX4_age 35 = .ok (.return_, 1) := by decide +kernel
theorem dX4_dawn_0 : decode cX4_dawn 0 = .ok (.aload_n 0, 1) := by decide +kernel
theorem dX4_dawn_1 : decode cX4_dawn 1 = .ok (.getfield 11, 3) := by decide +kernel
theorem dX4_dawn_4 : decode cX4_dawn 4 = .ok (.iconst 1, 1) := by decide +kernel
theorem dX4_dawn_5 : decode cX4_dawn 5 = .ok (.dup2, 1) := by decide +kernel
theorem dX4_dawn_6 : decode cX4_dawn 6 = .ok (.iaload, 1) := by decide +kernel
theorem dX4_dawn_7 : decode cX4_dawn 7 = .ok (.iconst 1, 1) := by decide +kernel
theorem dX4_dawn_8 : decode cX4_dawn 8 = .ok (.iadd, 1) := by decide +kernel
theorem dX4_dawn_9 : decode cX4_dawn 9 = .ok (.iastore, 1) := by decide +kernel
theorem dX4_dawn_10 : decode cX4_dawn 10 = .ok (.return_, 1) := by decide +kernel
theorem dX4_sow_0 : decode cX4_sow 0 = .ok (.aload_n 0, 1) := by decide +kernel
theorem dX4_sow_1 : decode cX4_sow 1 = .ok (.getfield 11, 3) := by decide +kernel
theorem dX4_sow_4 : decode cX4_sow 4 = .ok (.iconst 2, 1) := by decide +kernel
theorem dX4_sow_5 : decode cX4_sow 5 = .ok (.iload_n 1, 1) := by decide +kernel
theorem dX4_sow_6 : decode cX4_sow 6 = .ok (.iastore, 1) := by decide +kernel
theorem dX4_sow_7 : decode cX4_sow 7 = .ok (.return_, 1) := by decide +kernel
theorem dX4_draw_0 : decode cX4_draw 0 = .ok (.aload_n 0, 1) := by decide +kernel
theorem dX4_draw_1 : decode cX4_draw 1 = .ok (.getfield 11, 3) := by decide +kernel
theorem dX4_draw_4 : decode cX4_draw 4 = .ok (.iconst 2, 1) := by decide +kernel
theorem dX4_draw_5 : decode cX4_draw 5 = .ok (.iaload, 1) := by decide +kernel
theorem dX4_draw_6 : decode cX4_draw 6 = .ok (.istore_n 1, 1) := by decide +kernel
theorem dX4_draw_7 : decode cX4_draw 7 = .ok (.aload_n 0, 1) := by decide +kernel
theorem dX4_draw_8 : decode cX4_draw 8 = .ok (.getfield 11, 3) := by decide +kernel
theorem dX4_draw_11 : decode cX4_draw 11 = .ok (.iconst 2, 1) := by decide +kernel
theorem dX4_draw_12 : decode cX4_draw 12 = .ok (.iload_n 1, 1) := by decide +kernel
theorem dX4_draw_13 : decode cX4_draw 13 = .ok (.sipush 701, 3) := by decide +kernel
theorem dX4_draw_16 : decode cX4_draw 16 = .ok (.imul, 1) := by decide +kernel
theorem dX4_draw_17 : decode cX4_draw 17 = .ok (.sipush 571, 3) := by decide +kernel
theorem dX4_draw_20 : decode cX4_draw 20 = .ok (.iadd, 1) := by decide +kernel
theorem dX4_draw_21 : decode cX4_draw 21 = .ok (.sipush 31019, 3) := by decide +kernel
theorem dX4_draw_24 : decode cX4_draw 24 = .ok (.irem, 1) := by decide +kernel
theorem dX4_draw_25 : decode cX4_draw 25 = .ok (.iastore, 1) := by decide +kernel
theorem dX4_draw_26 : decode cX4_draw 26 = .ok (.iload_n 1, 1) := by decide +kernel
theorem dX4_draw_27 : decode cX4_draw 27 = .ok (.ireturn, 1) := by decide +kernel
theorem dX4_lines_0 : decode cX4_lines 0 = .ok (.aload_n 0, 1) := by decide +kernel
theorem dX4_lines_1 : decode cX4_lines 1 = .ok (.getfield 11, 3) := by decide +kernel
theorem dX4_lines_4 : decode cX4_lines 4 = .ok (.iconst 5, 1) := by decide +kernel
theorem dX4_lines_5 : decode cX4_lines 5 = .ok (.iaload, 1) := by decide +kernel
theorem dX4_lines_6 : decode cX4_lines 6 = .ok (.ireturn, 1) := by decide +kernel
theorem dX4_line_0 : decode cX4_line 0 = .ok (.iload_n 1, 1) := by decide +kernel
theorem dX4_line_1 : decode cX4_line 1 = .ok (.ifCond .lt 21, 3) := by decide +kernel
theorem dX4_line_4 : decode cX4_line 4 = .ok (.iload_n 1, 1) := by decide +kernel
theorem dX4_line_5 : decode cX4_line 5 = .ok (.bipush 25, 2) := by decide +kernel
theorem dX4_line_7 : decode cX4_line 7 = .ok (.if_icmp .ge 15, 3) := by decide +kernel
theorem dX4_line_10 : decode cX4_line 10 = .ok (.aload_n 0, 1) := by decide +kernel
theorem dX4_line_11 : decode cX4_line 11 = .ok (.getfield 11, 3) := by decide +kernel
theorem dX4_line_14 : decode cX4_line 14 = .ok (.bipush 30, 2) := by decide +kernel
theorem dX4_line_16 : decode cX4_line 16 = .ok (.iload_n 1, 1) := by decide +kernel
theorem dX4_line_17 : decode cX4_line 17 = .ok (.iadd, 1) := by decide +kernel
theorem dX4_line_18 : decode cX4_line 18 = .ok (.iaload, 1) := by decide +kernel
theorem dX4_line_19 : decode cX4_line 19 = .ok (.goto 4, 3) := by decide +kernel
theorem dX4_line_22 : decode cX4_line 22 = .ok (.iconst 0, 1) := by decide +kernel
theorem dX4_line_23 : decode cX4_line 23 = .ok (.ireturn, 1) := by decide +kernel
theorem dX4_latest_0 : decode cX4_latest 0 = .ok (.bipush 24, 2) := by decide +kernel
theorem dX4_latest_2 : decode cX4_latest 2 = .ok (.istore_n 1, 1) := by decide +kernel
theorem dX4_latest_3 : decode cX4_latest 3 = .ok (.iload_n 1, 1) := by decide +kernel
theorem dX4_latest_4 : decode cX4_latest 4 = .ok (.ifCond .lt 45, 3) := by decide +kernel
theorem dX4_latest_7 : decode cX4_latest 7 = .ok (.aload_n 0, 1) := by decide +kernel
theorem dX4_latest_8 : decode cX4_latest 8 = .ok (.getfield 11, 3) := by decide +kernel
theorem dX4_latest_11 : decode cX4_latest 11 = .ok (.bipush 30, 2) := by decide +kernel
theorem dX4_latest_13 : decode cX4_latest 13 = .ok (.iload_n 1, 1) := by decide +kernel
theorem dX4_latest_14 : decode cX4_latest 14 = .ok (.iadd, 1) := by decide +kernel
theorem dX4_latest_15 : decode cX4_latest 15 = .ok (.iaload, 1) := by decide +kernel
theorem dX4_latest_16 : decode cX4_latest 16 = .ok (.istore_n 2, 1) := by decide +kernel
theorem dX4_latest_17 : decode cX4_latest 17 = .ok (.iload_n 1, 1) := by decide +kernel
theorem dX4_latest_18 : decode cX4_latest 18 = .ok (.aload_n 0, 1) := by decide +kernel
theorem dX4_latest_19 : decode cX4_latest 19 = .ok (.getfield 11, 3) := by decide +kernel
theorem dX4_latest_22 : decode cX4_latest 22 = .ok (.iconst 5, 1) := by decide +kernel
theorem dX4_latest_23 : decode cX4_latest 23 = .ok (.iaload, 1) := by decide +kernel
theorem dX4_latest_24 : decode cX4_latest 24 = .ok (.if_icmp .ge 19, 3) := by decide +kernel
theorem dX4_latest_27 : decode cX4_latest 27 = .ok (.iload_n 2, 1) := by decide +kernel
theorem dX4_latest_28 : decode cX4_latest 28 = .ok (.iconst 4, 1) := by decide +kernel
theorem dX4_latest_29 : decode cX4_latest 29 = .ok (.iushr, 1) := by decide +kernel
theorem dX4_latest_30 : decode cX4_latest 30 = .ok (.iconst 3, 1) := by decide +kernel
theorem dX4_latest_31 : decode cX4_latest 31 = .ok (.iand, 1) := by decide +kernel
theorem dX4_latest_32 : decode cX4_latest 32 = .ok (.ifCond .ne 11, 3) := by decide +kernel
theorem dX4_latest_35 : decode cX4_latest 35 = .ok (.iload_n 2, 1) := by decide +kernel
theorem dX4_latest_36 : decode cX4_latest 36 = .ok (.bipush 6, 2) := by decide +kernel
theorem dX4_latest_38 : decode cX4_latest 38 = .ok (.iushr, 1) := by decide +kernel
theorem dX4_latest_39 : decode cX4_latest 39 = .ok (.bipush 15, 2) := by decide +kernel
theorem dX4_latest_41 : decode cX4_latest 41 = .ok (.iand, 1) := by decide +kernel
theorem dX4_latest_42 : decode cX4_latest 42 = .ok (.ireturn, 1) := by decide +kernel
theorem dX4_latest_43 : decode cX4_latest 43 = .ok (.iinc 1 (-1), 3) := by decide +kernel
theorem dX4_latest_46 : decode cX4_latest 46 = .ok (.goto (-43), 3) := by decide +kernel
theorem dX4_latest_49 : decode cX4_latest 49 = .ok (.iconst 0, 1) := by decide +kernel
theorem dX4_latest_50 : decode cX4_latest 50 = .ok (.ireturn, 1) := by decide +kernel
theorem dX4_write_0 : decode cX4_write 0 = .ok (.aload_n 0, 1) := by decide +kernel
theorem dX4_write_1 : decode cX4_write 1 = .ok (.getfield 11, 3) := by decide +kernel
theorem dX4_write_4 : decode cX4_write 4 = .ok (.iconst 5, 1) := by decide +kernel
theorem dX4_write_5 : decode cX4_write 5 = .ok (.iaload, 1) := by decide +kernel
theorem dX4_write_6 : decode cX4_write 6 = .ok (.istore 4, 2) := by decide +kernel
theorem dX4_write_8 : decode cX4_write 8 = .ok (.iload 4, 2) := by decide +kernel
theorem dX4_write_10 : decode cX4_write 10 = .ok (.bipush 25, 2) := by decide +kernel
theorem dX4_write_12 : decode cX4_write 12 = .ok (.if_icmp .lt 24, 3) := by decide +kernel
theorem dX4_write_15 : decode cX4_write 15 = .ok (.aload_n 0, 1) := by decide +kernel
theorem dX4_write_16 : decode cX4_write 16 = .ok (.getfield 11, 3) := by decide +kernel
theorem dX4_write_19 : decode cX4_write 19 = .ok (.bipush 31, 2) := by decide +kernel
theorem dX4_write_21 : decode cX4_write 21 = .ok (.aload_n 0, 1) := by decide +kernel
theorem dX4_write_22 : decode cX4_write 22 = .ok (.getfield 11, 3) := by decide +kernel
theorem dX4_write_25 : decode cX4_write 25 = .ok (.bipush 30, 2) := by decide +kernel
theorem dX4_write_27 : decode cX4_write 27 = .ok (.bipush 24, 2) := by decide +kernel
theorem dX4_write_29 : decode cX4_write 29 = .ok (.invokestatic 15, 3) := by decide +kernel
theorem dX4_write_32 : decode cX4_write 32 = .ok (.bipush 24, 2) := by decide +kernel
theorem dX4_write_34 : decode cX4_write 34 = .ok (.istore 4, 2) := by decide +kernel
theorem dX4_write_36 : decode cX4_write 36 = .ok (.iload 4, 2) := by decide +kernel
theorem dX4_write_38 : decode cX4_write 38 = .ok (.ifCond .lt 43, 3) := by decide +kernel
theorem dX4_write_41 : decode cX4_write 41 = .ok (.aload_n 0, 1) := by decide +kernel
theorem dX4_write_42 : decode cX4_write 42 = .ok (.getfield 11, 3) := by decide +kernel
theorem dX4_write_45 : decode cX4_write 45 = .ok (.bipush 30, 2) := by decide +kernel
theorem dX4_write_47 : decode cX4_write 47 = .ok (.iload 4, 2) := by decide +kernel
theorem dX4_write_49 : decode cX4_write 49 = .ok (.iadd, 1) := by decide +kernel
theorem dX4_write_50 : decode cX4_write 50 = .ok (.aload_n 0, 1) := by decide +kernel
theorem dX4_write_51 : decode cX4_write 51 = .ok (.getfield 11, 3) := by decide +kernel
theorem dX4_write_54 : decode cX4_write 54 = .ok (.iconst 1, 1) := by decide +kernel
theorem dX4_write_55 : decode cX4_write 55 = .ok (.iaload, 1) := by decide +kernel
theorem dX4_write_56 : decode cX4_write 56 = .ok (.bipush 10, 2) := by decide +kernel
theorem dX4_write_58 : decode cX4_write 58 = .ok (.ishl, 1) := by decide +kernel
theorem dX4_write_59 : decode cX4_write 59 = .ok (.iload_n 1, 1) := by decide +kernel
theorem dX4_write_60 : decode cX4_write 60 = .ok (.bipush 6, 2) := by decide +kernel
theorem dX4_write_62 : decode cX4_write 62 = .ok (.ishl, 1) := by decide +kernel
theorem dX4_write_63 : decode cX4_write 63 = .ok (.ior, 1) := by decide +kernel
theorem dX4_write_64 : decode cX4_write 64 = .ok (.iload_n 2, 1) := by decide +kernel
theorem dX4_write_65 : decode cX4_write 65 = .ok (.iconst 4, 1) := by decide +kernel
theorem dX4_write_66 : decode cX4_write 66 = .ok (.ishl, 1) := by decide +kernel
theorem dX4_write_67 : decode cX4_write 67 = .ok (.ior, 1) := by decide +kernel
theorem dX4_write_68 : decode cX4_write 68 = .ok (.iload_n 3, 1) := by decide +kernel
theorem dX4_write_69 : decode cX4_write 69 = .ok (.ior, 1) := by decide +kernel
theorem dX4_write_70 : decode cX4_write 70 = .ok (.iastore, 1) := by decide +kernel
theorem dX4_write_71 : decode cX4_write 71 = .ok (.aload_n 0, 1) := by decide +kernel
theorem dX4_write_72 : decode cX4_write 72 = .ok (.getfield 11, 3) := by decide +kernel
theorem dX4_write_75 : decode cX4_write 75 = .ok (.iconst 5, 1) := by decide +kernel
theorem dX4_write_76 : decode cX4_write 76 = .ok (.iload 4, 2) := by decide +kernel
theorem dX4_write_78 : decode cX4_write 78 = .ok (.iconst 1, 1) := by decide +kernel
theorem dX4_write_79 : decode cX4_write 79 = .ok (.iadd, 1) := by decide +kernel
theorem dX4_write_80 : decode cX4_write 80 = .ok (.iastore, 1) := by decide +kernel
theorem dX4_write_81 : decode cX4_write 81 = .ok (.return_, 1) := by decide +kernel
theorem dX4_lineDate_0 : decode cX4_lineDate 0 = .ok (.iload_n 0, 1) := by decide +kernel
theorem dX4_lineDate_1 : decode cX4_lineDate 1 = .ok (.bipush 10, 2) := by decide +kernel
theorem dX4_lineDate_3 : decode cX4_lineDate 3 = .ok (.iushr, 1) := by decide +kernel
theorem dX4_lineDate_4 : decode cX4_lineDate 4 = .ok (.ireturn, 1) := by decide +kernel
theorem dX4_lineNumber_0 : decode cX4_lineNumber 0 = .ok (.iload_n 0, 1) := by decide +kernel
theorem dX4_lineNumber_1 : decode cX4_lineNumber 1 = .ok (.bipush 6, 2) := by decide +kernel
theorem dX4_lineNumber_3 : decode cX4_lineNumber 3 = .ok (.iushr, 1) := by decide +kernel
theorem dX4_lineNumber_4 : decode cX4_lineNumber 4 = .ok (.bipush 15, 2) := by decide +kernel
theorem dX4_lineNumber_6 : decode cX4_lineNumber 6 = .ok (.iand, 1) := by decide +kernel
theorem dX4_lineNumber_7 : decode cX4_lineNumber 7 = .ok (.ireturn, 1) := by decide +kernel
theorem dX4_lineKind_0 : decode cX4_lineKind 0 = .ok (.iload_n 0, 1) := by decide +kernel
theorem dX4_lineKind_1 : decode cX4_lineKind 1 = .ok (.iconst 4, 1) := by decide +kernel
theorem dX4_lineKind_2 : decode cX4_lineKind 2 = .ok (.iushr, 1) := by decide +kernel
theorem dX4_lineKind_3 : decode cX4_lineKind 3 = .ok (.iconst 3, 1) := by decide +kernel
theorem dX4_lineKind_4 : decode cX4_lineKind 4 = .ok (.iand, 1) := by decide +kernel
theorem dX4_lineKind_5 : decode cX4_lineKind 5 = .ok (.ireturn, 1) := by decide +kernel
theorem dX4_linePlace_0 : decode cX4_linePlace 0 = .ok (.iload_n 0, 1) := by decide +kernel
theorem dX4_linePlace_1 : decode cX4_linePlace 1 = .ok (.bipush 15, 2) := by decide +kernel
theorem dX4_linePlace_3 : decode cX4_linePlace 3 = .ok (.iand, 1) := by decide +kernel
theorem dX4_linePlace_4 : decode cX4_linePlace 4 = .ok (.ireturn, 1) := by decide +kernel
theorem dX5_init_0 : decode cX5_init 0 = .ok (.aload_n 0, 1) := by decide +kernel
theorem dX5_init_1 : decode cX5_init 1 = .ok (.invokespecial 1, 3) := by decide +kernel
theorem dX5_init_4 : decode cX5_init 4 = .ok (.aload_n 0, 1) := by decide +kernel
theorem dX5_init_5 : decode cX5_init 5 = .ok (.bipush 8, 2) := by decide +kernel
theorem dX5_init_7 : decode cX5_init 7 = .ok (.newarray .int, 2) := by decide +kernel
theorem dX5_init_9 : decode cX5_init 9 = .ok (.putfield 9, 3) := by decide +kernel
theorem dX5_init_12 : decode cX5_init 12 = .ok (.aload_n 0, 1) := by decide +kernel
theorem dX5_init_13 : decode cX5_init 13 = .ok (.iconst 0, 1) := by decide +kernel
theorem dX5_init_14 : decode cX5_init 14 = .ok (.putfield 13, 3) := by decide +kernel
theorem dX5_init_17 : decode cX5_init 17 = .ok (.return_, 1) := by decide +kernel
theorem dX5_add_0 : decode cX5_add 0 = .ok (.aload_n 0, 1) := by decide +kernel
theorem dX5_add_1 : decode cX5_add 1 = .ok (.getfield 13, 3) := by decide +kernel
theorem dX5_add_4 : decode cX5_add 4 = .ok (.ifCond .lt 12, 3) := by decide +kernel
theorem dX5_add_7 : decode cX5_add 7 = .ok (.aload_n 0, 1) := by decide +kernel
theorem dX5_add_8 : decode cX5_add 8 = .ok (.getfield 13, 3) := by decide +kernel
theorem dX5_add_11 : decode cX5_add 11 = .ok (.bipush 8, 2) := by decide +kernel
theorem dX5_add_13 : decode cX5_add 13 = .ok (.if_icmp .lt 5, 3) := by decide +kernel
theorem dX5_add_16 : decode cX5_add 16 = .ok (.iconst 0, 1) := by decide +kernel
theorem dX5_add_17 : decode cX5_add 17 = .ok (.ireturn, 1) := by decide +kernel
theorem dX5_add_18 : decode cX5_add 18 = .ok (.aload_n 0, 1) := by decide +kernel
theorem dX5_add_19 : decode cX5_add 19 = .ok (.getfield 9, 3) := by decide +kernel
theorem dX5_add_22 : decode cX5_add 22 = .ok (.aload_n 0, 1) := by decide +kernel
theorem dX5_add_23 : decode cX5_add 23 = .ok (.getfield 13, 3) := by decide +kernel
theorem dX5_add_26 : decode cX5_add 26 = .ok (.iload_n 1, 1) := by decide +kernel
theorem dX5_add_27 : decode cX5_add 27 = .ok (.iconst 4, 1) := by decide +kernel
theorem dX5_add_28 : decode cX5_add 28 = .ok (.ishl, 1) := by decide +kernel
theorem dX5_add_29 : decode cX5_add 29 = .ok (.iload_n 2, 1) := by decide +kernel
theorem dX5_add_30 : decode cX5_add 30 = .ok (.ior, 1) := by decide +kernel
theorem dX5_add_31 : decode cX5_add 31 = .ok (.iastore, 1) := by decide +kernel
theorem dX5_add_32 : decode cX5_add 32 = .ok (.aload_n 0, 1) := by decide +kernel
theorem dX5_add_33 : decode cX5_add 33 = .ok (.dup, 1) := by decide +kernel
theorem dX5_add_34 : decode cX5_add 34 = .ok (.getfield 13, 3) := by decide +kernel
theorem dX5_add_37 : decode cX5_add 37 = .ok (.iconst 1, 1) := by decide +kernel
theorem dX5_add_38 : decode cX5_add 38 = .ok (.iadd, 1) := by decide +kernel
theorem dX5_add_39 : decode cX5_add 39 = .ok (.putfield 13, 3) := by decide +kernel
theorem dX5_add_42 : decode cX5_add 42 = .ok (.iconst 1, 1) := by decide +kernel
theorem dX5_add_43 : decode cX5_add 43 = .ok (.ireturn, 1) := by decide +kernel
theorem dX5_number_0 : decode cX5_number 0 = .ok (.iload_n 1, 1) := by decide +kernel
theorem dX5_number_1 : decode cX5_number 1 = .ok (.ifCond .lt 20, 3) := by decide +kernel
theorem dX5_number_4 : decode cX5_number 4 = .ok (.iload_n 1, 1) := by decide +kernel
theorem dX5_number_5 : decode cX5_number 5 = .ok (.bipush 8, 2) := by decide +kernel
theorem dX5_number_7 : decode cX5_number 7 = .ok (.if_icmp .ge 14, 3) := by decide +kernel
theorem dX5_number_10 : decode cX5_number 10 = .ok (.aload_n 0, 1) := by decide +kernel
theorem dX5_number_11 : decode cX5_number 11 = .ok (.getfield 9, 3) := by decide +kernel
theorem dX5_number_14 : decode cX5_number 14 = .ok (.iload_n 1, 1) := by decide +kernel
theorem dX5_number_15 : decode cX5_number 15 = .ok (.iaload, 1) := by decide +kernel
theorem dX5_number_16 : decode cX5_number 16 = .ok (.iconst 4, 1) := by decide +kernel
theorem dX5_number_17 : decode cX5_number 17 = .ok (.iushr, 1) := by decide +kernel
theorem dX5_number_18 : decode cX5_number 18 = .ok (.goto 4, 3) := by decide +kernel
theorem dX5_number_21 : decode cX5_number 21 = .ok (.iconst 0, 1) := by decide +kernel
theorem dX5_number_22 : decode cX5_number 22 = .ok (.ireturn, 1) := by decide +kernel
theorem dX5_between_0 : decode cX5_between 0 = .ok (.iload_n 1, 1) := by decide +kernel
theorem dX5_between_1 : decode cX5_between 1 = .ok (.ifCond .lt 21, 3) := by decide +kernel
theorem dX5_between_4 : decode cX5_between 4 = .ok (.iload_n 1, 1) := by decide +kernel
theorem dX5_between_5 : decode cX5_between 5 = .ok (.bipush 8, 2) := by decide +kernel
theorem dX5_between_7 : decode cX5_between 7 = .ok (.if_icmp .ge 15, 3) := by decide +kernel
theorem dX5_between_10 : decode cX5_between 10 = .ok (.aload_n 0, 1) := by decide +kernel
theorem dX5_between_11 : decode cX5_between 11 = .ok (.getfield 9, 3) := by decide +kernel
theorem dX5_between_14 : decode cX5_between 14 = .ok (.iload_n 1, 1) := by decide +kernel
theorem dX5_between_15 : decode cX5_between 15 = .ok (.iaload, 1) := by decide +kernel
theorem dX5_between_16 : decode cX5_between 16 = .ok (.bipush 15, 2) := by decide +kernel
theorem dX5_between_18 : decode cX5_between 18 = .ok (.iand, 1) := by decide +kernel
theorem dX5_between_19 : decode cX5_between 19 = .ok (.goto 4, 3) := by decide +kernel
theorem dX5_between_22 : decode cX5_between 22 = .ok (.iconst 0, 1) := by decide +kernel
theorem dX5_between_23 : decode cX5_between 23 = .ok (.ireturn, 1) := by decide +kernel
theorem dX5_become_0 : decode cX5_become 0 = .ok (.aload_n 1, 1) := by decide +kernel
theorem dX5_become_1 : decode cX5_become 1 = .ok (.getfield 9, 3) := by decide +kernel
theorem dX5_become_4 : decode cX5_become 4 = .ok (.iconst 0, 1) := by decide +kernel
theorem dX5_become_5 : decode cX5_become 5 = .ok (.aload_n 0, 1) := by decide +kernel
theorem dX5_become_6 : decode cX5_become 6 = .ok (.getfield 9, 3) := by decide +kernel
theorem dX5_become_9 : decode cX5_become 9 = .ok (.iconst 0, 1) := by decide +kernel
theorem dX5_become_10 : decode cX5_become 10 = .ok (.bipush 8, 2) := by decide +kernel
theorem dX5_become_12 : decode cX5_become 12 = .ok (.invokestatic 17, 3) := by decide +kernel
theorem dX5_become_15 : decode cX5_become 15 = .ok (.aload_n 0, 1) := by decide +kernel
theorem dX5_become_16 : decode cX5_become 16 = .ok (.aload_n 1, 1) := by decide +kernel
theorem dX5_become_17 : decode cX5_become 17 = .ok (.getfield 13, 3) := by decide +kernel
theorem dX5_become_20 : decode cX5_become 20 = .ok (.putfield 13, 3) := by decide +kernel
theorem dX5_become_23 : decode cX5_become 23 = .ok (.return_, 1) := by decide +kernel
theorem dX6_init_0 : decode cX6_init 0 = .ok (.aload_n 0, 1) := by decide +kernel
theorem dX6_init_1 : decode cX6_init 1 = .ok (.invokespecial 3, 3) := by decide +kernel
theorem dX6_init_4 : decode cX6_init 4 = .ok (.aload_n 0, 1) := by decide +kernel
theorem dX6_init_5 : decode cX6_init 5 = .ok (.sipush 301, 3) := by decide +kernel
theorem dX6_init_8 : decode cX6_init 8 = .ok (.newarray .int, 2) := by decide +kernel
theorem dX6_init_10 : decode cX6_init 10 = .ok (.putfield 11, 3) := by decide +kernel
theorem dX6_init_13 : decode cX6_init 13 = .ok (.aload_n 0, 1) := by decide +kernel
theorem dX6_init_14 : decode cX6_init 14 = .ok (.sipush 301, 3) := by decide +kernel
theorem dX6_init_17 : decode cX6_init 17 = .ok (.newarray .int, 2) := by decide +kernel
theorem dX6_init_19 : decode cX6_init 19 = .ok (.putfield 15, 3) := by decide +kernel
theorem dX6_init_22 : decode cX6_init 22 = .ok (.aload_n 0, 1) := by decide +kernel
theorem dX6_init_23 : decode cX6_init 23 = .ok (.sipush 301, 3) := by decide +kernel
theorem dX6_init_26 : decode cX6_init 26 = .ok (.newarray .int, 2) := by decide +kernel
theorem dX6_init_28 : decode cX6_init 28 = .ok (.putfield 18, 3) := by decide +kernel
theorem dX6_init_31 : decode cX6_init 31 = .ok (.aload_n 0, 1) := by decide +kernel
theorem dX6_init_32 : decode cX6_init 32 = .ok (.iconst 0, 1) := by decide +kernel
theorem dX6_init_33 : decode cX6_init 33 = .ok (.putfield 21, 3) := by decide +kernel
theorem dX6_init_36 : decode cX6_init 36 = .ok (.aload_n 0, 1) := by decide +kernel
theorem dX6_init_37 : decode cX6_init 37 = .ok (.iconst 0, 1) := by decide +kernel
theorem dX6_init_38 : decode cX6_init 38 = .ok (.putfield 25, 3) := by decide +kernel
theorem dX6_init_41 : decode cX6_init 41 = .ok (.return_, 1) := by decide +kernel
theorem dX6_isName_0 : decode cX6_isName 0 = .ok (.iload_n 0, 1) := by decide +kernel
theorem dX6_isName_1 : decode cX6_isName 1 = .ok (.bipush 8, 2) := by decide +kernel
theorem dX6_isName_3 : decode cX6_isName 3 = .ok (.if_icmp .lt 13, 3) := by decide +kernel
theorem dX6_isName_6 : decode cX6_isName 6 = .ok (.iload_n 0, 1) := by decide +kernel
theorem dX6_isName_7 : decode cX6_isName 7 = .ok (.bipush 14, 2) := by decide +kernel
theorem dX6_isName_9 : decode cX6_isName 9 = .ok (.if_icmp .gt 7, 3) := by decide +kernel
theorem dX6_isName_12 : decode cX6_isName 12 = .ok (.iconst 1, 1) := by decide +kernel
theorem dX6_isName_13 : decode cX6_isName 13 = .ok (.goto 4, 3) := by decide +kernel
theorem dX6_isName_16 : decode cX6_isName 16 = .ok (.iconst 0, 1) := by decide +kernel
theorem dX6_isName_17 : decode cX6_isName 17 = .ok (.ireturn, 1) := by decide +kernel
theorem dX6_isRelation_0 : decode cX6_isRelation 0 = .ok (.iload_n 0, 1) := by decide +kernel
theorem dX6_isRelation_1 : decode cX6_isRelation 1 = .ok (.bipush 30, 2) := by decide +kernel
theorem dX6_isRelation_3 : decode cX6_isRelation 3 = .ok (.if_icmp .lt 9, 3) := by decide +kernel
theorem dX6_isRelation_6 : decode cX6_isRelation 6 = .ok (.iload_n 0, 1) := by decide +kernel
theorem dX6_isRelation_7 : decode cX6_isRelation 7 = .ok (.bipush 33, 2) := by decide +kernel
theorem dX6_isRelation_9 : decode cX6_isRelation 9 = .ok (.if_icmp .le 15, 3) := by decide +kernel
theorem dX6_isRelation_12 : decode cX6_isRelation 12 = .ok (.iload_n 0, 1) := by decide +kernel
theorem dX6_isRelation_13 : decode cX6_isRelation 13 = .ok (.bipush 41, 2) := by decide +kernel
theorem dX6_isRelation_15 : decode cX6_isRelation 15 = .ok (.if_icmp .eq 9, 3) := by decide +kernel
theorem dX6_isRelation_18 : decode cX6_isRelation 18 = .ok (.iload_n 0, 1) := by decide +kernel
theorem dX6_isRelation_19 : decode cX6_isRelation 19 = .ok (.bipush 42, 2) := by decide +kernel
theorem dX6_isRelation_21 : decode cX6_isRelation 21 = .ok (.if_icmp .ne 7, 3) := by decide +kernel
theorem dX6_isRelation_24 : decode cX6_isRelation 24 = .ok (.iconst 1, 1) := by decide +kernel
theorem dX6_isRelation_25 : decode cX6_isRelation 25 = .ok (.goto 4, 3) := by decide +kernel
theorem dX6_isRelation_28 : decode cX6_isRelation 28 = .ok (.iconst 0, 1) := by decide +kernel
theorem dX6_isRelation_29 : decode cX6_isRelation 29 = .ok (.ireturn, 1) := by decide +kernel
theorem dX6_kind_0 : decode cX6_kind 0 = .ok (.aload_n 0, 1) := by decide +kernel
theorem dX6_kind_1 : decode cX6_kind 1 = .ok (.getfield 25, 3) := by decide +kernel
theorem dX6_kind_4 : decode cX6_kind 4 = .ok (.ifCond .lt 25, 3) := by decide +kernel
theorem dX6_kind_7 : decode cX6_kind 7 = .ok (.aload_n 0, 1) := by decide +kernel
theorem dX6_kind_8 : decode cX6_kind 8 = .ok (.getfield 25, 3) := by decide +kernel
theorem dX6_kind_11 : decode cX6_kind 11 = .ok (.sipush 301, 3) := by decide +kernel
theorem dX6_kind_14 : decode cX6_kind 14 = .ok (.if_icmp .ge 15, 3) := by decide +kernel
theorem dX6_kind_17 : decode cX6_kind 17 = .ok (.aload_n 0, 1) := by decide +kernel
theorem dX6_kind_18 : decode cX6_kind 18 = .ok (.getfield 11, 3) := by decide +kernel
theorem dX6_kind_21 : decode cX6_kind 21 = .ok (.aload_n 0, 1) := by decide +kernel
theorem dX6_kind_22 : decode cX6_kind 22 = .ok (.getfield 25, 3) := by decide +kernel
theorem dX6_kind_25 : decode cX6_kind 25 = .ok (.iaload, 1) := by decide +kernel
theorem dX6_kind_26 : decode cX6_kind 26 = .ok (.goto 4, 3) := by decide +kernel
theorem dX6_kind_29 : decode cX6_kind 29 = .ok (.iconst 1, 1) := by decide +kernel
theorem dX6_kind_30 : decode cX6_kind 30 = .ok (.ireturn, 1) := by decide +kernel
theorem dX6_from_0 : decode cX6_from 0 = .ok (.aload_n 0, 1) := by decide +kernel
theorem dX6_from_1 : decode cX6_from 1 = .ok (.getfield 25, 3) := by decide +kernel
theorem dX6_from_4 : decode cX6_from 4 = .ok (.ifCond .lt 25, 3) := by decide +kernel
theorem dX6_from_7 : decode cX6_from 7 = .ok (.aload_n 0, 1) := by decide +kernel
theorem dX6_from_8 : decode cX6_from 8 = .ok (.getfield 25, 3) := by decide +kernel
theorem dX6_from_11 : decode cX6_from 11 = .ok (.sipush 301, 3) := by decide +kernel
theorem dX6_from_14 : decode cX6_from 14 = .ok (.if_icmp .ge 15, 3) := by decide +kernel
theorem dX6_from_17 : decode cX6_from 17 = .ok (.aload_n 0, 1) := by decide +kernel
theorem dX6_from_18 : decode cX6_from 18 = .ok (.getfield 15, 3) := by decide +kernel
theorem dX6_from_21 : decode cX6_from 21 = .ok (.aload_n 0, 1) := by decide +kernel
theorem dX6_from_22 : decode cX6_from 22 = .ok (.getfield 25, 3) := by decide +kernel
theorem dX6_from_25 : decode cX6_from 25 = .ok (.iaload, 1) := by decide +kernel
theorem dX6_from_26 : decode cX6_from 26 = .ok (.goto 4, 3) := by decide +kernel
theorem dX6_from_29 : decode cX6_from 29 = .ok (.iconst 0, 1) := by decide +kernel
theorem dX6_from_30 : decode cX6_from 30 = .ok (.ireturn, 1) := by decide +kernel
theorem dX6_value_0 : decode cX6_value 0 = .ok (.aload_n 0, 1) := by decide +kernel
theorem dX6_value_1 : decode cX6_value 1 = .ok (.getfield 25, 3) := by decide +kernel
theorem dX6_value_4 : decode cX6_value 4 = .ok (.ifCond .lt 25, 3) := by decide +kernel
theorem dX6_value_7 : decode cX6_value 7 = .ok (.aload_n 0, 1) := by decide +kernel
theorem dX6_value_8 : decode cX6_value 8 = .ok (.getfield 25, 3) := by decide +kernel
theorem dX6_value_11 : decode cX6_value 11 = .ok (.sipush 301, 3) := by decide +kernel
theorem dX6_value_14 : decode cX6_value 14 = .ok (.if_icmp .ge 15, 3) := by decide +kernel
theorem dX6_value_17 : decode cX6_value 17 = .ok (.aload_n 0, 1) := by decide +kernel
theorem dX6_value_18 : decode cX6_value 18 = .ok (.getfield 18, 3) := by decide +kernel
theorem dX6_value_21 : decode cX6_value 21 = .ok (.aload_n 0, 1) := by decide +kernel
theorem dX6_value_22 : decode cX6_value 22 = .ok (.getfield 25, 3) := by decide +kernel
theorem dX6_value_25 : decode cX6_value 25 = .ok (.iaload, 1) := by decide +kernel
theorem dX6_value_26 : decode cX6_value 26 = .ok (.goto 4, 3) := by decide +kernel
theorem dX6_value_29 : decode cX6_value 29 = .ok (.iconst 0, 1) := by decide +kernel
theorem dX6_value_30 : decode cX6_value 30 = .ok (.ireturn, 1) := by decide +kernel
theorem dX6_advance_0 : decode cX6_advance 0 = .ok (.aload_n 0, 1) := by decide +kernel
theorem dX6_advance_1 : decode cX6_advance 1 = .ok (.getfield 25, 3) := by decide +kernel
theorem dX6_advance_4 : decode cX6_advance 4 = .ok (.aload_n 0, 1) := by decide +kernel
theorem dX6_advance_5 : decode cX6_advance 5 = .ok (.getfield 21, 3) := by decide +kernel
theorem dX6_advance_8 : decode cX6_advance 8 = .ok (.if_icmp .ge 13, 3) := by decide +kernel
theorem dX6_advance_11 : decode cX6_advance 11 = .ok (.aload_n 0, 1) := by decide +kernel
theorem dX6_advance_12 : decode cX6_advance 12 = .ok (.dup, 1) := by decide +kernel
theorem dX6_advance_13 : decode cX6_advance 13 = .ok (.getfield 25, 3) := by decide +kernel
theorem dX6_advance_16 : decode cX6_advance 16 = .ok (.iconst 1, 1) := by decide +kernel
theorem dX6_advance_17 : decode cX6_advance 17 = .ok (.iadd, 1) := by decide +kernel
theorem dX6_advance_18 : decode cX6_advance 18 = .ok (.putfield 25, 3) := by decide +kernel
theorem dX6_advance_21 : decode cX6_advance 21 = .ok (.return_, 1) := by decide +kernel
theorem dX6_cut_0 : decode cX6_cut 0 = .ok (.aload_n 0, 1) := by decide +kernel
theorem dX6_cut_1 : decode cX6_cut 1 = .ok (.iconst 0, 1) := by decide +kernel
theorem dX6_cut_2 : decode cX6_cut 2 = .ok (.putfield 25, 3) := by decide +kernel
theorem dX6_cut_5 : decode cX6_cut 5 = .ok (.aload_n 0, 1) := by decide +kernel
theorem dX6_cut_6 : decode cX6_cut 6 = .ok (.iconst 0, 1) := by decide +kernel
theorem dX6_cut_7 : decode cX6_cut 7 = .ok (.putfield 21, 3) := by decide +kernel
theorem dX6_cut_10 : decode cX6_cut 10 = .ok (.aload_n 1, 1) := by decide +kernel
theorem dX6_cut_11 : decode cX6_cut 11 = .ok (.iconst 0, 1) := by decide +kernel
theorem dX6_cut_12 : decode cX6_cut 12 = .ok (.invokestatic 28, 3) := by decide +kernel
theorem dX6_cut_15 : decode cX6_cut 15 = .ok (.istore_n 2, 1) := by decide +kernel
theorem dX6_cut_16 : decode cX6_cut 16 = .ok (.iconst 0, 1) := by decide +kernel
theorem dX6_cut_17 : decode cX6_cut 17 = .ok (.istore_n 3, 1) := by decide +kernel
theorem dX6_cut_18 : decode cX6_cut 18 = .ok (.iload_n 3, 1) := by decide +kernel
theorem dX6_cut_19 : decode cX6_cut 19 = .ok (.sipush 300, 3) := by decide +kernel
theorem dX6_cut_22 : decode cX6_cut 22 = .ok (.if_icmp .ge 28, 3) := by decide +kernel
theorem dX6_cut_25 : decode cX6_cut 25 = .ok (.iload_n 2, 1) := by decide +kernel
theorem dX6_cut_26 : decode cX6_cut 26 = .ok (.aload_n 1, 1) := by decide +kernel
theorem dX6_cut_27 : decode cX6_cut 27 = .ok (.getfield 32, 3) := by decide +kernel
theorem dX6_cut_30 : decode cX6_cut 30 = .ok (.if_icmp .ge 20, 3) := by decide +kernel
theorem dX6_cut_33 : decode cX6_cut 33 = .ok (.aload_n 1, 1) := by decide +kernel
theorem dX6_cut_34 : decode cX6_cut 34 = .ok (.aload_n 0, 1) := by decide +kernel
theorem dX6_cut_35 : decode cX6_cut 35 = .ok (.aload_n 1, 1) := by decide +kernel
theorem dX6_cut_36 : decode cX6_cut 36 = .ok (.iload_n 2, 1) := by decide +kernel
theorem dX6_cut_37 : decode cX6_cut 37 = .ok (.invokevirtual 37, 3) := by decide +kernel
theorem dX6_cut_40 : decode cX6_cut 40 = .ok (.invokestatic 28, 3) := by decide +kernel
theorem dX6_cut_43 : decode cX6_cut 43 = .ok (.istore_n 2, 1) := by decide +kernel
theorem dX6_cut_44 : decode cX6_cut 44 = .ok (.iinc 3 1, 3) := by decide +kernel
theorem dX6_cut_47 : decode cX6_cut 47 = .ok (.goto (-29), 3) := by decide +kernel
theorem dX6_cut_50 : decode cX6_cut 50 = .ok (.aload_n 0, 1) := by decide +kernel
theorem dX6_cut_51 : decode cX6_cut 51 = .ok (.iconst 1, 1) := by decide +kernel
theorem dX6_cut_52 : decode cX6_cut 52 = .ok (.aload_n 1, 1) := by decide +kernel
theorem dX6_cut_53 : decode cX6_cut 53 = .ok (.getfield 32, 3) := by decide +kernel
theorem dX6_cut_56 : decode cX6_cut 56 = .ok (.iconst 0, 1) := by decide +kernel
theorem dX6_cut_57 : decode cX6_cut 57 = .ok (.invokevirtual 40, 3) := by decide +kernel
theorem dX6_cut_60 : decode cX6_cut 60 = .ok (.aload_n 0, 1) := by decide +kernel
theorem dX6_cut_61 : decode cX6_cut 61 = .ok (.dup, 1) := by decide +kernel
theorem dX6_cut_62 : decode cX6_cut 62 = .ok (.getfield 21, 3) := by decide +kernel
theorem dX6_cut_65 : decode cX6_cut 65 = .ok (.iconst 1, 1) := by decide +kernel
theorem dX6_cut_66 : decode cX6_cut 66 = .ok (.isub, 1) := by decide +kernel
theorem dX6_cut_67 : decode cX6_cut 67 = .ok (.putfield 21, 3) := by decide +kernel
theorem dX6_cut_70 : decode cX6_cut 70 = .ok (.return_, 1) := by decide +kernel
theorem dX6_note_0 : decode cX6_note 0 = .ok (.aload_n 0, 1) := by decide +kernel
theorem dX6_note_1 : decode cX6_note 1 = .ok (.getfield 21, 3) := by decide +kernel
theorem dX6_note_4 : decode cX6_note 4 = .ok (.ifCond .lt 53, 3) := by decide +kernel
theorem dX6_note_7 : decode cX6_note 7 = .ok (.aload_n 0, 1) := by decide +kernel
theorem dX6_note_8 : decode cX6_note 8 = .ok (.getfield 21, 3) := by decide +kernel
theorem dX6_note_11 : decode cX6_note 11 = .ok (.sipush 301, 3) := by decide +kernel
theorem dX6_note_14 : decode cX6_note 14 = .ok (.if_icmp .ge 43, 3) := by decide +kernel
theorem dX6_note_17 : decode cX6_note 17 = .ok (.aload_n 0, 1) := by decide +kernel
theorem dX6_note_18 : decode cX6_note 18 = .ok (.getfield 11, 3) := by decide +kernel
theorem dX6_note_21 : decode cX6_note 21 = .ok (.aload_n 0, 1) := by decide +kernel
theorem dX6_note_22 : decode cX6_note 22 = .ok (.getfield 21, 3) := by decide +kernel
theorem dX6_note_25 : decode cX6_note 25 = .ok (.iload_n 1, 1) := by decide +kernel
theorem dX6_note_26 : decode cX6_note 26 = .ok (.iastore, 1) := by decide +kernel
theorem dX6_note_27 : decode cX6_note 27 = .ok (.aload_n 0, 1) := by decide +kernel
theorem dX6_note_28 : decode cX6_note 28 = .ok (.getfield 15, 3) := by decide +kernel
theorem dX6_note_31 : decode cX6_note 31 = .ok (.aload_n 0, 1) := by decide +kernel
theorem dX6_note_32 : decode cX6_note 32 = .ok (.getfield 21, 3) := by decide +kernel
theorem dX6_note_35 : decode cX6_note 35 = .ok (.iload_n 2, 1) := by decide +kernel
theorem dX6_note_36 : decode cX6_note 36 = .ok (.iastore, 1) := by decide +kernel
theorem dX6_note_37 : decode cX6_note 37 = .ok (.aload_n 0, 1) := by decide +kernel
theorem dX6_note_38 : decode cX6_note 38 = .ok (.getfield 18, 3) := by decide +kernel
theorem dX6_note_41 : decode cX6_note 41 = .ok (.aload_n 0, 1) := by decide +kernel
theorem dX6_note_42 : decode cX6_note 42 = .ok (.getfield 21, 3) := by decide +kernel
theorem dX6_note_45 : decode cX6_note 45 = .ok (.iload_n 3, 1) := by decide +kernel
theorem dX6_note_46 : decode cX6_note 46 = .ok (.iastore, 1) := by decide +kernel
theorem dX6_note_47 : decode cX6_note 47 = .ok (.aload_n 0, 1) := by decide +kernel
theorem dX6_note_48 : decode cX6_note 48 = .ok (.dup, 1) := by decide +kernel
theorem dX6_note_49 : decode cX6_note 49 = .ok (.getfield 21, 3) := by decide +kernel
theorem dX6_note_52 : decode cX6_note 52 = .ok (.iconst 1, 1) := by decide +kernel
theorem dX6_note_53 : decode cX6_note 53 = .ok (.iadd, 1) := by decide +kernel
theorem dX6_note_54 : decode cX6_note 54 = .ok (.putfield 21, 3) := by decide +kernel
theorem dX6_note_57 : decode cX6_note 57 = .ok (.return_, 1) := by decide +kernel
theorem dX6_afterBlanks_0 : decode cX6_afterBlanks 0 = .ok (.iload_n 1, 1) := by decide +kernel
theorem dX6_afterBlanks_1 : decode cX6_afterBlanks 1 = .ok (.istore_n 2, 1) := by decide +kernel
theorem dX6_afterBlanks_2 : decode cX6_afterBlanks 2 = .ok (.iconst 0, 1) := by decide +kernel
theorem dX6_afterBlanks_3 : decode cX6_afterBlanks 3 = .ok (.istore_n 3, 1) := by decide +kernel
theorem dX6_afterBlanks_4 : decode cX6_afterBlanks 4 = .ok (.iload_n 3, 1) := by decide +kernel
theorem dX6_afterBlanks_5 : decode cX6_afterBlanks 5 = .ok (.sipush 300, 3) := by decide +kernel
theorem dX6_afterBlanks_8 : decode cX6_afterBlanks 8 = .ok (.if_icmp .ge 23, 3) := by decide +kernel
theorem dX6_afterBlanks_11 : decode cX6_afterBlanks 11 = .ok (.aload_n 0, 1) := by decide +kernel
theorem dX6_afterBlanks_12 : decode cX6_afterBlanks 12 = .ok (.iload_n 2, 1) := by decide +kernel
theorem dX6_afterBlanks_13 : decode cX6_afterBlanks 13 = .ok (.invokevirtual 44, 3) := by decide +kernel
theorem dX6_afterBlanks_16 : decode cX6_afterBlanks 16 = .ok (.invokestatic 48, 3) := by decide +kernel
theorem dX6_afterBlanks_19 : decode cX6_afterBlanks 19 = .ok (.ifCond .eq 12, 3) := by decide +kernel
theorem dX6_afterBlanks_22 : decode cX6_afterBlanks 22 = .ok (.iinc 2 1, 3) := by decide +kernel
theorem dX6_afterBlanks_25 : decode cX6_afterBlanks 25 = .ok (.iinc 3 1, 3) := by decide +kernel
theorem dX6_afterBlanks_28 : decode cX6_afterBlanks 28 = .ok (.goto (-24), 3) := by decide +kernel
theorem dX6_afterBlanks_31 : decode cX6_afterBlanks 31 = .ok (.iload_n 2, 1) := by decide +kernel
theorem dX6_afterBlanks_32 : decode cX6_afterBlanks 32 = .ok (.ireturn, 1) := by decide +kernel
theorem dX6_take_0 : decode cX6_take 0 = .ok (.aload_n 1, 1) := by decide +kernel
theorem dX6_take_1 : decode cX6_take 1 = .ok (.iload_n 2, 1) := by decide +kernel
theorem dX6_take_2 : decode cX6_take 2 = .ok (.invokevirtual 44, 3) := by decide +kernel
theorem dX6_take_5 : decode cX6_take 5 = .ok (.istore_n 3, 1) := by decide +kernel
theorem dX6_take_6 : decode cX6_take 6 = .ok (.iload_n 3, 1) := by decide +kernel
theorem dX6_take_7 : decode cX6_take 7 = .ok (.invokestatic 52, 3) := by decide +kernel
theorem dX6_take_10 : decode cX6_take 10 = .ok (.ifCond .eq 10, 3) := by decide +kernel
theorem dX6_take_13 : decode cX6_take 13 = .ok (.aload_n 0, 1) := by decide +kernel
theorem dX6_take_14 : decode cX6_take 14 = .ok (.aload_n 1, 1) := by decide +kernel
theorem dX6_take_15 : decode cX6_take 15 = .ok (.iload_n 2, 1) := by decide +kernel
theorem dX6_take_16 : decode cX6_take 16 = .ok (.invokevirtual 55, 3) := by decide +kernel
theorem dX6_take_19 : decode cX6_take 19 = .ok (.ireturn, 1) := by decide +kernel
theorem dX6_take_20 : decode cX6_take 20 = .ok (.iload_n 3, 1) := by decide +kernel
theorem dX6_take_21 : decode cX6_take 21 = .ok (.invokestatic 58, 3) := by decide +kernel
theorem dX6_take_24 : decode cX6_take 24 = .ok (.ifCond .eq 10, 3) := by decide +kernel
theorem dX6_take_27 : decode cX6_take 27 = .ok (.aload_n 0, 1) := by decide +kernel
theorem dX6_take_28 : decode cX6_take 28 = .ok (.aload_n 1, 1) := by decide +kernel
theorem dX6_take_29 : decode cX6_take 29 = .ok (.iload_n 2, 1) := by decide +kernel
theorem dX6_take_30 : decode cX6_take 30 = .ok (.invokevirtual 61, 3) := by decide +kernel
theorem dX6_take_33 : decode cX6_take 33 = .ok (.ireturn, 1) := by decide +kernel
theorem dX6_take_34 : decode cX6_take 34 = .ok (.aload_n 0, 1) := by decide +kernel
theorem dX6_take_35 : decode cX6_take 35 = .ok (.aload_n 1, 1) := by decide +kernel
theorem dX6_take_36 : decode cX6_take 36 = .ok (.iload_n 2, 1) := by decide +kernel
theorem dX6_take_37 : decode cX6_take 37 = .ok (.invokevirtual 64, 3) := by decide +kernel
theorem dX6_take_40 : decode cX6_take 40 = .ok (.ireturn, 1) := by decide +kernel
theorem dX6_isBlank_0 : decode cX6_isBlank 0 = .ok (.iload_n 0, 1) := by decide +kernel
theorem dX6_isBlank_1 : decode cX6_isBlank 1 = .ok (.bipush 32, 2) := by decide +kernel
theorem dX6_isBlank_3 : decode cX6_isBlank 3 = .ok (.if_icmp .eq 9, 3) := by decide +kernel
theorem dX6_isBlank_6 : decode cX6_isBlank 6 = .ok (.iload_n 0, 1) := by decide +kernel
theorem dX6_isBlank_7 : decode cX6_isBlank 7 = .ok (.bipush 10, 2) := by decide +kernel
theorem dX6_isBlank_9 : decode cX6_isBlank 9 = .ok (.if_icmp .ne 7, 3) := by decide +kernel
theorem dX6_isBlank_12 : decode cX6_isBlank 12 = .ok (.iconst 1, 1) := by decide +kernel
theorem dX6_isBlank_13 : decode cX6_isBlank 13 = .ok (.goto 4, 3) := by decide +kernel
theorem dX6_isBlank_16 : decode cX6_isBlank 16 = .ok (.iconst 0, 1) := by decide +kernel
theorem dX6_isBlank_17 : decode cX6_isBlank 17 = .ok (.ireturn, 1) := by decide +kernel
theorem dX6_isDigit_0 : decode cX6_isDigit 0 = .ok (.iload_n 0, 1) := by decide +kernel
theorem dX6_isDigit_1 : decode cX6_isDigit 1 = .ok (.bipush 48, 2) := by decide +kernel
theorem dX6_isDigit_3 : decode cX6_isDigit 3 = .ok (.if_icmp .lt 13, 3) := by decide +kernel
theorem dX6_isDigit_6 : decode cX6_isDigit 6 = .ok (.iload_n 0, 1) := by decide +kernel
theorem dX6_isDigit_7 : decode cX6_isDigit 7 = .ok (.bipush 57, 2) := by decide +kernel
theorem dX6_isDigit_9 : decode cX6_isDigit 9 = .ok (.if_icmp .gt 7, 3) := by decide +kernel
theorem dX6_isDigit_12 : decode cX6_isDigit 12 = .ok (.iconst 1, 1) := by decide +kernel
theorem dX6_isDigit_13 : decode cX6_isDigit 13 = .ok (.goto 4, 3) := by decide +kernel
theorem dX6_isDigit_16 : decode cX6_isDigit 16 = .ok (.iconst 0, 1) := by decide +kernel
theorem dX6_isDigit_17 : decode cX6_isDigit 17 = .ok (.ireturn, 1) := by decide +kernel
theorem dX6_isLetter_0 : decode cX6_isLetter 0 = .ok (.iload_n 0, 1) := by decide +kernel
theorem dX6_isLetter_1 : decode cX6_isLetter 1 = .ok (.bipush 97, 2) := by decide +kernel
theorem dX6_isLetter_3 : decode cX6_isLetter 3 = .ok (.if_icmp .lt 9, 3) := by decide +kernel
theorem dX6_isLetter_6 : decode cX6_isLetter 6 = .ok (.iload_n 0, 1) := by decide +kernel
theorem dX6_isLetter_7 : decode cX6_isLetter 7 = .ok (.bipush 122, 2) := by decide +kernel
theorem dX6_isLetter_9 : decode cX6_isLetter 9 = .ok (.if_icmp .le 15, 3) := by decide +kernel
theorem dX6_isLetter_12 : decode cX6_isLetter 12 = .ok (.iload_n 0, 1) := by decide +kernel
theorem dX6_isLetter_13 : decode cX6_isLetter 13 = .ok (.bipush 65, 2) := by decide +kernel
theorem dX6_isLetter_15 : decode cX6_isLetter 15 = .ok (.if_icmp .lt 13, 3) := by decide +kernel
theorem dX6_isLetter_18 : decode cX6_isLetter 18 = .ok (.iload_n 0, 1) := by decide +kernel
theorem dX6_isLetter_19 : decode cX6_isLetter 19 = .ok (.bipush 90, 2) := by decide +kernel
theorem dX6_isLetter_21 : decode cX6_isLetter 21 = .ok (.if_icmp .gt 7, 3) := by decide +kernel
theorem dX6_isLetter_24 : decode cX6_isLetter 24 = .ok (.iconst 1, 1) := by decide +kernel
theorem dX6_isLetter_25 : decode cX6_isLetter 25 = .ok (.goto 4, 3) := by decide +kernel
theorem dX6_isLetter_28 : decode cX6_isLetter 28 = .ok (.iconst 0, 1) := by decide +kernel
theorem dX6_isLetter_29 : decode cX6_isLetter 29 = .ok (.ireturn, 1) := by decide +kernel
theorem dX6_takeNumber_0 : decode cX6_takeNumber 0 = .ok (.iconst 0, 1) := by decide +kernel
theorem dX6_takeNumber_1 : decode cX6_takeNumber 1 = .ok (.istore_n 3, 1) := by decide +kernel
theorem dX6_takeNumber_2 : decode cX6_takeNumber 2 = .ok (.iload_n 2, 1) := by decide +kernel
theorem dX6_takeNumber_3 : decode cX6_takeNumber 3 = .ok (.istore 4, 2) := by decide +kernel
theorem dX6_takeNumber_5 : decode cX6_takeNumber 5 = .ok (.iconst 0, 1) := by decide +kernel
theorem dX6_takeNumber_6 : decode cX6_takeNumber 6 = .ok (.istore 5, 2) := by decide +kernel
theorem dX6_takeNumber_8 : decode cX6_takeNumber 8 = .ok (.iload 5, 2) := by decide +kernel
theorem dX6_takeNumber_10 : decode cX6_takeNumber 10 = .ok (.sipush 300, 3) := by decide +kernel
theorem dX6_takeNumber_13 : decode cX6_takeNumber 13 = .ok (.if_icmp .ge 45, 3) := by decide +kernel
theorem dX6_takeNumber_16 : decode cX6_takeNumber 16 = .ok (.aload_n 1, 1) := by decide +kernel
theorem dX6_takeNumber_17 : decode cX6_takeNumber 17 = .ok (.iload 4, 2) := by decide +kernel
theorem dX6_takeNumber_19 : decode cX6_takeNumber 19 = .ok (.invokevirtual 44, 3) := by decide +kernel
theorem dX6_takeNumber_22 : decode cX6_takeNumber 22 = .ok (.invokestatic 52, 3) := by decide +kernel
theorem dX6_takeNumber_25 : decode cX6_takeNumber 25 = .ok (.ifCond .eq 33, 3) := by decide +kernel
theorem dX6_takeNumber_28 : decode cX6_takeNumber 28 = .ok (.sipush 10000, 3) := by decide +kernel
theorem dX6_takeNumber_31 : decode cX6_takeNumber 31 = .ok (.iload_n 3, 1) := by decide +kernel
theorem dX6_takeNumber_32 : decode cX6_takeNumber 32 = .ok (.bipush 10, 2) := by decide +kernel
theorem dX6_takeNumber_34 : decode cX6_takeNumber 34 = .ok (.imul, 1) := by decide +kernel
theorem dX6_takeNumber_35 : decode cX6_takeNumber 35 = .ok (.aload_n 1, 1) := by decide +kernel
theorem dX6_takeNumber_36 : decode cX6_takeNumber 36 = .ok (.iload 4, 2) := by decide +kernel
theorem dX6_takeNumber_38 : decode cX6_takeNumber 38 = .ok (.invokevirtual 44, 3) := by decide +kernel
theorem dX6_takeNumber_41 : decode cX6_takeNumber 41 = .ok (.iadd, 1) := by decide +kernel
theorem dX6_takeNumber_42 : decode cX6_takeNumber 42 = .ok (.bipush 48, 2) := by decide +kernel
theorem dX6_takeNumber_44 : decode cX6_takeNumber 44 = .ok (.isub, 1) := by decide +kernel
theorem dX6_takeNumber_45 : decode cX6_takeNumber 45 = .ok (.invokestatic 67, 3) := by decide +kernel
theorem dX6_takeNumber_48 : decode cX6_takeNumber 48 = .ok (.istore_n 3, 1) := by decide +kernel
theorem dX6_takeNumber_49 : decode cX6_takeNumber 49 = .ok (.iinc 4 1, 3) := by decide +kernel
theorem dX6_takeNumber_52 : decode cX6_takeNumber 52 = .ok (.iinc 5 1, 3) := by decide +kernel
theorem dX6_takeNumber_55 : decode cX6_takeNumber 55 = .ok (.goto (-47), 3) := by decide +kernel
theorem dX6_takeNumber_58 : decode cX6_takeNumber 58 = .ok (.aload_n 0, 1) := by decide +kernel
theorem dX6_takeNumber_59 : decode cX6_takeNumber 59 = .ok (.iconst 2, 1) := by decide +kernel
theorem dX6_takeNumber_60 : decode cX6_takeNumber 60 = .ok (.iload_n 2, 1) := by decide +kernel
theorem dX6_takeNumber_61 : decode cX6_takeNumber 61 = .ok (.iload_n 3, 1) := by decide +kernel
theorem dX6_takeNumber_62 : decode cX6_takeNumber 62 = .ok (.invokevirtual 40, 3) := by decide +kernel
theorem dX6_takeNumber_65 : decode cX6_takeNumber 65 = .ok (.iload 4, 2) := by decide +kernel
theorem dX6_takeNumber_67 : decode cX6_takeNumber 67 = .ok (.ireturn, 1) := by decide +kernel
theorem dX6_takeWord_0 : decode cX6_takeWord 0 = .ok (.iload_n 2, 1) := by decide +kernel
theorem dX6_takeWord_1 : decode cX6_takeWord 1 = .ok (.istore_n 3, 1) := by decide +kernel
theorem dX6_takeWord_2 : decode cX6_takeWord 2 = .ok (.iconst 0, 1) := by decide +kernel
theorem dX6_takeWord_3 : decode cX6_takeWord 3 = .ok (.istore 4, 2) := by decide +kernel
theorem dX6_takeWord_5 : decode cX6_takeWord 5 = .ok (.iload 4, 2) := by decide +kernel
theorem dX6_takeWord_7 : decode cX6_takeWord 7 = .ok (.sipush 300, 3) := by decide +kernel
theorem dX6_takeWord_10 : decode cX6_takeWord 10 = .ok (.if_icmp .ge 23, 3) := by decide +kernel
theorem dX6_takeWord_13 : decode cX6_takeWord 13 = .ok (.aload_n 1, 1) := by decide +kernel
theorem dX6_takeWord_14 : decode cX6_takeWord 14 = .ok (.iload_n 3, 1) := by decide +kernel
theorem dX6_takeWord_15 : decode cX6_takeWord 15 = .ok (.invokevirtual 44, 3) := by decide +kernel
theorem dX6_takeWord_18 : decode cX6_takeWord 18 = .ok (.invokestatic 58, 3) := by decide +kernel
theorem dX6_takeWord_21 : decode cX6_takeWord 21 = .ok (.ifCond .eq 12, 3) := by decide +kernel
theorem dX6_takeWord_24 : decode cX6_takeWord 24 = .ok (.iinc 3 1, 3) := by decide +kernel
theorem dX6_takeWord_27 : decode cX6_takeWord 27 = .ok (.iinc 4 1, 3) := by decide +kernel
theorem dX6_takeWord_30 : decode cX6_takeWord 30 = .ok (.goto (-25), 3) := by decide +kernel
theorem dX6_takeWord_33 : decode cX6_takeWord 33 = .ok (.aload_n 0, 1) := by decide +kernel
theorem dX6_takeWord_34 : decode cX6_takeWord 34 = .ok (.aload_n 1, 1) := by decide +kernel
theorem dX6_takeWord_35 : decode cX6_takeWord 35 = .ok (.iload_n 2, 1) := by decide +kernel
theorem dX6_takeWord_36 : decode cX6_takeWord 36 = .ok (.iload_n 3, 1) := by decide +kernel
theorem dX6_takeWord_37 : decode cX6_takeWord 37 = .ok (.iload_n 2, 1) := by decide +kernel
theorem dX6_takeWord_38 : decode cX6_takeWord 38 = .ok (.isub, 1) := by decide +kernel
theorem dX6_takeWord_39 : decode cX6_takeWord 39 = .ok (.invokestatic 73, 3) := by decide +kernel
theorem dX6_takeWord_42 : decode cX6_takeWord 42 = .ok (.iload_n 2, 1) := by decide +kernel
theorem dX6_takeWord_43 : decode cX6_takeWord 43 = .ok (.iconst 0, 1) := by decide +kernel
theorem dX6_takeWord_44 : decode cX6_takeWord 44 = .ok (.invokevirtual 40, 3) := by decide +kernel
theorem dX6_takeWord_47 : decode cX6_takeWord 47 = .ok (.iload_n 3, 1) := by decide +kernel
theorem dX6_takeWord_48 : decode cX6_takeWord 48 = .ok (.ireturn, 1) := by decide +kernel
theorem dX6_wordKind_0 : decode cX6_wordKind 0 = .ok (.iconst 3, 1) := by decide +kernel
theorem dX6_wordKind_1 : decode cX6_wordKind 1 = .ok (.istore_n 3, 1) := by decide +kernel
theorem dX6_wordKind_2 : decode cX6_wordKind 2 = .ok (.iconst 0, 1) := by decide +kernel
theorem dX6_wordKind_3 : decode cX6_wordKind 3 = .ok (.istore 4, 2) := by decide +kernel
theorem dX6_wordKind_5 : decode cX6_wordKind 5 = .ok (.iconst 1, 1) := by decide +kernel
theorem dX6_wordKind_6 : decode cX6_wordKind 6 = .ok (.istore 5, 2) := by decide +kernel
theorem dX6_wordKind_8 : decode cX6_wordKind 8 = .ok (.iconst 0, 1) := by decide +kernel
theorem dX6_wordKind_9 : decode cX6_wordKind 9 = .ok (.istore 6, 2) := by decide +kernel
theorem dX6_wordKind_11 : decode cX6_wordKind 11 = .ok (.iload 6, 2) := by decide +kernel
theorem dX6_wordKind_13 : decode cX6_wordKind 13 = .ok (.ldc 77, 2) := by decide +kernel
theorem dX6_wordKind_15 : decode cX6_wordKind 15 = .ok (.invokevirtual 79, 3) := by decide +kernel
theorem dX6_wordKind_18 : decode cX6_wordKind 18 = .ok (.if_icmp .ge 84, 3) := by decide +kernel
theorem dX6_wordKind_21 : decode cX6_wordKind 21 = .ok (.ldc 77, 2) := by decide +kernel
theorem dX6_wordKind_23 : decode cX6_wordKind 23 = .ok (.iload 6, 2) := by decide +kernel
theorem dX6_wordKind_25 : decode cX6_wordKind 25 = .ok (.invokevirtual 85, 3) := by decide +kernel
theorem dX6_wordKind_28 : decode cX6_wordKind 28 = .ok (.istore 7, 2) := by decide +kernel
theorem dX6_wordKind_30 : decode cX6_wordKind 30 = .ok (.iload 7, 2) := by decide +kernel
theorem dX6_wordKind_32 : decode cX6_wordKind 32 = .ok (.bipush 32, 2) := by decide +kernel
theorem dX6_wordKind_34 : decode cX6_wordKind 34 = .ok (.if_icmp .eq 40, 3) := by decide +kernel
theorem dX6_wordKind_37 : decode cX6_wordKind 37 = .ok (.iload 5, 2) := by decide +kernel
theorem dX6_wordKind_39 : decode cX6_wordKind 39 = .ok (.ifCond .eq 26, 3) := by decide +kernel
theorem dX6_wordKind_42 : decode cX6_wordKind 42 = .ok (.iload 4, 2) := by decide +kernel
theorem dX6_wordKind_44 : decode cX6_wordKind 44 = .ok (.iload_n 2, 1) := by decide +kernel
theorem dX6_wordKind_45 : decode cX6_wordKind 45 = .ok (.if_icmp .ge 20, 3) := by decide +kernel
theorem dX6_wordKind_48 : decode cX6_wordKind 48 = .ok (.aload_n 0, 1) := by decide +kernel
theorem dX6_wordKind_49 : decode cX6_wordKind 49 = .ok (.iload_n 1, 1) := by decide +kernel
theorem dX6_wordKind_50 : decode cX6_wordKind 50 = .ok (.iload 4, 2) := by decide +kernel
theorem dX6_wordKind_52 : decode cX6_wordKind 52 = .ok (.iadd, 1) := by decide +kernel
theorem dX6_wordKind_53 : decode cX6_wordKind 53 = .ok (.invokevirtual 44, 3) := by decide +kernel
theorem dX6_wordKind_56 : decode cX6_wordKind 56 = .ok (.iload 7, 2) := by decide +kernel
theorem dX6_wordKind_58 : decode cX6_wordKind 58 = .ok (.if_icmp .ne 7, 3) := by decide +kernel
theorem dX6_wordKind_61 : decode cX6_wordKind 61 = .ok (.iconst 1, 1) := by decide +kernel
theorem dX6_wordKind_62 : decode cX6_wordKind 62 = .ok (.goto 4, 3) := by decide +kernel
theorem dX6_wordKind_65 : decode cX6_wordKind 65 = .ok (.iconst 0, 1) := by decide +kernel
theorem dX6_wordKind_66 : decode cX6_wordKind 66 = .ok (.istore 5, 2) := by decide +kernel
theorem dX6_wordKind_68 : decode cX6_wordKind 68 = .ok (.iinc 4 1, 3) := by decide +kernel
theorem dX6_wordKind_71 : decode cX6_wordKind 71 = .ok (.goto 25, 3) := by decide +kernel
theorem dX6_wordKind_74 : decode cX6_wordKind 74 = .ok (.iload 5, 2) := by decide +kernel
theorem dX6_wordKind_76 : decode cX6_wordKind 76 = .ok (.ifCond .eq 11, 3) := by decide +kernel
theorem dX6_wordKind_79 : decode cX6_wordKind 79 = .ok (.iload 4, 2) := by decide +kernel
theorem dX6_wordKind_81 : decode cX6_wordKind 81 = .ok (.iload_n 2, 1) := by decide +kernel
theorem dX6_wordKind_82 : decode cX6_wordKind 82 = .ok (.if_icmp .ne 5, 3) := by decide +kernel
theorem dX6_wordKind_85 : decode cX6_wordKind 85 = .ok (.iload_n 3, 1) := by decide +kernel
theorem dX6_wordKind_86 : decode cX6_wordKind 86 = .ok (.ireturn, 1) := by decide +kernel
theorem dX6_wordKind_87 : decode cX6_wordKind 87 = .ok (.iinc 3 1, 3) := by decide +kernel
theorem dX6_wordKind_90 : decode cX6_wordKind 90 = .ok (.iconst 0, 1) := by decide +kernel
theorem dX6_wordKind_91 : decode cX6_wordKind 91 = .ok (.istore 4, 2) := by decide +kernel
theorem dX6_wordKind_93 : decode cX6_wordKind 93 = .ok (.iconst 1, 1) := by decide +kernel
theorem dX6_wordKind_94 : decode cX6_wordKind 94 = .ok (.istore 5, 2) := by decide +kernel
theorem dX6_wordKind_96 : decode cX6_wordKind 96 = .ok (.iinc 6 1, 3) := by decide +kernel
theorem dX6_wordKind_99 : decode cX6_wordKind 99 = .ok (.goto (-88), 3) := by decide +kernel
theorem dX6_wordKind_102 : decode cX6_wordKind 102 = .ok (.iconst 0, 1) := by decide +kernel
theorem dX6_wordKind_103 : decode cX6_wordKind 103 = .ok (.ireturn, 1) := by decide +kernel
theorem dX6_takeSign_0 : decode cX6_takeSign 0 = .ok (.ldc 89, 2) := by decide +kernel
theorem dX6_takeSign_2 : decode cX6_takeSign 2 = .ok (.aload_n 1, 1) := by decide +kernel
theorem dX6_takeSign_3 : decode cX6_takeSign 3 = .ok (.iload_n 2, 1) := by decide +kernel
theorem dX6_takeSign_4 : decode cX6_takeSign 4 = .ok (.invokevirtual 44, 3) := by decide +kernel
theorem dX6_takeSign_7 : decode cX6_takeSign 7 = .ok (.i2c, 1) := by decide +kernel
theorem dX6_takeSign_8 : decode cX6_takeSign 8 = .ok (.invokevirtual 91, 3) := by decide +kernel
theorem dX6_takeSign_11 : decode cX6_takeSign 11 = .ok (.istore_n 3, 1) := by decide +kernel
theorem dX6_takeSign_12 : decode cX6_takeSign 12 = .ok (.iload_n 3, 1) := by decide +kernel
theorem dX6_takeSign_13 : decode cX6_takeSign 13 = .ok (.ifCond .ge 7, 3) := by decide +kernel
theorem dX6_takeSign_16 : decode cX6_takeSign 16 = .ok (.iconst 0, 1) := by decide +kernel
theorem dX6_takeSign_17 : decode cX6_takeSign 17 = .ok (.goto 7, 3) := by decide +kernel
theorem dX6_takeSign_20 : decode cX6_takeSign 20 = .ok (.bipush 30, 2) := by decide +kernel
theorem dX6_takeSign_22 : decode cX6_takeSign 22 = .ok (.iload_n 3, 1) := by decide +kernel
theorem dX6_takeSign_23 : decode cX6_takeSign 23 = .ok (.iadd, 1) := by decide +kernel
theorem dX6_takeSign_24 : decode cX6_takeSign 24 = .ok (.istore 4, 2) := by decide +kernel
theorem dX6_takeSign_26 : decode cX6_takeSign 26 = .ok (.iload 4, 2) := by decide +kernel
theorem dX6_takeSign_28 : decode cX6_takeSign 28 = .ok (.bipush 30, 2) := by decide +kernel
theorem dX6_takeSign_30 : decode cX6_takeSign 30 = .ok (.if_icmp .eq 10, 3) := by decide +kernel
theorem dX6_takeSign_33 : decode cX6_takeSign 33 = .ok (.iload 4, 2) := by decide +kernel
theorem dX6_takeSign_35 : decode cX6_takeSign 35 = .ok (.bipush 31, 2) := by decide +kernel
theorem dX6_takeSign_37 : decode cX6_takeSign 37 = .ok (.if_icmp .ne 19, 3) := by decide +kernel
theorem dX6_takeSign_40 : decode cX6_takeSign 40 = .ok (.aload_n 1, 1) := by decide +kernel
theorem dX6_takeSign_41 : decode cX6_takeSign 41 = .ok (.iload_n 2, 1) := by decide +kernel
theorem dX6_takeSign_42 : decode cX6_takeSign 42 = .ok (.iconst 1, 1) := by decide +kernel
theorem dX6_takeSign_43 : decode cX6_takeSign 43 = .ok (.iadd, 1) := by decide +kernel
theorem dX6_takeSign_44 : decode cX6_takeSign 44 = .ok (.invokevirtual 44, 3) := by decide +kernel
theorem dX6_takeSign_47 : decode cX6_takeSign 47 = .ok (.bipush 61, 2) := by decide +kernel
theorem dX6_takeSign_49 : decode cX6_takeSign 49 = .ok (.if_icmp .ne 7, 3) := by decide +kernel
theorem dX6_takeSign_52 : decode cX6_takeSign 52 = .ok (.iconst 1, 1) := by decide +kernel
theorem dX6_takeSign_53 : decode cX6_takeSign 53 = .ok (.goto 4, 3) := by decide +kernel
theorem dX6_takeSign_56 : decode cX6_takeSign 56 = .ok (.iconst 0, 1) := by decide +kernel
theorem dX6_takeSign_57 : decode cX6_takeSign 57 = .ok (.istore 5, 2) := by decide +kernel
theorem dX6_takeSign_59 : decode cX6_takeSign 59 = .ok (.iload 5, 2) := by decide +kernel
theorem dX6_takeSign_61 : decode cX6_takeSign 61 = .ok (.ifCond .eq 19, 3) := by decide +kernel
theorem dX6_takeSign_64 : decode cX6_takeSign 64 = .ok (.iload 4, 2) := by decide +kernel
theorem dX6_takeSign_66 : decode cX6_takeSign 66 = .ok (.bipush 30, 2) := by decide +kernel
theorem dX6_takeSign_68 : decode cX6_takeSign 68 = .ok (.if_icmp .ne 8, 3) := by decide +kernel
theorem dX6_takeSign_71 : decode cX6_takeSign 71 = .ok (.bipush 41, 2) := by decide +kernel
theorem dX6_takeSign_73 : decode cX6_takeSign 73 = .ok (.goto 5, 3) := by decide +kernel
theorem dX6_takeSign_76 : decode cX6_takeSign 76 = .ok (.bipush 42, 2) := by decide +kernel
theorem dX6_takeSign_78 : decode cX6_takeSign 78 = .ok (.istore 4, 2) := by decide +kernel
theorem dX6_takeSign_80 : decode cX6_takeSign 80 = .ok (.aload_n 0, 1) := by decide +kernel
theorem dX6_takeSign_81 : decode cX6_takeSign 81 = .ok (.iload 4, 2) := by decide +kernel
theorem dX6_takeSign_83 : decode cX6_takeSign 83 = .ok (.iload_n 2, 1) := by decide +kernel
theorem dX6_takeSign_84 : decode cX6_takeSign 84 = .ok (.iconst 0, 1) := by decide +kernel
theorem dX6_takeSign_85 : decode cX6_takeSign 85 = .ok (.invokevirtual 40, 3) := by decide +kernel
theorem dX6_takeSign_88 : decode cX6_takeSign 88 = .ok (.iload 5, 2) := by decide +kernel
theorem dX6_takeSign_90 : decode cX6_takeSign 90 = .ok (.ifCond .eq 9, 3) := by decide +kernel
theorem dX6_takeSign_93 : decode cX6_takeSign 93 = .ok (.iload_n 2, 1) := by decide +kernel
theorem dX6_takeSign_94 : decode cX6_takeSign 94 = .ok (.iconst 2, 1) := by decide +kernel
theorem dX6_takeSign_95 : decode cX6_takeSign 95 = .ok (.iadd, 1) := by decide +kernel
theorem dX6_takeSign_96 : decode cX6_takeSign 96 = .ok (.goto 6, 3) := by decide +kernel
theorem dX6_takeSign_99 : decode cX6_takeSign 99 = .ok (.iload_n 2, 1) := by decide +kernel
theorem dX6_takeSign_100 : decode cX6_takeSign 100 = .ok (.iconst 1, 1) := by decide +kernel
theorem dX6_takeSign_101 : decode cX6_takeSign 101 = .ok (.iadd, 1) := by decide +kernel
theorem dX6_takeSign_102 : decode cX6_takeSign 102 = .ok (.ireturn, 1) := by decide +kernel
theorem dX7_init_0 : decode cX7_init 0 = .ok (.aload_n 0, 1) := by decide +kernel
theorem dX7_init_1 : decode cX7_init 1 = .ok (.invokespecial 1, 3) := by decide +kernel
theorem dX7_init_4 : decode cX7_init 4 = .ok (.aload_n 0, 1) := by decide +kernel
theorem dX7_init_5 : decode cX7_init 5 = .ok (.aload_n 1, 1) := by decide +kernel
theorem dX7_init_6 : decode cX7_init 6 = .ok (.arraylength, 1) := by decide +kernel
theorem dX7_init_7 : decode cX7_init 7 = .ok (.aload_n 2, 1) := by decide +kernel
theorem dX7_init_8 : decode cX7_init 8 = .ok (.arraylength, 1) := by decide +kernel
theorem dX7_init_9 : decode cX7_init 9 = .ok (.aload_n 3, 1) := by decide +kernel
theorem dX7_init_10 : decode cX7_init 10 = .ok (.arraylength, 1) := by decide +kernel
theorem dX7_init_11 : decode cX7_init 11 = .ok (.invokestatic 7, 3) := by decide +kernel
theorem dX7_init_14 : decode cX7_init 14 = .ok (.invokestatic 7, 3) := by decide +kernel
theorem dX7_init_17 : decode cX7_init 17 = .ok (.putfield 13, 3) := by decide +kernel
theorem dX7_init_20 : decode cX7_init 20 = .ok (.aload_n 0, 1) := by decide +kernel
theorem dX7_init_21 : decode cX7_init 21 = .ok (.aload_n 1, 1) := by decide +kernel
theorem dX7_init_22 : decode cX7_init 22 = .ok (.putfield 19, 3) := by decide +kernel
theorem dX7_init_25 : decode cX7_init 25 = .ok (.aload_n 0, 1) := by decide +kernel
theorem dX7_init_26 : decode cX7_init 26 = .ok (.aload_n 2, 1) := by decide +kernel
theorem dX7_init_27 : decode cX7_init 27 = .ok (.putfield 23, 3) := by decide +kernel
theorem dX7_init_30 : decode cX7_init 30 = .ok (.aload_n 0, 1) := by decide +kernel
theorem dX7_init_31 : decode cX7_init 31 = .ok (.aload_n 3, 1) := by decide +kernel
theorem dX7_init_32 : decode cX7_init 32 = .ok (.putfield 26, 3) := by decide +kernel
theorem dX7_init_35 : decode cX7_init 35 = .ok (.aload_n 0, 1) := by decide +kernel
theorem dX7_init_36 : decode cX7_init 36 = .ok (.aload 4, 2) := by decide +kernel
theorem dX7_init_38 : decode cX7_init 38 = .ok (.putfield 29, 3) := by decide +kernel
theorem dX7_init_41 : decode cX7_init 41 = .ok (.aload_n 0, 1) := by decide +kernel
theorem dX7_init_42 : decode cX7_init 42 = .ok (.aload 5, 2) := by decide +kernel
theorem dX7_init_44 : decode cX7_init 44 = .ok (.putfield 33, 3) := by decide +kernel
theorem dX7_init_47 : decode cX7_init 47 = .ok (.return_, 1) := by decide +kernel
theorem dX8_init_0 : decode cX8_init 0 = .ok (.aload_n 0, 1) := by decide +kernel
theorem dX8_init_1 : decode cX8_init 1 = .ok (.invokespecial 1, 3) := by decide +kernel
theorem dX8_init_4 : decode cX8_init 4 = .ok (.aload_n 0, 1) := by decide +kernel
theorem dX8_init_5 : decode cX8_init 5 = .ok (.sipush 1650, 3) := by decide +kernel
theorem dX8_init_8 : decode cX8_init 8 = .ok (.newarray .int, 2) := by decide +kernel
theorem dX8_init_10 : decode cX8_init 10 = .ok (.putfield 11, 3) := by decide +kernel
theorem dX8_init_13 : decode cX8_init 13 = .ok (.aload_n 0, 1) := by decide +kernel
theorem dX8_init_14 : decode cX8_init 14 = .ok (.iconst 0, 1) := by decide +kernel
theorem dX8_init_15 : decode cX8_init 15 = .ok (.putfield 15, 3) := by decide +kernel
theorem dX8_init_18 : decode cX8_init 18 = .ok (.aload_n 0, 1) := by decide +kernel
theorem dX8_init_19 : decode cX8_init 19 = .ok (.iconst 0, 1) := by decide +kernel
theorem dX8_init_20 : decode cX8_init 20 = .ok (.putfield 19, 3) := by decide +kernel
theorem dX8_init_23 : decode cX8_init 23 = .ok (.return_, 1) := by decide +kernel
theorem dX8_keep_0 : decode cX8_keep 0 = .ok (.aload_n 1, 1) := by decide +kernel
theorem dX8_keep_1 : decode cX8_keep 1 = .ok (.aload_n 0, 1) := by decide +kernel
theorem dX8_keep_2 : decode cX8_keep 2 = .ok (.getfield 11, 3) := by decide +kernel
theorem dX8_keep_5 : decode cX8_keep 5 = .ok (.aload_n 0, 1) := by decide +kernel
theorem dX8_keep_6 : decode cX8_keep 6 = .ok (.getfield 15, 3) := by decide +kernel
theorem dX8_keep_9 : decode cX8_keep 9 = .ok (.bipush 55, 2) := by decide +kernel
theorem dX8_keep_11 : decode cX8_keep 11 = .ok (.imul, 1) := by decide +kernel
theorem dX8_keep_12 : decode cX8_keep 12 = .ok (.invokevirtual 22, 3) := by decide +kernel
theorem dX8_keep_15 : decode cX8_keep 15 = .ok (.aload_n 0, 1) := by decide +kernel
theorem dX8_keep_16 : decode cX8_keep 16 = .ok (.aload_n 0, 1) := by decide +kernel
theorem dX8_keep_17 : decode cX8_keep 17 = .ok (.getfield 15, 3) := by decide +kernel
theorem dX8_keep_20 : decode cX8_keep 20 = .ok (.iconst 1, 1) := by decide +kernel
theorem dX8_keep_21 : decode cX8_keep 21 = .ok (.iadd, 1) := by decide +kernel
theorem dX8_keep_22 : decode cX8_keep 22 = .ok (.bipush 30, 2) := by decide +kernel
theorem dX8_keep_24 : decode cX8_keep 24 = .ok (.irem, 1) := by decide +kernel
theorem dX8_keep_25 : decode cX8_keep 25 = .ok (.putfield 15, 3) := by decide +kernel
theorem dX8_keep_28 : decode cX8_keep 28 = .ok (.aload_n 0, 1) := by decide +kernel
theorem dX8_keep_29 : decode cX8_keep 29 = .ok (.bipush 30, 2) := by decide +kernel
theorem dX8_keep_31 : decode cX8_keep 31 = .ok (.aload_n 0, 1) := by decide +kernel
theorem dX8_keep_32 : decode cX8_keep 32 = .ok (.getfield 19, 3) := by decide +kernel
theorem dX8_keep_35 : decode cX8_keep 35 = .ok (.iconst 1, 1) := by decide +kernel
theorem dX8_keep_36 : decode cX8_keep 36 = .ok (.iadd, 1) := by decide +kernel
theorem dX8_keep_37 : decode cX8_keep 37 = .ok (.invokestatic 26, 3) := by decide +kernel
theorem dX8_keep_40 : decode cX8_keep 40 = .ok (.putfield 19, 3) := by decide +kernel
theorem dX8_keep_43 : decode cX8_keep 43 = .ok (.return_, 1) := by decide +kernel
theorem dX8_takeBack_0 : decode cX8_takeBack 0 = .ok (.aload_n 0, 1) := by decide +kernel
theorem dX8_takeBack_1 : decode cX8_takeBack 1 = .ok (.getfield 19, 3) := by decide +kernel
theorem dX8_takeBack_4 : decode cX8_takeBack 4 = .ok (.ifCond .ne 5, 3) := by decide +kernel
theorem dX8_takeBack_7 : decode cX8_takeBack 7 = .ok (.iconst 0, 1) := by decide +kernel
theorem dX8_takeBack_8 : decode cX8_takeBack 8 = .ok (.ireturn, 1) := by decide +kernel
theorem dX8_takeBack_9 : decode cX8_takeBack 9 = .ok (.aload_n 0, 1) := by decide +kernel
theorem dX8_takeBack_10 : decode cX8_takeBack 10 = .ok (.aload_n 0, 1) := by decide +kernel
theorem dX8_takeBack_11 : decode cX8_takeBack 11 = .ok (.getfield 15, 3) := by decide +kernel
theorem dX8_takeBack_14 : decode cX8_takeBack 14 = .ok (.bipush 30, 2) := by decide +kernel
theorem dX8_takeBack_16 : decode cX8_takeBack 16 = .ok (.iadd, 1) := by decide +kernel
theorem dX8_takeBack_17 : decode cX8_takeBack 17 = .ok (.iconst 1, 1) := by decide +kernel
theorem dX8_takeBack_18 : decode cX8_takeBack 18 = .ok (.isub, 1) := by decide +kernel
theorem dX8_takeBack_19 : decode cX8_takeBack 19 = .ok (.bipush 30, 2) := by decide +kernel
theorem dX8_takeBack_21 : decode cX8_takeBack 21 = .ok (.irem, 1) := by decide +kernel
theorem dX8_takeBack_22 : decode cX8_takeBack 22 = .ok (.putfield 15, 3) := by decide +kernel
theorem dX8_takeBack_25 : decode cX8_takeBack 25 = .ok (.aload_n 0, 1) := by decide +kernel
theorem dX8_takeBack_26 : decode cX8_takeBack 26 = .ok (.dup, 1) := by decide +kernel
theorem dX8_takeBack_27 : decode cX8_takeBack 27 = .ok (.getfield 19, 3) := by decide +kernel
theorem dX8_takeBack_30 : decode cX8_takeBack 30 = .ok (.iconst 1, 1) := by decide +kernel
theorem dX8_takeBack_31 : decode cX8_takeBack 31 = .ok (.isub, 1) := by decide +kernel
theorem dX8_takeBack_32 : decode cX8_takeBack 32 = .ok (.putfield 19, 3) := by decide +kernel
theorem dX8_takeBack_35 : decode cX8_takeBack 35 = .ok (.aload_n 1, 1) := by decide +kernel
theorem dX8_takeBack_36 : decode cX8_takeBack 36 = .ok (.aload_n 0, 1) := by decide +kernel
theorem dX8_takeBack_37 : decode cX8_takeBack 37 = .ok (.getfield 11, 3) := by decide +kernel
theorem dX8_takeBack_40 : decode cX8_takeBack 40 = .ok (.aload_n 0, 1) := by decide +kernel
theorem dX8_takeBack_41 : decode cX8_takeBack 41 = .ok (.getfield 15, 3) := by decide +kernel
theorem dX8_takeBack_44 : decode cX8_takeBack 44 = .ok (.bipush 55, 2) := by decide +kernel
theorem dX8_takeBack_46 : decode cX8_takeBack 46 = .ok (.imul, 1) := by decide +kernel
theorem dX8_takeBack_47 : decode cX8_takeBack 47 = .ok (.invokevirtual 32, 3) := by decide +kernel
theorem dX8_takeBack_50 : decode cX8_takeBack 50 = .ok (.iconst 1, 1) := by decide +kernel
theorem dX8_takeBack_51 : decode cX8_takeBack 51 = .ok (.ireturn, 1) := by decide +kernel
theorem dX8_become_0 : decode cX8_become 0 = .ok (.aload_n 1, 1) := by decide +kernel
theorem dX8_become_1 : decode cX8_become 1 = .ok (.getfield 11, 3) := by decide +kernel
theorem dX8_become_4 : decode cX8_become 4 = .ok (.iconst 0, 1) := by decide +kernel
theorem dX8_become_5 : decode cX8_become 5 = .ok (.aload_n 0, 1) := by decide +kernel
theorem dX8_become_6 : decode cX8_become 6 = .ok (.getfield 11, 3) := by decide +kernel
theorem dX8_become_9 : decode cX8_become 9 = .ok (.iconst 0, 1) := by decide +kernel
theorem dX8_become_10 : decode cX8_become 10 = .ok (.sipush 1650, 3) := by decide +kernel
theorem dX8_become_13 : decode cX8_become 13 = .ok (.invokestatic 35, 3) := by decide +kernel
theorem dX8_become_16 : decode cX8_become 16 = .ok (.aload_n 0, 1) := by decide +kernel
theorem dX8_become_17 : decode cX8_become 17 = .ok (.aload_n 1, 1) := by decide +kernel
theorem dX8_become_18 : decode cX8_become 18 = .ok (.getfield 15, 3) := by decide +kernel
theorem dX8_become_21 : decode cX8_become 21 = .ok (.putfield 15, 3) := by decide +kernel
theorem dX8_become_24 : decode cX8_become 24 = .ok (.aload_n 0, 1) := by decide +kernel
theorem dX8_become_25 : decode cX8_become 25 = .ok (.aload_n 1, 1) := by decide +kernel
theorem dX8_become_26 : decode cX8_become 26 = .ok (.getfield 19, 3) := by decide +kernel
theorem dX8_become_29 : decode cX8_become 29 = .ok (.putfield 19, 3) := by decide +kernel
theorem dX8_become_32 : decode cX8_become 32 = .ok (.return_, 1) := by decide +kernel
theorem dX9_init_0 : decode cX9_init 0 = .ok (.aload_n 0, 1) := by decide +kernel
theorem dX9_init_1 : decode cX9_init 1 = .ok (.invokespecial 3, 3) := by decide +kernel
theorem dX9_init_4 : decode cX9_init 4 = .ok (.aload_n 0, 1) := by decide +kernel
theorem dX9_init_5 : decode cX9_init 5 = .ok (.sipush 300, 3) := by decide +kernel
theorem dX9_init_8 : decode cX9_init 8 = .ok (.newarray .byte, 2) := by decide +kernel
theorem dX9_init_10 : decode cX9_init 10 = .ok (.putfield 9, 3) := by decide +kernel
theorem dX9_init_13 : decode cX9_init 13 = .ok (.aload_n 0, 1) := by decide +kernel
theorem dX9_init_14 : decode cX9_init 14 = .ok (.iconst 0, 1) := by decide +kernel
theorem dX9_init_15 : decode cX9_init 15 = .ok (.putfield 15, 3) := by decide +kernel
theorem dX9_init_18 : decode cX9_init 18 = .ok (.return_, 1) := by decide +kernel
theorem dX9_hasRoom_0 : decode cX9_hasRoom 0 = .ok (.aload_n 0, 1) := by decide +kernel
theorem dX9_hasRoom_1 : decode cX9_hasRoom 1 = .ok (.getfield 15, 3) := by decide +kernel
theorem dX9_hasRoom_4 : decode cX9_hasRoom 4 = .ok (.iload_n 1, 1) := by decide +kernel
theorem dX9_hasRoom_5 : decode cX9_hasRoom 5 = .ok (.iadd, 1) := by decide +kernel
theorem dX9_hasRoom_6 : decode cX9_hasRoom 6 = .ok (.sipush 300, 3) := by decide +kernel
theorem dX9_hasRoom_9 : decode cX9_hasRoom 9 = .ok (.if_icmp .gt 7, 3) := by decide +kernel
theorem dX9_hasRoom_12 : decode cX9_hasRoom 12 = .ok (.iconst 1, 1) := by decide +kernel
theorem dX9_hasRoom_13 : decode cX9_hasRoom 13 = .ok (.goto 4, 3) := by decide +kernel
theorem dX9_hasRoom_16 : decode cX9_hasRoom 16 = .ok (.iconst 0, 1) := by decide +kernel
theorem dX9_hasRoom_17 : decode cX9_hasRoom 17 = .ok (.ireturn, 1) := by decide +kernel
theorem dX9_put_0 : decode cX9_put 0 = .ok (.bipush 24, 2) := by decide +kernel
theorem dX9_put_2 : decode cX9_put 2 = .ok (.istore_n 2, 1) := by decide +kernel
theorem dX9_put_3 : decode cX9_put 3 = .ok (.iload_n 2, 1) := by decide +kernel
theorem dX9_put_4 : decode cX9_put 4 = .ok (.ifCond .lt 42, 3) := by decide +kernel
theorem dX9_put_7 : decode cX9_put 7 = .ok (.aload_n 0, 1) := by decide +kernel
theorem dX9_put_8 : decode cX9_put 8 = .ok (.getfield 15, 3) := by decide +kernel
theorem dX9_put_11 : decode cX9_put 11 = .ok (.sipush 300, 3) := by decide +kernel
theorem dX9_put_14 : decode cX9_put 14 = .ok (.if_icmp .ge 32, 3) := by decide +kernel
theorem dX9_put_17 : decode cX9_put 17 = .ok (.aload_n 0, 1) := by decide +kernel
theorem dX9_put_18 : decode cX9_put 18 = .ok (.getfield 9, 3) := by decide +kernel
theorem dX9_put_21 : decode cX9_put 21 = .ok (.aload_n 0, 1) := by decide +kernel
theorem dX9_put_22 : decode cX9_put 22 = .ok (.getfield 15, 3) := by decide +kernel
theorem dX9_put_25 : decode cX9_put 25 = .ok (.iload_n 1, 1) := by decide +kernel
theorem dX9_put_26 : decode cX9_put 26 = .ok (.iload_n 2, 1) := by decide +kernel
theorem dX9_put_27 : decode cX9_put 27 = .ok (.iushr, 1) := by decide +kernel
theorem dX9_put_28 : decode cX9_put 28 = .ok (.i2b, 1) := by decide +kernel
theorem dX9_put_29 : decode cX9_put 29 = .ok (.bastore, 1) := by decide +kernel
theorem dX9_put_30 : decode cX9_put 30 = .ok (.aload_n 0, 1) := by decide +kernel
theorem dX9_put_31 : decode cX9_put 31 = .ok (.dup, 1) := by decide +kernel
theorem dX9_put_32 : decode cX9_put 32 = .ok (.getfield 15, 3) := by decide +kernel
theorem dX9_put_35 : decode cX9_put 35 = .ok (.iconst 1, 1) := by decide +kernel
theorem dX9_put_36 : decode cX9_put 36 = .ok (.iadd, 1) := by decide +kernel
theorem dX9_put_37 : decode cX9_put 37 = .ok (.putfield 15, 3) := by decide +kernel
theorem dX9_put_40 : decode cX9_put 40 = .ok (.iinc 2 (-8), 3) := by decide +kernel
theorem dX9_put_43 : decode cX9_put 43 = .ok (.goto (-40), 3) := by decide +kernel
theorem dX9_put_46 : decode cX9_put 46 = .ok (.return_, 1) := by decide +kernel
theorem dX9_byteAt_0 : decode cX9_byteAt 0 = .ok (.iload_n 1, 1) := by decide +kernel
theorem dX9_byteAt_1 : decode cX9_byteAt 1 = .ok (.ifCond .lt 24, 3) := by decide +kernel
theorem dX9_byteAt_4 : decode cX9_byteAt 4 = .ok (.iload_n 1, 1) := by decide +kernel
theorem dX9_byteAt_5 : decode cX9_byteAt 5 = .ok (.aload_n 0, 1) := by decide +kernel
theorem dX9_byteAt_6 : decode cX9_byteAt 6 = .ok (.getfield 15, 3) := by decide +kernel
theorem dX9_byteAt_9 : decode cX9_byteAt 9 = .ok (.if_icmp .ge 16, 3) := by decide +kernel
theorem dX9_byteAt_12 : decode cX9_byteAt 12 = .ok (.aload_n 0, 1) := by decide +kernel
theorem dX9_byteAt_13 : decode cX9_byteAt 13 = .ok (.getfield 9, 3) := by decide +kernel
theorem dX9_byteAt_16 : decode cX9_byteAt 16 = .ok (.iload_n 1, 1) := by decide +kernel
theorem dX9_byteAt_17 : decode cX9_byteAt 17 = .ok (.baload, 1) := by decide +kernel
theorem dX9_byteAt_18 : decode cX9_byteAt 18 = .ok (.sipush 255, 3) := by decide +kernel
theorem dX9_byteAt_21 : decode cX9_byteAt 21 = .ok (.iand, 1) := by decide +kernel
theorem dX9_byteAt_22 : decode cX9_byteAt 22 = .ok (.goto 4, 3) := by decide +kernel
theorem dX9_byteAt_25 : decode cX9_byteAt 25 = .ok (.iconst 0, 1) := by decide +kernel
theorem dX9_byteAt_26 : decode cX9_byteAt 26 = .ok (.ireturn, 1) := by decide +kernel
theorem dX10_init_0 : decode cX10_init 0 = .ok (.aload_n 0, 1) := by decide +kernel
theorem dX10_init_1 : decode cX10_init 1 = .ok (.invokespecial 1, 3) := by decide +kernel
theorem dX10_init_4 : decode cX10_init 4 = .ok (.aload_n 0, 1) := by decide +kernel
theorem dX10_init_5 : decode cX10_init 5 = .ok (.new 7, 3) := by decide +kernel
theorem dX10_init_8 : decode cX10_init 8 = .ok (.dup, 1) := by decide +kernel
theorem dX10_init_9 : decode cX10_init 9 = .ok (.invokespecial 9, 3) := by decide +kernel
theorem dX10_init_12 : decode cX10_init 12 = .ok (.putfield 10, 3) := by decide +kernel
theorem dX10_init_15 : decode cX10_init 15 = .ok (.aload_n 0, 1) := by decide +kernel
theorem dX10_init_16 : decode cX10_init 16 = .ok (.new 16, 3) := by decide +kernel
theorem dX10_init_19 : decode cX10_init 19 = .ok (.dup, 1) := by decide +kernel
theorem dX10_init_20 : decode cX10_init 20 = .ok (.invokespecial 18, 3) := by decide +kernel
theorem dX10_init_23 : decode cX10_init 23 = .ok (.putfield 19, 3) := by decide +kernel
theorem dX10_init_26 : decode cX10_init 26 = .ok (.aload_n 0, 1) := by decide +kernel
theorem dX10_init_27 : decode cX10_init 27 = .ok (.iconst 4, 1) := by decide +kernel
theorem dX10_init_28 : decode cX10_init 28 = .ok (.anewarray 23, 3) := by decide +kernel
theorem dX10_init_31 : decode cX10_init 31 = .ok (.putfield 25, 3) := by decide +kernel
theorem dX10_init_34 : decode cX10_init 34 = .ok (.aload_n 0, 1) := by decide +kernel
theorem dX10_init_35 : decode cX10_init 35 = .ok (.new 29, 3) := by decide +kernel
theorem dX10_init_38 : decode cX10_init 38 = .ok (.dup, 1) := by decide +kernel
theorem dX10_init_39 : decode cX10_init 39 = .ok (.invokespecial 31, 3) := by decide +kernel
theorem dX10_init_42 : decode cX10_init 42 = .ok (.putfield 32, 3) := by decide +kernel
theorem dX10_init_45 : decode cX10_init 45 = .ok (.aload_n 0, 1) := by decide +kernel
theorem dX10_init_46 : decode cX10_init 46 = .ok (.new 29, 3) := by decide +kernel
theorem dX10_init_49 : decode cX10_init 49 = .ok (.dup, 1) := by decide +kernel
theorem dX10_init_50 : decode cX10_init 50 = .ok (.invokespecial 31, 3) := by decide +kernel
theorem dX10_init_53 : decode cX10_init 53 = .ok (.putfield 36, 3) := by decide +kernel
theorem dX10_init_56 : decode cX10_init 56 = .ok (.aload_n 0, 1) := by decide +kernel
theorem dX10_init_57 : decode cX10_init 57 = .ok (.new 39, 3) := by decide +kernel
theorem dX10_init_60 : decode cX10_init 60 = .ok (.dup, 1) := by decide +kernel
theorem dX10_init_61 : decode cX10_init 61 = .ok (.invokespecial 41, 3) := by decide +kernel
theorem dX10_init_64 : decode cX10_init 64 = .ok (.putfield 42, 3) := by decide +kernel
theorem dX10_init_67 : decode cX10_init 67 = .ok (.aload_n 0, 1) := by decide +kernel
theorem dX10_init_68 : decode cX10_init 68 = .ok (.new 46, 3) := by decide +kernel
theorem dX10_init_71 : decode cX10_init 71 = .ok (.dup, 1) := by decide +kernel
theorem dX10_init_72 : decode cX10_init 72 = .ok (.invokespecial 48, 3) := by decide +kernel
theorem dX10_init_75 : decode cX10_init 75 = .ok (.putfield 49, 3) := by decide +kernel
theorem dX10_init_78 : decode cX10_init 78 = .ok (.aload_n 0, 1) := by decide +kernel
theorem dX10_init_79 : decode cX10_init 79 = .ok (.new 53, 3) := by decide +kernel
theorem dX10_init_82 : decode cX10_init 82 = .ok (.dup, 1) := by decide +kernel
theorem dX10_init_83 : decode cX10_init 83 = .ok (.invokespecial 55, 3) := by decide +kernel
theorem dX10_init_86 : decode cX10_init 86 = .ok (.putfield 56, 3) := by decide +kernel
theorem dX10_init_89 : decode cX10_init 89 = .ok (.aload_n 0, 1) := by decide +kernel
theorem dX10_init_90 : decode cX10_init 90 = .ok (.new 60, 3) := by decide +kernel
theorem dX10_init_93 : decode cX10_init 93 = .ok (.dup, 1) := by decide +kernel
theorem dX10_init_94 : decode cX10_init 94 = .ok (.invokespecial 62, 3) := by decide +kernel
theorem dX10_init_97 : decode cX10_init 97 = .ok (.putfield 63, 3) := by decide +kernel
theorem dX10_init_100 : decode cX10_init 100 = .ok (.aload_n 0, 1) := by decide +kernel
theorem dX10_init_101 : decode cX10_init 101 = .ok (.sipush 300, 3) := by decide +kernel
theorem dX10_init_104 : decode cX10_init 104 = .ok (.newarray .int, 2) := by decide +kernel
theorem dX10_init_106 : decode cX10_init 106 = .ok (.putfield 67, 3) := by decide +kernel
theorem dX10_init_109 : decode cX10_init 109 = .ok (.aload_n 0, 1) := by decide +kernel
theorem dX10_init_110 : decode cX10_init 110 = .ok (.iconst 0, 1) := by decide +kernel
theorem dX10_init_111 : decode cX10_init 111 = .ok (.putfield 71, 3) := by decide +kernel
theorem dX10_init_114 : decode cX10_init 114 = .ok (.aload_n 0, 1) := by decide +kernel
theorem dX10_init_115 : decode cX10_init 115 = .ok (.iconst (-1), 1) := by decide +kernel
theorem dX10_init_116 : decode cX10_init 116 = .ok (.putfield 75, 3) := by decide +kernel
theorem dX10_init_119 : decode cX10_init 119 = .ok (.return_, 1) := by decide +kernel
theorem dX10_feed_0 : decode cX10_feed 0 = .ok (.aload_n 0, 1) := by decide +kernel
theorem dX10_feed_1 : decode cX10_feed 1 = .ok (.getfield 10, 3) := by decide +kernel
theorem dX10_feed_4 : decode cX10_feed 4 = .ok (.bipush 20, 2) := by decide +kernel
theorem dX10_feed_6 : decode cX10_feed 6 = .ok (.invokevirtual 78, 3) := by decide +kernel
theorem dX10_feed_9 : decode cX10_feed 9 = .ok (.ifCond .ne 5, 3) := by decide +kernel
theorem dX10_feed_12 : decode cX10_feed 12 = .ok (.iconst (-1), 1) := by decide +kernel
theorem dX10_feed_13 : decode cX10_feed 13 = .ok (.ireturn, 1) := by decide +kernel
theorem dX10_feed_14 : decode cX10_feed 14 = .ok (.aload_n 0, 1) := by decide +kernel
theorem dX10_feed_15 : decode cX10_feed 15 = .ok (.getfield 10, 3) := by decide +kernel
theorem dX10_feed_18 : decode cX10_feed 18 = .ok (.iload_n 1, 1) := by decide +kernel
theorem dX10_feed_19 : decode cX10_feed 19 = .ok (.invokevirtual 82, 3) := by decide +kernel
theorem dX10_feed_22 : decode cX10_feed 22 = .ok (.aload_n 0, 1) := by decide +kernel
theorem dX10_feed_23 : decode cX10_feed 23 = .ok (.getfield 10, 3) := by decide +kernel
theorem dX10_feed_26 : decode cX10_feed 26 = .ok (.iload_n 2, 1) := by decide +kernel
theorem dX10_feed_27 : decode cX10_feed 27 = .ok (.invokevirtual 82, 3) := by decide +kernel
theorem dX10_feed_30 : decode cX10_feed 30 = .ok (.aload_n 0, 1) := by decide +kernel
theorem dX10_feed_31 : decode cX10_feed 31 = .ok (.getfield 10, 3) := by decide +kernel
theorem dX10_feed_34 : decode cX10_feed 34 = .ok (.iload_n 3, 1) := by decide +kernel
theorem dX10_feed_35 : decode cX10_feed 35 = .ok (.invokevirtual 82, 3) := by decide +kernel
theorem dX10_feed_38 : decode cX10_feed 38 = .ok (.aload_n 0, 1) := by decide +kernel
theorem dX10_feed_39 : decode cX10_feed 39 = .ok (.getfield 10, 3) := by decide +kernel
theorem dX10_feed_42 : decode cX10_feed 42 = .ok (.iload 4, 2) := by decide +kernel
theorem dX10_feed_44 : decode cX10_feed 44 = .ok (.invokevirtual 82, 3) := by decide +kernel
theorem dX10_feed_47 : decode cX10_feed 47 = .ok (.aload_n 0, 1) := by decide +kernel
theorem dX10_feed_48 : decode cX10_feed 48 = .ok (.getfield 10, 3) := by decide +kernel
theorem dX10_feed_51 : decode cX10_feed 51 = .ok (.iload 5, 2) := by decide +kernel
theorem dX10_feed_53 : decode cX10_feed 53 = .ok (.invokevirtual 82, 3) := by decide +kernel
theorem dX10_feed_56 : decode cX10_feed 56 = .ok (.aload_n 0, 1) := by decide +kernel
theorem dX10_feed_57 : decode cX10_feed 57 = .ok (.getfield 10, 3) := by decide +kernel
theorem dX10_feed_60 : decode cX10_feed 60 = .ok (.getfield 86, 3) := by decide +kernel
theorem dX10_feed_63 : decode cX10_feed 63 = .ok (.ireturn, 1) := by decide +kernel
theorem dX10_end_0 : decode cX10_end 0 = .ok (.iload_n 1, 1) := by decide +kernel
theorem dX10_end_1 : decode cX10_end 1 = .ok (.ifCond .lt 14, 3) := by decide +kernel
theorem dX10_end_4 : decode cX10_end 4 = .ok (.iload_n 1, 1) := by decide +kernel
theorem dX10_end_5 : decode cX10_end 5 = .ok (.aload_n 0, 1) := by decide +kernel
theorem dX10_end_6 : decode cX10_end 6 = .ok (.getfield 10, 3) := by decide +kernel
theorem dX10_end_9 : decode cX10_end 9 = .ok (.getfield 86, 3) := by decide +kernel
theorem dX10_end_12 : decode cX10_end 12 = .ok (.if_icmp .le 5, 3) := by decide +kernel
theorem dX10_end_15 : decode cX10_end 15 = .ok (.iconst (-1), 1) := by decide +kernel
theorem dX10_end_16 : decode cX10_end 16 = .ok (.ireturn, 1) := by decide +kernel
theorem dX10_end_17 : decode cX10_end 17 = .ok (.aload_n 0, 1) := by decide +kernel
theorem dX10_end_18 : decode cX10_end 18 = .ok (.getfield 10, 3) := by decide +kernel
theorem dX10_end_21 : decode cX10_end 21 = .ok (.iload_n 1, 1) := by decide +kernel
theorem dX10_end_22 : decode cX10_end 22 = .ok (.putfield 86, 3) := by decide +kernel
theorem dX10_end_25 : decode cX10_end 25 = .ok (.iload_n 1, 1) := by decide +kernel
theorem dX10_end_26 : decode cX10_end 26 = .ok (.ireturn, 1) := by decide +kernel
theorem dX10_text_0 : decode cX10_text 0 = .ok (.aload_n 0, 1) := by decide +kernel
theorem dX10_text_1 : decode cX10_text 1 = .ok (.getfield 71, 3) := by decide +kernel
theorem dX10_text_4 : decode cX10_text 4 = .ok (.iconst 4, 1) := by decide +kernel
theorem dX10_text_5 : decode cX10_text 5 = .ok (.if_icmp .lt 5, 3) := by decide +kernel
theorem dX10_text_8 : decode cX10_text 8 = .ok (.iconst (-1), 1) := by decide +kernel
theorem dX10_text_9 : decode cX10_text 9 = .ok (.ireturn, 1) := by decide +kernel
theorem dX10_text_10 : decode cX10_text 10 = .ok (.aload_n 0, 1) := by decide +kernel
theorem dX10_text_11 : decode cX10_text 11 = .ok (.getfield 19, 3) := by decide +kernel
theorem dX10_text_14 : decode cX10_text 14 = .ok (.aload_n 0, 1) := by decide +kernel
theorem dX10_text_15 : decode cX10_text 15 = .ok (.getfield 10, 3) := by decide +kernel
theorem dX10_text_18 : decode cX10_text 18 = .ok (.invokevirtual 89, 3) := by decide +kernel
theorem dX10_text_21 : decode cX10_text 21 = .ok (.astore_n 1, 1) := by decide +kernel
theorem dX10_text_22 : decode cX10_text 22 = .ok (.aload_n 0, 1) := by decide +kernel
theorem dX10_text_23 : decode cX10_text 23 = .ok (.getfield 10, 3) := by decide +kernel
theorem dX10_text_26 : decode cX10_text 26 = .ok (.iconst 0, 1) := by decide +kernel
theorem dX10_text_27 : decode cX10_text 27 = .ok (.putfield 86, 3) := by decide +kernel
theorem dX10_text_30 : decode cX10_text 30 = .ok (.aload_n 1, 1) := by decide +kernel
theorem dX10_text_31 : decode cX10_text 31 = .ok (.ifnonnull 5, 3) := by decide +kernel
theorem dX10_text_34 : decode cX10_text 34 = .ok (.iconst (-1), 1) := by decide +kernel
theorem dX10_text_35 : decode cX10_text 35 = .ok (.ireturn, 1) := by decide +kernel
theorem dX10_text_36 : decode cX10_text 36 = .ok (.aload_n 0, 1) := by decide +kernel
theorem dX10_text_37 : decode cX10_text 37 = .ok (.getfield 25, 3) := by decide +kernel
theorem dX10_text_40 : decode cX10_text 40 = .ok (.aload_n 0, 1) := by decide +kernel
theorem dX10_text_41 : decode cX10_text 41 = .ok (.getfield 71, 3) := by decide +kernel
theorem dX10_text_44 : decode cX10_text 44 = .ok (.aload_n 1, 1) := by decide +kernel
theorem dX10_text_45 : decode cX10_text 45 = .ok (.aastore, 1) := by decide +kernel
theorem dX10_text_46 : decode cX10_text 46 = .ok (.aload_n 0, 1) := by decide +kernel
theorem dX10_text_47 : decode cX10_text 47 = .ok (.dup, 1) := by decide +kernel
theorem dX10_text_48 : decode cX10_text 48 = .ok (.getfield 71, 3) := by decide +kernel
theorem dX10_text_51 : decode cX10_text 51 = .ok (.iconst 1, 1) := by decide +kernel
theorem dX10_text_52 : decode cX10_text 52 = .ok (.iadd, 1) := by decide +kernel
theorem dX10_text_53 : decode cX10_text 53 = .ok (.putfield 71, 3) := by decide +kernel
theorem dX10_text_56 : decode cX10_text 56 = .ok (.aload_n 0, 1) := by decide +kernel
theorem dX10_text_57 : decode cX10_text 57 = .ok (.getfield 71, 3) := by decide +kernel
theorem dX10_text_60 : decode cX10_text 60 = .ok (.iconst 1, 1) := by decide +kernel
theorem dX10_text_61 : decode cX10_text 61 = .ok (.isub, 1) := by decide +kernel
theorem dX10_text_62 : decode cX10_text 62 = .ok (.ireturn, 1) := by decide +kernel
theorem dX10_fault_0 : decode cX10_fault 0 = .ok (.iload_n 1, 1) := by decide +kernel
theorem dX10_fault_1 : decode cX10_fault 1 = .ok (.ifCond .ne 11, 3) := by decide +kernel
theorem dX10_fault_4 : decode cX10_fault 4 = .ok (.aload_n 0, 1) := by decide +kernel
theorem dX10_fault_5 : decode cX10_fault 5 = .ok (.getfield 19, 3) := by decide +kernel
theorem dX10_fault_8 : decode cX10_fault 8 = .ok (.getfield 93, 3) := by decide +kernel
theorem dX10_fault_11 : decode cX10_fault 11 = .ok (.ireturn, 1) := by decide +kernel
theorem dX10_fault_12 : decode cX10_fault 12 = .ok (.iload_n 1, 1) := by decide +kernel
theorem dX10_fault_13 : decode cX10_fault 13 = .ok (.iconst 1, 1) := by decide +kernel
theorem dX10_fault_14 : decode cX10_fault 14 = .ok (.if_icmp .ne 13, 3) := by decide +kernel
theorem dX10_fault_17 : decode cX10_fault 17 = .ok (.aload_n 0, 1) := by decide +kernel
theorem dX10_fault_18 : decode cX10_fault 18 = .ok (.getfield 19, 3) := by decide +kernel
theorem dX10_fault_21 : decode cX10_fault 21 = .ok (.getfield 96, 3) := by decide +kernel
theorem dX10_fault_24 : decode cX10_fault 24 = .ok (.goto 4, 3) := by decide +kernel
theorem dX10_fault_27 : decode cX10_fault 27 = .ok (.iconst (-1), 1) := by decide +kernel
theorem dX10_fault_28 : decode cX10_fault 28 = .ok (.ireturn, 1) := by decide +kernel
theorem dX10_by_0 : decode cX10_by 0 = .ok (.iload_n 1, 1) := by decide +kernel
theorem dX10_by_1 : decode cX10_by 1 = .ok (.iconst (-1), 1) := by decide +kernel
theorem dX10_by_2 : decode cX10_by 2 = .ok (.if_icmp .eq 13, 3) := by decide +kernel
theorem dX10_by_5 : decode cX10_by 5 = .ok (.aload_n 0, 1) := by decide +kernel
theorem dX10_by_6 : decode cX10_by 6 = .ok (.iload_n 1, 1) := by decide +kernel
theorem dX10_by_7 : decode cX10_by 7 = .ok (.invokevirtual 99, 3) := by decide +kernel
theorem dX10_by_10 : decode cX10_by 10 = .ok (.ifnonnull 5, 3) := by decide +kernel
theorem dX10_by_13 : decode cX10_by 13 = .ok (.iconst 0, 1) := by decide +kernel
theorem dX10_by_14 : decode cX10_by 14 = .ok (.ireturn, 1) := by decide +kernel
theorem dX10_by_15 : decode cX10_by 15 = .ok (.aload_n 0, 1) := by decide +kernel
theorem dX10_by_16 : decode cX10_by 16 = .ok (.iload_n 1, 1) := by decide +kernel
theorem dX10_by_17 : decode cX10_by 17 = .ok (.putfield 75, 3) := by decide +kernel
theorem dX10_by_20 : decode cX10_by 20 = .ok (.iconst 1, 1) := by decide +kernel
theorem dX10_by_21 : decode cX10_by 21 = .ok (.ireturn, 1) := by decide +kernel
theorem dX10_length_0 : decode cX10_length 0 = .ok (.iload_n 1, 1) := by decide +kernel
theorem dX10_length_1 : decode cX10_length 1 = .ok (.iconst 1, 1) := by decide +kernel
theorem dX10_length_2 : decode cX10_length 2 = .ok (.if_icmp .lt 32, 3) := by decide +kernel
theorem dX10_length_5 : decode cX10_length 5 = .ok (.iload_n 1, 1) := by decide +kernel
theorem dX10_length_6 : decode cX10_length 6 = .ok (.bipush 16, 2) := by decide +kernel
theorem dX10_length_8 : decode cX10_length 8 = .ok (.if_icmp .gt 26, 3) := by decide +kernel
theorem dX10_length_11 : decode cX10_length 11 = .ok (.iload_n 1, 1) := by decide +kernel
theorem dX10_length_12 : decode cX10_length 12 = .ok (.aload_n 0, 1) := by decide +kernel
theorem dX10_length_13 : decode cX10_length 13 = .ok (.getfield 32, 3) := by decide +kernel
theorem dX10_length_16 : decode cX10_length 16 = .ok (.invokevirtual 103, 3) := by decide +kernel
theorem dX10_length_19 : decode cX10_length 19 = .ok (.if_icmp .eq 15, 3) := by decide +kernel
theorem dX10_length_22 : decode cX10_length 22 = .ok (.aload_n 0, 1) := by decide +kernel
theorem dX10_length_23 : decode cX10_length 23 = .ok (.getfield 32, 3) := by decide +kernel
theorem dX10_length_26 : decode cX10_length 26 = .ok (.invokevirtual 107, 3) := by decide +kernel
theorem dX10_length_29 : decode cX10_length 29 = .ok (.iload_n 1, 1) := by decide +kernel
theorem dX10_length_30 : decode cX10_length 30 = .ok (.iushr, 1) := by decide +kernel
theorem dX10_length_31 : decode cX10_length 31 = .ok (.ifCond .eq 5, 3) := by decide +kernel
theorem dX10_length_34 : decode cX10_length 34 = .ok (.iconst 0, 1) := by decide +kernel
theorem dX10_length_35 : decode cX10_length 35 = .ok (.ireturn, 1) := by decide +kernel
theorem dX10_length_36 : decode cX10_length 36 = .ok (.aload_n 0, 1) := by decide +kernel
theorem dX10_length_37 : decode cX10_length 37 = .ok (.getfield 42, 3) := by decide +kernel
theorem dX10_length_40 : decode cX10_length 40 = .ok (.aload_n 0, 1) := by decide +kernel
theorem dX10_length_41 : decode cX10_length 41 = .ok (.getfield 32, 3) := by decide +kernel
theorem dX10_length_44 : decode cX10_length 44 = .ok (.invokevirtual 110, 3) := by decide +kernel
theorem dX10_length_47 : decode cX10_length 47 = .ok (.aload_n 0, 1) := by decide +kernel
theorem dX10_length_48 : decode cX10_length 48 = .ok (.getfield 32, 3) := by decide +kernel
theorem dX10_length_51 : decode cX10_length 51 = .ok (.iload_n 1, 1) := by decide +kernel
theorem dX10_length_52 : decode cX10_length 52 = .ok (.invokevirtual 114, 3) := by decide +kernel
theorem dX10_length_55 : decode cX10_length 55 = .ok (.iconst 1, 1) := by decide +kernel
theorem dX10_length_56 : decode cX10_length 56 = .ok (.ireturn, 1) := by decide +kernel
theorem dX10_join_0 : decode cX10_join 0 = .ok (.aload_n 0, 1) := by decide +kernel
theorem dX10_join_1 : decode cX10_join 1 = .ok (.iload_n 1, 1) := by decide +kernel
theorem dX10_join_2 : decode cX10_join 2 = .ok (.iload_n 2, 1) := by decide +kernel
theorem dX10_join_3 : decode cX10_join 3 = .ok (.invokevirtual 117, 3) := by decide +kernel
theorem dX10_join_6 : decode cX10_join 6 = .ok (.istore_n 3, 1) := by decide +kernel
theorem dX10_join_7 : decode cX10_join 7 = .ok (.iload_n 3, 1) := by decide +kernel
theorem dX10_join_8 : decode cX10_join 8 = .ok (.iconst (-1), 1) := by decide +kernel
theorem dX10_join_9 : decode cX10_join 9 = .ok (.if_icmp .eq 24, 3) := by decide +kernel
theorem dX10_join_12 : decode cX10_join 12 = .ok (.aload_n 0, 1) := by decide +kernel
theorem dX10_join_13 : decode cX10_join 13 = .ok (.getfield 42, 3) := by decide +kernel
theorem dX10_join_16 : decode cX10_join 16 = .ok (.aload_n 0, 1) := by decide +kernel
theorem dX10_join_17 : decode cX10_join 17 = .ok (.getfield 32, 3) := by decide +kernel
theorem dX10_join_20 : decode cX10_join 20 = .ok (.invokevirtual 110, 3) := by decide +kernel
theorem dX10_join_23 : decode cX10_join 23 = .ok (.aload_n 0, 1) := by decide +kernel
theorem dX10_join_24 : decode cX10_join 24 = .ok (.getfield 32, 3) := by decide +kernel
theorem dX10_join_27 : decode cX10_join 27 = .ok (.iload_n 1, 1) := by decide +kernel
theorem dX10_join_28 : decode cX10_join 28 = .ok (.iload_n 2, 1) := by decide +kernel
theorem dX10_join_29 : decode cX10_join 29 = .ok (.iload_n 3, 1) := by decide +kernel
theorem dX10_join_30 : decode cX10_join 30 = .ok (.invokevirtual 121, 3) := by decide +kernel
theorem dX10_join_33 : decode cX10_join 33 = .ok (.iload_n 3, 1) := by decide +kernel
theorem dX10_join_34 : decode cX10_join 34 = .ok (.ireturn, 1) := by decide +kernel
theorem dX10_leave_0 : decode cX10_leave 0 = .ok (.aload_n 0, 1) := by decide +kernel
theorem dX10_leave_1 : decode cX10_leave 1 = .ok (.getfield 32, 3) := by decide +kernel
theorem dX10_leave_4 : decode cX10_leave 4 = .ok (.iload_n 1, 1) := by decide +kernel
theorem dX10_leave_5 : decode cX10_leave 5 = .ok (.invokevirtual 125, 3) := by decide +kernel
theorem dX10_leave_8 : decode cX10_leave 8 = .ok (.ifCond .ne 5, 3) := by decide +kernel
theorem dX10_leave_11 : decode cX10_leave 11 = .ok (.iconst 0, 1) := by decide +kernel
theorem dX10_leave_12 : decode cX10_leave 12 = .ok (.ireturn, 1) := by decide +kernel
theorem dX10_leave_13 : decode cX10_leave 13 = .ok (.aload_n 0, 1) := by decide +kernel
theorem dX10_leave_14 : decode cX10_leave 14 = .ok (.getfield 42, 3) := by decide +kernel
theorem dX10_leave_17 : decode cX10_leave 17 = .ok (.aload_n 0, 1) := by decide +kernel
theorem dX10_leave_18 : decode cX10_leave 18 = .ok (.getfield 32, 3) := by decide +kernel
theorem dX10_leave_21 : decode cX10_leave 21 = .ok (.invokevirtual 110, 3) := by decide +kernel
theorem dX10_leave_24 : decode cX10_leave 24 = .ok (.aload_n 0, 1) := by decide +kernel
theorem dX10_leave_25 : decode cX10_leave 25 = .ok (.getfield 32, 3) := by decide +kernel
theorem dX10_leave_28 : decode cX10_leave 28 = .ok (.iload_n 1, 1) := by decide +kernel
theorem dX10_leave_29 : decode cX10_leave 29 = .ok (.iconst 1, 1) := by decide +kernel
theorem dX10_leave_30 : decode cX10_leave 30 = .ok (.invokevirtual 128, 3) := by decide +kernel
theorem dX10_leave_33 : decode cX10_leave 33 = .ok (.iconst 1, 1) := by decide +kernel
theorem dX10_leave_34 : decode cX10_leave 34 = .ok (.ireturn, 1) := by decide +kernel
theorem dX10_turn_0 : decode cX10_turn 0 = .ok (.aload_n 0, 1) := by decide +kernel
theorem dX10_turn_1 : decode cX10_turn 1 = .ok (.getfield 32, 3) := by decide +kernel
theorem dX10_turn_4 : decode cX10_turn 4 = .ok (.invokevirtual 132, 3) := by decide +kernel
theorem dX10_turn_7 : decode cX10_turn 7 = .ok (.istore_n 1, 1) := by decide +kernel
theorem dX10_turn_8 : decode cX10_turn 8 = .ok (.iload_n 1, 1) := by decide +kernel
theorem dX10_turn_9 : decode cX10_turn 9 = .ok (.ifCond .ne 5, 3) := by decide +kernel
theorem dX10_turn_12 : decode cX10_turn 12 = .ok (.iconst (-1), 1) := by decide +kernel
theorem dX10_turn_13 : decode cX10_turn 13 = .ok (.ireturn, 1) := by decide +kernel
theorem dX10_turn_14 : decode cX10_turn 14 = .ok (.aload_n 0, 1) := by decide +kernel
theorem dX10_turn_15 : decode cX10_turn 15 = .ok (.getfield 42, 3) := by decide +kernel
theorem dX10_turn_18 : decode cX10_turn 18 = .ok (.aload_n 0, 1) := by decide +kernel
theorem dX10_turn_19 : decode cX10_turn 19 = .ok (.getfield 32, 3) := by decide +kernel
theorem dX10_turn_22 : decode cX10_turn 22 = .ok (.invokevirtual 110, 3) := by decide +kernel
theorem dX10_turn_25 : decode cX10_turn 25 = .ok (.aload_n 0, 1) := by decide +kernel
theorem dX10_turn_26 : decode cX10_turn 26 = .ok (.getfield 32, 3) := by decide +kernel
theorem dX10_turn_29 : decode cX10_turn 29 = .ok (.invokevirtual 135, 3) := by decide +kernel
theorem dX10_turn_32 : decode cX10_turn 32 = .ok (.iload_n 1, 1) := by decide +kernel
theorem dX10_turn_33 : decode cX10_turn 33 = .ok (.ireturn, 1) := by decide +kernel
theorem dX10_shift_0 : decode cX10_shift 0 = .ok (.iload_n 1, 1) := by decide +kernel
theorem dX10_shift_1 : decode cX10_shift 1 = .ok (.ifCond .eq 26, 3) := by decide +kernel
theorem dX10_shift_4 : decode cX10_shift 4 = .ok (.iload_n 1, 1) := by decide +kernel
theorem dX10_shift_5 : decode cX10_shift 5 = .ok (.bipush (-16), 2) := by decide +kernel
theorem dX10_shift_7 : decode cX10_shift 7 = .ok (.if_icmp .le 20, 3) := by decide +kernel
theorem dX10_shift_10 : decode cX10_shift 10 = .ok (.iload_n 1, 1) := by decide +kernel
theorem dX10_shift_11 : decode cX10_shift 11 = .ok (.bipush 16, 2) := by decide +kernel
theorem dX10_shift_13 : decode cX10_shift 13 = .ok (.if_icmp .ge 14, 3) := by decide +kernel
theorem dX10_shift_16 : decode cX10_shift 16 = .ok (.aload_n 0, 1) := by decide +kernel
theorem dX10_shift_17 : decode cX10_shift 17 = .ok (.getfield 32, 3) := by decide +kernel
theorem dX10_shift_20 : decode cX10_shift 20 = .ok (.iload_n 1, 1) := by decide +kernel
theorem dX10_shift_21 : decode cX10_shift 21 = .ok (.invokevirtual 138, 3) := by decide +kernel
theorem dX10_shift_24 : decode cX10_shift 24 = .ok (.ifCond .ne 5, 3) := by decide +kernel
theorem dX10_shift_27 : decode cX10_shift 27 = .ok (.iconst 0, 1) := by decide +kernel
theorem dX10_shift_28 : decode cX10_shift 28 = .ok (.ireturn, 1) := by decide +kernel
theorem dX10_shift_29 : decode cX10_shift 29 = .ok (.aload_n 0, 1) := by decide +kernel
theorem dX10_shift_30 : decode cX10_shift 30 = .ok (.getfield 42, 3) := by decide +kernel
theorem dX10_shift_33 : decode cX10_shift 33 = .ok (.aload_n 0, 1) := by decide +kernel
theorem dX10_shift_34 : decode cX10_shift 34 = .ok (.getfield 32, 3) := by decide +kernel
theorem dX10_shift_37 : decode cX10_shift 37 = .ok (.invokevirtual 110, 3) := by decide +kernel
theorem dX10_shift_40 : decode cX10_shift 40 = .ok (.aload_n 0, 1) := by decide +kernel
theorem dX10_shift_41 : decode cX10_shift 41 = .ok (.getfield 32, 3) := by decide +kernel
theorem dX10_shift_44 : decode cX10_shift 44 = .ok (.iload_n 1, 1) := by decide +kernel
theorem dX10_shift_45 : decode cX10_shift 45 = .ok (.invokevirtual 141, 3) := by decide +kernel
theorem dX10_shift_48 : decode cX10_shift 48 = .ok (.iconst 1, 1) := by decide +kernel
theorem dX10_shift_49 : decode cX10_shift 49 = .ok (.ireturn, 1) := by decide +kernel
theorem dX10_day_0 : decode cX10_day 0 = .ok (.iload_n 1, 1) := by decide +kernel
theorem dX10_day_1 : decode cX10_day 1 = .ok (.iconst 1, 1) := by decide +kernel
theorem dX10_day_2 : decode cX10_day 2 = .ok (.if_icmp .lt 24, 3) := by decide +kernel
theorem dX10_day_5 : decode cX10_day 5 = .ok (.iload_n 1, 1) := by decide +kernel
theorem dX10_day_6 : decode cX10_day 6 = .ok (.bipush 60, 2) := by decide +kernel
theorem dX10_day_8 : decode cX10_day 8 = .ok (.if_icmp .gt 18, 3) := by decide +kernel
theorem dX10_day_11 : decode cX10_day 11 = .ok (.aload_n 0, 1) := by decide +kernel
theorem dX10_day_12 : decode cX10_day 12 = .ok (.getfield 32, 3) := by decide +kernel
theorem dX10_day_15 : decode cX10_day 15 = .ok (.invokevirtual 144, 3) := by decide +kernel
theorem dX10_day_18 : decode cX10_day 18 = .ok (.iload_n 1, 1) := by decide +kernel
theorem dX10_day_19 : decode cX10_day 19 = .ok (.iadd, 1) := by decide +kernel
theorem dX10_day_20 : decode cX10_day 20 = .ok (.sipush 9999, 3) := by decide +kernel
theorem dX10_day_23 : decode cX10_day 23 = .ok (.if_icmp .le 5, 3) := by decide +kernel
theorem dX10_day_26 : decode cX10_day 26 = .ok (.iconst (-1), 1) := by decide +kernel
theorem dX10_day_27 : decode cX10_day 27 = .ok (.ireturn, 1) := by decide +kernel
theorem dX10_day_28 : decode cX10_day 28 = .ok (.aload_n 0, 1) := by decide +kernel
theorem dX10_day_29 : decode cX10_day 29 = .ok (.getfield 32, 3) := by decide +kernel
theorem dX10_day_32 : decode cX10_day 32 = .ok (.invokevirtual 132, 3) := by decide +kernel
theorem dX10_day_35 : decode cX10_day 35 = .ok (.istore_n 2, 1) := by decide +kernel
theorem dX10_day_36 : decode cX10_day 36 = .ok (.aload_n 0, 1) := by decide +kernel
theorem dX10_day_37 : decode cX10_day 37 = .ok (.iload_n 1, 1) := by decide +kernel
theorem dX10_day_38 : decode cX10_day 38 = .ok (.invokevirtual 147, 3) := by decide +kernel
theorem dX10_day_41 : decode cX10_day 41 = .ok (.pop, 1) := by decide +kernel
theorem dX10_day_42 : decode cX10_day 42 = .ok (.iload_n 2, 1) := by decide +kernel
theorem dX10_day_43 : decode cX10_day 43 = .ok (.aload_n 0, 1) := by decide +kernel
theorem dX10_day_44 : decode cX10_day 44 = .ok (.getfield 32, 3) := by decide +kernel
theorem dX10_day_47 : decode cX10_day 47 = .ok (.invokevirtual 132, 3) := by decide +kernel
theorem dX10_day_50 : decode cX10_day 50 = .ok (.isub, 1) := by decide +kernel
theorem dX10_day_51 : decode cX10_day 51 = .ok (.ireturn, 1) := by decide +kernel
theorem dX10_played_0 : decode cX10_played 0 = .ok (.aload_n 0, 1) := by decide +kernel
theorem dX10_played_1 : decode cX10_played 1 = .ok (.iload_n 1, 1) := by decide +kernel
theorem dX10_played_2 : decode cX10_played 2 = .ok (.invokevirtual 99, 3) := by decide +kernel
theorem dX10_played_5 : decode cX10_played 5 = .ok (.astore_n 2, 1) := by decide +kernel
theorem dX10_played_6 : decode cX10_played 6 = .ok (.aload_n 2, 1) := by decide +kernel
theorem dX10_played_7 : decode cX10_played 7 = .ok (.ifnonnull 6, 3) := by decide +kernel
theorem dX10_played_10 : decode cX10_played 10 = .ok (.bipush (-2), 2) := by decide +kernel
theorem dX10_played_12 : decode cX10_played 12 = .ok (.ireturn, 1) := by decide +kernel
theorem dX10_played_13 : decode cX10_played 13 = .ok (.iconst 0, 1) := by decide +kernel
theorem dX10_played_14 : decode cX10_played 14 = .ok (.istore_n 3, 1) := by decide +kernel
theorem dX10_played_15 : decode cX10_played 15 = .ok (.iload_n 3, 1) := by decide +kernel
theorem dX10_played_16 : decode cX10_played 16 = .ok (.aload_n 2, 1) := by decide +kernel
theorem dX10_played_17 : decode cX10_played 17 = .ok (.getfield 150, 3) := by decide +kernel
theorem dX10_played_20 : decode cX10_played 20 = .ok (.if_icmp .ge 36, 3) := by decide +kernel
theorem dX10_played_23 : decode cX10_played 23 = .ok (.aload_n 0, 1) := by decide +kernel
theorem dX10_played_24 : decode cX10_played 24 = .ok (.aload_n 2, 1) := by decide +kernel
theorem dX10_played_25 : decode cX10_played 25 = .ok (.getfield 151, 3) := by decide +kernel
theorem dX10_played_28 : decode cX10_played 28 = .ok (.iload_n 3, 1) := by decide +kernel
theorem dX10_played_29 : decode cX10_played 29 = .ok (.iaload, 1) := by decide +kernel
theorem dX10_played_30 : decode cX10_played 30 = .ok (.aload_n 2, 1) := by decide +kernel
theorem dX10_played_31 : decode cX10_played 31 = .ok (.getfield 154, 3) := by decide +kernel
theorem dX10_played_34 : decode cX10_played 34 = .ok (.iload_n 3, 1) := by decide +kernel
theorem dX10_played_35 : decode cX10_played 35 = .ok (.iaload, 1) := by decide +kernel
theorem dX10_played_36 : decode cX10_played 36 = .ok (.aload_n 2, 1) := by decide +kernel
theorem dX10_played_37 : decode cX10_played 37 = .ok (.getfield 157, 3) := by decide +kernel
theorem dX10_played_40 : decode cX10_played 40 = .ok (.iload_n 3, 1) := by decide +kernel
theorem dX10_played_41 : decode cX10_played 41 = .ok (.iaload, 1) := by decide +kernel
theorem dX10_played_42 : decode cX10_played 42 = .ok (.invokevirtual 160, 3) := by decide +kernel
theorem dX10_played_45 : decode cX10_played 45 = .ok (.ifCond .ne 5, 3) := by decide +kernel
theorem dX10_played_48 : decode cX10_played 48 = .ok (.iload_n 3, 1) := by decide +kernel
theorem dX10_played_49 : decode cX10_played 49 = .ok (.ireturn, 1) := by decide +kernel
theorem dX10_played_50 : decode cX10_played 50 = .ok (.iinc 3 1, 3) := by decide +kernel
theorem dX10_played_53 : decode cX10_played 53 = .ok (.goto (-38), 3) := by decide +kernel
theorem dX10_played_56 : decode cX10_played 56 = .ok (.iconst (-1), 1) := by decide +kernel
theorem dX10_played_57 : decode cX10_played 57 = .ok (.ireturn, 1) := by decide +kernel
theorem dX10_years_0 : decode cX10_years 0 = .ok (.iload_n 1, 1) := by decide +kernel
theorem dX10_years_1 : decode cX10_years 1 = .ok (.ifCond .lt 21, 3) := by decide +kernel
theorem dX10_years_4 : decode cX10_years 4 = .ok (.iload_n 1, 1) := by decide +kernel
theorem dX10_years_5 : decode cX10_years 5 = .ok (.sipush 9999, 3) := by decide +kernel
theorem dX10_years_8 : decode cX10_years 8 = .ok (.if_icmp .gt 14, 3) := by decide +kernel
theorem dX10_years_11 : decode cX10_years 11 = .ok (.iload_n 2, 1) := by decide +kernel
theorem dX10_years_12 : decode cX10_years 12 = .ok (.iconst 1, 1) := by decide +kernel
theorem dX10_years_13 : decode cX10_years 13 = .ok (.if_icmp .lt 9, 3) := by decide +kernel
theorem dX10_years_16 : decode cX10_years 16 = .ok (.iload_n 2, 1) := by decide +kernel
theorem dX10_years_17 : decode cX10_years 17 = .ok (.bipush 40, 2) := by decide +kernel
theorem dX10_years_19 : decode cX10_years 19 = .ok (.if_icmp .le 5, 3) := by decide +kernel
theorem dX10_years_22 : decode cX10_years 22 = .ok (.iconst (-1), 1) := by decide +kernel
theorem dX10_years_23 : decode cX10_years 23 = .ok (.ireturn, 1) := by decide +kernel
theorem dX10_years_24 : decode cX10_years 24 = .ok (.aload_n 0, 1) := by decide +kernel
theorem dX10_years_25 : decode cX10_years 25 = .ok (.getfield 42, 3) := by decide +kernel
theorem dX10_years_28 : decode cX10_years 28 = .ok (.aload_n 0, 1) := by decide +kernel
theorem dX10_years_29 : decode cX10_years 29 = .ok (.getfield 32, 3) := by decide +kernel
theorem dX10_years_32 : decode cX10_years 32 = .ok (.invokevirtual 110, 3) := by decide +kernel
theorem dX10_years_35 : decode cX10_years 35 = .ok (.aload_n 0, 1) := by decide +kernel
theorem dX10_years_36 : decode cX10_years 36 = .ok (.getfield 32, 3) := by decide +kernel
theorem dX10_years_39 : decode cX10_years 39 = .ok (.iload_n 1, 1) := by decide +kernel
theorem dX10_years_40 : decode cX10_years 40 = .ok (.iconst 2, 1) := by decide +kernel
theorem dX10_years_41 : decode cX10_years 41 = .ok (.imul, 1) := by decide +kernel
theorem dX10_years_42 : decode cX10_years 42 = .ok (.sipush 443, 3) := by decide +kernel
theorem dX10_years_45 : decode cX10_years 45 = .ok (.iadd, 1) := by decide +kernel
theorem dX10_years_46 : decode cX10_years 46 = .ok (.invokevirtual 164, 3) := by decide +kernel
theorem dX10_years_49 : decode cX10_years 49 = .ok (.iconst 0, 1) := by decide +kernel
theorem dX10_years_50 : decode cX10_years 50 = .ok (.istore_n 3, 1) := by decide +kernel
theorem dX10_years_51 : decode cX10_years 51 = .ok (.iload_n 3, 1) := by decide +kernel
theorem dX10_years_52 : decode cX10_years 52 = .ok (.iload_n 2, 1) := by decide +kernel
theorem dX10_years_53 : decode cX10_years 53 = .ok (.if_icmp .ge 20, 3) := by decide +kernel
theorem dX10_years_56 : decode cX10_years 56 = .ok (.aload_n 0, 1) := by decide +kernel
theorem dX10_years_57 : decode cX10_years 57 = .ok (.aload_n 0, 1) := by decide +kernel
theorem dX10_years_58 : decode cX10_years 58 = .ok (.getfield 32, 3) := by decide +kernel
theorem dX10_years_61 : decode cX10_years 61 = .ok (.invokevirtual 167, 3) := by decide +kernel
theorem dX10_years_64 : decode cX10_years 64 = .ok (.invokevirtual 170, 3) := by decide +kernel
theorem dX10_years_67 : decode cX10_years 67 = .ok (.iinc 3 1, 3) := by decide +kernel
theorem dX10_years_70 : decode cX10_years 70 = .ok (.goto (-19), 3) := by decide +kernel
theorem dX10_years_73 : decode cX10_years 73 = .ok (.aload_n 0, 1) := by decide +kernel
theorem dX10_years_74 : decode cX10_years 74 = .ok (.getfield 32, 3) := by decide +kernel
theorem dX10_years_77 : decode cX10_years 77 = .ok (.invokevirtual 144, 3) := by decide +kernel
theorem dX10_years_80 : decode cX10_years 80 = .ok (.ireturn, 1) := by decide +kernel
theorem dX10_undo_0 : decode cX10_undo 0 = .ok (.aload_n 0, 1) := by decide +kernel
theorem dX10_undo_1 : decode cX10_undo 1 = .ok (.getfield 42, 3) := by decide +kernel
theorem dX10_undo_4 : decode cX10_undo 4 = .ok (.aload_n 0, 1) := by decide +kernel
theorem dX10_undo_5 : decode cX10_undo 5 = .ok (.getfield 32, 3) := by decide +kernel
theorem dX10_undo_8 : decode cX10_undo 8 = .ok (.invokevirtual 173, 3) := by decide +kernel
theorem dX10_undo_11 : decode cX10_undo 11 = .ok (.ifCond .eq 13, 3) := by decide +kernel
theorem dX10_undo_14 : decode cX10_undo 14 = .ok (.aload_n 0, 1) := by decide +kernel
theorem dX10_undo_15 : decode cX10_undo 15 = .ok (.getfield 42, 3) := by decide +kernel
theorem dX10_undo_18 : decode cX10_undo 18 = .ok (.getfield 177, 3) := by decide +kernel
theorem dX10_undo_21 : decode cX10_undo 21 = .ok (.goto 4, 3) := by decide +kernel
theorem dX10_undo_24 : decode cX10_undo 24 = .ok (.iconst (-1), 1) := by decide +kernel
theorem dX10_undo_25 : decode cX10_undo 25 = .ok (.ireturn, 1) := by decide +kernel
theorem dX10_of_0 : decode cX10_of 0 = .ok (.iload_n 1, 1) := by decide +kernel
theorem dX10_of_1 : decode cX10_of 1 = .ok (.invokestatic 180, 3) := by decide +kernel
theorem dX10_of_4 : decode cX10_of 4 = .ok (.ifCond .ne 6, 3) := by decide +kernel
theorem dX10_of_7 : decode cX10_of 7 = .ok (.bipush (-2), 2) := by decide +kernel
theorem dX10_of_9 : decode cX10_of 9 = .ok (.ireturn, 1) := by decide +kernel
theorem dX10_of_10 : decode cX10_of 10 = .ok (.iload_n 2, 1) := by decide +kernel
theorem dX10_of_11 : decode cX10_of 11 = .ok (.tableswitch 80 0 4 #[33, 42, 51, 60, 74], 33) := by decide +kernel
theorem dX10_of_44 : decode cX10_of 44 = .ok (.aload_n 0, 1) := by decide +kernel
theorem dX10_of_45 : decode cX10_of 45 = .ok (.getfield 32, 3) := by decide +kernel
theorem dX10_of_48 : decode cX10_of 48 = .ok (.iload_n 1, 1) := by decide +kernel
theorem dX10_of_49 : decode cX10_of 49 = .ok (.invokevirtual 183, 3) := by decide +kernel
theorem dX10_of_52 : decode cX10_of 52 = .ok (.ireturn, 1) := by decide +kernel
theorem dX10_of_53 : decode cX10_of 53 = .ok (.aload_n 0, 1) := by decide +kernel
theorem dX10_of_54 : decode cX10_of 54 = .ok (.getfield 32, 3) := by decide +kernel
theorem dX10_of_57 : decode cX10_of 57 = .ok (.iload_n 1, 1) := by decide +kernel
theorem dX10_of_58 : decode cX10_of 58 = .ok (.invokevirtual 187, 3) := by decide +kernel
theorem dX10_of_61 : decode cX10_of 61 = .ok (.ireturn, 1) := by decide +kernel
theorem dX10_of_62 : decode cX10_of 62 = .ok (.aload_n 0, 1) := by decide +kernel
theorem dX10_of_63 : decode cX10_of 63 = .ok (.getfield 32, 3) := by decide +kernel
theorem dX10_of_66 : decode cX10_of 66 = .ok (.iload_n 1, 1) := by decide +kernel
theorem dX10_of_67 : decode cX10_of 67 = .ok (.invokevirtual 190, 3) := by decide +kernel
theorem dX10_of_70 : decode cX10_of 70 = .ok (.ireturn, 1) := by decide +kernel
theorem dX10_of_71 : decode cX10_of 71 = .ok (.aload_n 0, 1) := by decide +kernel
theorem dX10_of_72 : decode cX10_of 72 = .ok (.aload_n 0, 1) := by decide +kernel
theorem dX10_of_73 : decode cX10_of 73 = .ok (.aload_n 0, 1) := by decide +kernel
theorem dX10_of_74 : decode cX10_of 74 = .ok (.getfield 75, 3) := by decide +kernel
theorem dX10_of_77 : decode cX10_of 77 = .ok (.invokevirtual 99, 3) := by decide +kernel
theorem dX10_of_80 : decode cX10_of 80 = .ok (.iload_n 1, 1) := by decide +kernel
theorem dX10_of_81 : decode cX10_of 81 = .ok (.invokevirtual 193, 3) := by decide +kernel
theorem dX10_of_84 : decode cX10_of 84 = .ok (.ireturn, 1) := by decide +kernel
theorem dX10_of_85 : decode cX10_of 85 = .ok (.aload_n 0, 1) := by decide +kernel
theorem dX10_of_86 : decode cX10_of 86 = .ok (.iload_n 1, 1) := by decide +kernel
theorem dX10_of_87 : decode cX10_of 87 = .ok (.invokevirtual 197, 3) := by decide +kernel
theorem dX10_of_90 : decode cX10_of 90 = .ok (.ireturn, 1) := by decide +kernel
theorem dX10_of_91 : decode cX10_of 91 = .ok (.bipush (-2), 2) := by decide +kernel
theorem dX10_of_93 : decode cX10_of 93 = .ok (.ireturn, 1) := by decide +kernel
theorem dX10_at_0 : decode cX10_at 0 = .ok (.iload_n 1, 1) := by decide +kernel
theorem dX10_at_1 : decode cX10_at 1 = .ok (.ifCond .lt 14, 3) := by decide +kernel
theorem dX10_at_4 : decode cX10_at 4 = .ok (.iload_n 1, 1) := by decide +kernel
theorem dX10_at_5 : decode cX10_at 5 = .ok (.aload_n 0, 1) := by decide +kernel
theorem dX10_at_6 : decode cX10_at 6 = .ok (.getfield 32, 3) := by decide +kernel
theorem dX10_at_9 : decode cX10_at 9 = .ok (.invokevirtual 103, 3) := by decide +kernel
theorem dX10_at_12 : decode cX10_at 12 = .ok (.if_icmp .lt 7, 3) := by decide +kernel
theorem dX10_at_15 : decode cX10_at 15 = .ok (.iconst (-1), 1) := by decide +kernel
theorem dX10_at_16 : decode cX10_at 16 = .ok (.goto 11, 3) := by decide +kernel
theorem dX10_at_19 : decode cX10_at 19 = .ok (.aload_n 0, 1) := by decide +kernel
theorem dX10_at_20 : decode cX10_at 20 = .ok (.getfield 32, 3) := by decide +kernel
theorem dX10_at_23 : decode cX10_at 23 = .ok (.iload_n 1, 1) := by decide +kernel
theorem dX10_at_24 : decode cX10_at 24 = .ok (.invokevirtual 200, 3) := by decide +kernel
theorem dX10_at_27 : decode cX10_at 27 = .ok (.ireturn, 1) := by decide +kernel
theorem dX10_is_0 : decode cX10_is 0 = .ok (.iload_n 1, 1) := by decide +kernel
theorem dX10_is_1 : decode cX10_is 1 = .ok (.tableswitch 75 0 4 #[35, 43, 51, 59, 67], 35) := by decide +kernel
theorem dX10_is_36 : decode cX10_is 36 = .ok (.aload_n 0, 1) := by decide +kernel
theorem dX10_is_37 : decode cX10_is 37 = .ok (.getfield 32, 3) := by decide +kernel
theorem dX10_is_40 : decode cX10_is 40 = .ok (.invokevirtual 144, 3) := by decide +kernel
theorem dX10_is_43 : decode cX10_is 43 = .ok (.ireturn, 1) := by decide +kernel
theorem dX10_is_44 : decode cX10_is 44 = .ok (.aload_n 0, 1) := by decide +kernel
theorem dX10_is_45 : decode cX10_is 45 = .ok (.getfield 32, 3) := by decide +kernel
theorem dX10_is_48 : decode cX10_is 48 = .ok (.invokevirtual 203, 3) := by decide +kernel
theorem dX10_is_51 : decode cX10_is 51 = .ok (.ireturn, 1) := by decide +kernel
theorem dX10_is_52 : decode cX10_is 52 = .ok (.aload_n 0, 1) := by decide +kernel
theorem dX10_is_53 : decode cX10_is 53 = .ok (.getfield 32, 3) := by decide +kernel
theorem dX10_is_56 : decode cX10_is 56 = .ok (.invokevirtual 103, 3) := by decide +kernel
theorem dX10_is_59 : decode cX10_is 59 = .ok (.ireturn, 1) := by decide +kernel
theorem dX10_is_60 : decode cX10_is 60 = .ok (.aload_n 0, 1) := by decide +kernel
theorem dX10_is_61 : decode cX10_is 61 = .ok (.getfield 32, 3) := by decide +kernel
theorem dX10_is_64 : decode cX10_is 64 = .ok (.invokevirtual 206, 3) := by decide +kernel
theorem dX10_is_67 : decode cX10_is 67 = .ok (.ireturn, 1) := by decide +kernel
theorem dX10_is_68 : decode cX10_is 68 = .ok (.aload_n 0, 1) := by decide +kernel
theorem dX10_is_69 : decode cX10_is 69 = .ok (.getfield 32, 3) := by decide +kernel
theorem dX10_is_72 : decode cX10_is 72 = .ok (.invokevirtual 209, 3) := by decide +kernel
theorem dX10_is_75 : decode cX10_is 75 = .ok (.ireturn, 1) := by decide +kernel
theorem dX10_is_76 : decode cX10_is 76 = .ok (.bipush (-2), 2) := by decide +kernel
theorem dX10_is_78 : decode cX10_is 78 = .ok (.ireturn, 1) := by decide +kernel
theorem dX10_book_0 : decode cX10_book 0 = .ok (.iload_n 1, 1) := by decide +kernel
theorem dX10_book_1 : decode cX10_book 1 = .ok (.iconst (-1), 1) := by decide +kernel
theorem dX10_book_2 : decode cX10_book 2 = .ok (.if_icmp .ne 11, 3) := by decide +kernel
theorem dX10_book_5 : decode cX10_book 5 = .ok (.aload_n 0, 1) := by decide +kernel
theorem dX10_book_6 : decode cX10_book 6 = .ok (.getfield 32, 3) := by decide +kernel
theorem dX10_book_9 : decode cX10_book 9 = .ok (.invokevirtual 212, 3) := by decide +kernel
theorem dX10_book_12 : decode cX10_book 12 = .ok (.ireturn, 1) := by decide +kernel
theorem dX10_book_13 : decode cX10_book 13 = .ok (.iload_n 1, 1) := by decide +kernel
theorem dX10_book_14 : decode cX10_book 14 = .ok (.ifCond .lt 14, 3) := by decide +kernel
theorem dX10_book_17 : decode cX10_book 17 = .ok (.iload_n 1, 1) := by decide +kernel
theorem dX10_book_18 : decode cX10_book 18 = .ok (.aload_n 0, 1) := by decide +kernel
theorem dX10_book_19 : decode cX10_book 19 = .ok (.getfield 32, 3) := by decide +kernel
theorem dX10_book_22 : decode cX10_book 22 = .ok (.invokevirtual 212, 3) := by decide +kernel
theorem dX10_book_25 : decode cX10_book 25 = .ok (.if_icmp .lt 6, 3) := by decide +kernel
theorem dX10_book_28 : decode cX10_book 28 = .ok (.bipush (-2), 2) := by decide +kernel
theorem dX10_book_30 : decode cX10_book 30 = .ok (.ireturn, 1) := by decide +kernel
theorem dX10_book_31 : decode cX10_book 31 = .ok (.aload_n 0, 1) := by decide +kernel
theorem dX10_book_32 : decode cX10_book 32 = .ok (.getfield 32, 3) := by decide +kernel
theorem dX10_book_35 : decode cX10_book 35 = .ok (.iload_n 1, 1) := by decide +kernel
theorem dX10_book_36 : decode cX10_book 36 = .ok (.invokevirtual 215, 3) := by decide +kernel
theorem dX10_book_39 : decode cX10_book 39 = .ok (.istore_n 3, 1) := by decide +kernel
theorem dX10_book_40 : decode cX10_book 40 = .ok (.iload_n 2, 1) := by decide +kernel
theorem dX10_book_41 : decode cX10_book 41 = .ok (.tableswitch 51 0 3 #[31, 36, 41, 46], 31) := by decide +kernel
theorem dX10_book_72 : decode cX10_book 72 = .ok (.iload_n 3, 1) := by decide +kernel
theorem dX10_book_73 : decode cX10_book 73 = .ok (.invokestatic 218, 3) := by decide +kernel
theorem dX10_book_76 : decode cX10_book 76 = .ok (.ireturn, 1) := by decide +kernel
theorem dX10_book_77 : decode cX10_book 77 = .ok (.iload_n 3, 1) := by decide +kernel
theorem dX10_book_78 : decode cX10_book 78 = .ok (.invokestatic 221, 3) := by decide +kernel
theorem dX10_book_81 : decode cX10_book 81 = .ok (.ireturn, 1) := by decide +kernel
theorem dX10_book_82 : decode cX10_book 82 = .ok (.iload_n 3, 1) := by decide +kernel
theorem dX10_book_83 : decode cX10_book 83 = .ok (.invokestatic 224, 3) := by decide +kernel
theorem dX10_book_86 : decode cX10_book 86 = .ok (.ireturn, 1) := by decide +kernel
theorem dX10_book_87 : decode cX10_book 87 = .ok (.iload_n 3, 1) := by decide +kernel
theorem dX10_book_88 : decode cX10_book 88 = .ok (.invokestatic 227, 3) := by decide +kernel
theorem dX10_book_91 : decode cX10_book 91 = .ok (.ireturn, 1) := by decide +kernel
theorem dX10_book_92 : decode cX10_book 92 = .ok (.bipush (-2), 2) := by decide +kernel
theorem dX10_book_94 : decode cX10_book 94 = .ok (.ireturn, 1) := by decide +kernel
theorem dX10_eldest_0 : decode cX10_eldest 0 = .ok (.iconst (-1), 1) := by decide +kernel
theorem dX10_eldest_1 : decode cX10_eldest 1 = .ok (.istore_n 1, 1) := by decide +kernel
theorem dX10_eldest_2 : decode cX10_eldest 2 = .ok (.iconst 1, 1) := by decide +kernel
theorem dX10_eldest_3 : decode cX10_eldest 3 = .ok (.istore_n 2, 1) := by decide +kernel
theorem dX10_eldest_4 : decode cX10_eldest 4 = .ok (.iload_n 2, 1) := by decide +kernel
theorem dX10_eldest_5 : decode cX10_eldest 5 = .ok (.bipush 8, 2) := by decide +kernel
theorem dX10_eldest_7 : decode cX10_eldest 7 = .ok (.if_icmp .gt 46, 3) := by decide +kernel
theorem dX10_eldest_10 : decode cX10_eldest 10 = .ok (.aload_n 0, 1) := by decide +kernel
theorem dX10_eldest_11 : decode cX10_eldest 11 = .ok (.getfield 32, 3) := by decide +kernel
theorem dX10_eldest_14 : decode cX10_eldest 14 = .ok (.iload_n 2, 1) := by decide +kernel
theorem dX10_eldest_15 : decode cX10_eldest 15 = .ok (.invokevirtual 125, 3) := by decide +kernel
theorem dX10_eldest_18 : decode cX10_eldest 18 = .ok (.ifCond .eq 29, 3) := by decide +kernel
theorem dX10_eldest_21 : decode cX10_eldest 21 = .ok (.iload_n 1, 1) := by decide +kernel
theorem dX10_eldest_22 : decode cX10_eldest 22 = .ok (.iconst (-1), 1) := by decide +kernel
theorem dX10_eldest_23 : decode cX10_eldest 23 = .ok (.if_icmp .eq 22, 3) := by decide +kernel
theorem dX10_eldest_26 : decode cX10_eldest 26 = .ok (.aload_n 0, 1) := by decide +kernel
theorem dX10_eldest_27 : decode cX10_eldest 27 = .ok (.getfield 32, 3) := by decide +kernel
theorem dX10_eldest_30 : decode cX10_eldest 30 = .ok (.iload_n 2, 1) := by decide +kernel
theorem dX10_eldest_31 : decode cX10_eldest 31 = .ok (.invokevirtual 190, 3) := by decide +kernel
theorem dX10_eldest_34 : decode cX10_eldest 34 = .ok (.aload_n 0, 1) := by decide +kernel
theorem dX10_eldest_35 : decode cX10_eldest 35 = .ok (.getfield 32, 3) := by decide +kernel
theorem dX10_eldest_38 : decode cX10_eldest 38 = .ok (.iload_n 1, 1) := by decide +kernel
theorem dX10_eldest_39 : decode cX10_eldest 39 = .ok (.invokevirtual 190, 3) := by decide +kernel
theorem dX10_eldest_42 : decode cX10_eldest 42 = .ok (.if_icmp .le 5, 3) := by decide +kernel
theorem dX10_eldest_45 : decode cX10_eldest 45 = .ok (.iload_n 2, 1) := by decide +kernel
theorem dX10_eldest_46 : decode cX10_eldest 46 = .ok (.istore_n 1, 1) := by decide +kernel
theorem dX10_eldest_47 : decode cX10_eldest 47 = .ok (.iinc 2 1, 3) := by decide +kernel
theorem dX10_eldest_50 : decode cX10_eldest 50 = .ok (.goto (-46), 3) := by decide +kernel
theorem dX10_eldest_53 : decode cX10_eldest 53 = .ok (.iload_n 1, 1) := by decide +kernel
theorem dX10_eldest_54 : decode cX10_eldest 54 = .ok (.ireturn, 1) := by decide +kernel
theorem dX10_widest_0 : decode cX10_widest 0 = .ok (.iconst (-1), 1) := by decide +kernel
theorem dX10_widest_1 : decode cX10_widest 1 = .ok (.istore_n 1, 1) := by decide +kernel
theorem dX10_widest_2 : decode cX10_widest 2 = .ok (.iconst 1, 1) := by decide +kernel
theorem dX10_widest_3 : decode cX10_widest 3 = .ok (.istore_n 2, 1) := by decide +kernel
theorem dX10_widest_4 : decode cX10_widest 4 = .ok (.iload_n 2, 1) := by decide +kernel
theorem dX10_widest_5 : decode cX10_widest 5 = .ok (.bipush 8, 2) := by decide +kernel
theorem dX10_widest_7 : decode cX10_widest 7 = .ok (.if_icmp .gt 46, 3) := by decide +kernel
theorem dX10_widest_10 : decode cX10_widest 10 = .ok (.aload_n 0, 1) := by decide +kernel
theorem dX10_widest_11 : decode cX10_widest 11 = .ok (.getfield 32, 3) := by decide +kernel
theorem dX10_widest_14 : decode cX10_widest 14 = .ok (.iload_n 2, 1) := by decide +kernel
theorem dX10_widest_15 : decode cX10_widest 15 = .ok (.invokevirtual 125, 3) := by decide +kernel
theorem dX10_widest_18 : decode cX10_widest 18 = .ok (.ifCond .eq 29, 3) := by decide +kernel
theorem dX10_widest_21 : decode cX10_widest 21 = .ok (.iload_n 1, 1) := by decide +kernel
theorem dX10_widest_22 : decode cX10_widest 22 = .ok (.iconst (-1), 1) := by decide +kernel
theorem dX10_widest_23 : decode cX10_widest 23 = .ok (.if_icmp .eq 22, 3) := by decide +kernel
theorem dX10_widest_26 : decode cX10_widest 26 = .ok (.aload_n 0, 1) := by decide +kernel
theorem dX10_widest_27 : decode cX10_widest 27 = .ok (.getfield 32, 3) := by decide +kernel
theorem dX10_widest_30 : decode cX10_widest 30 = .ok (.iload_n 2, 1) := by decide +kernel
theorem dX10_widest_31 : decode cX10_widest 31 = .ok (.invokevirtual 230, 3) := by decide +kernel
theorem dX10_widest_34 : decode cX10_widest 34 = .ok (.aload_n 0, 1) := by decide +kernel
theorem dX10_widest_35 : decode cX10_widest 35 = .ok (.getfield 32, 3) := by decide +kernel
theorem dX10_widest_38 : decode cX10_widest 38 = .ok (.iload_n 1, 1) := by decide +kernel
theorem dX10_widest_39 : decode cX10_widest 39 = .ok (.invokevirtual 230, 3) := by decide +kernel
theorem dX10_widest_42 : decode cX10_widest 42 = .ok (.if_icmp .le 5, 3) := by decide +kernel
theorem dX10_widest_45 : decode cX10_widest 45 = .ok (.iload_n 2, 1) := by decide +kernel
theorem dX10_widest_46 : decode cX10_widest 46 = .ok (.istore_n 1, 1) := by decide +kernel
theorem dX10_widest_47 : decode cX10_widest 47 = .ok (.iinc 2 1, 3) := by decide +kernel
theorem dX10_widest_50 : decode cX10_widest 50 = .ok (.goto (-46), 3) := by decide +kernel
theorem dX10_widest_53 : decode cX10_widest 53 = .ok (.iload_n 1, 1) := by decide +kernel
theorem dX10_widest_54 : decode cX10_widest 54 = .ok (.ireturn, 1) := by decide +kernel
theorem dX10_mirror_0 : decode cX10_mirror 0 = .ok (.iconst 1, 1) := by decide +kernel
theorem dX10_mirror_1 : decode cX10_mirror 1 = .ok (.istore_n 1, 1) := by decide +kernel
theorem dX10_mirror_2 : decode cX10_mirror 2 = .ok (.iload_n 1, 1) := by decide +kernel
theorem dX10_mirror_3 : decode cX10_mirror 3 = .ok (.bipush 8, 2) := by decide +kernel
theorem dX10_mirror_5 : decode cX10_mirror 5 = .ok (.if_icmp .gt 51, 3) := by decide +kernel
theorem dX10_mirror_8 : decode cX10_mirror 8 = .ok (.aload_n 0, 1) := by decide +kernel
theorem dX10_mirror_9 : decode cX10_mirror 9 = .ok (.getfield 32, 3) := by decide +kernel
theorem dX10_mirror_12 : decode cX10_mirror 12 = .ok (.iload_n 1, 1) := by decide +kernel
theorem dX10_mirror_13 : decode cX10_mirror 13 = .ok (.invokevirtual 125, 3) := by decide +kernel
theorem dX10_mirror_16 : decode cX10_mirror 16 = .ok (.ifCond .eq 34, 3) := by decide +kernel
theorem dX10_mirror_19 : decode cX10_mirror 19 = .ok (.aload_n 0, 1) := by decide +kernel
theorem dX10_mirror_20 : decode cX10_mirror 20 = .ok (.getfield 32, 3) := by decide +kernel
theorem dX10_mirror_23 : decode cX10_mirror 23 = .ok (.iload_n 1, 1) := by decide +kernel
theorem dX10_mirror_24 : decode cX10_mirror 24 = .ok (.invokevirtual 183, 3) := by decide +kernel
theorem dX10_mirror_27 : decode cX10_mirror 27 = .ok (.aload_n 0, 1) := by decide +kernel
theorem dX10_mirror_28 : decode cX10_mirror 28 = .ok (.getfield 32, 3) := by decide +kernel
theorem dX10_mirror_31 : decode cX10_mirror 31 = .ok (.iload_n 1, 1) := by decide +kernel
theorem dX10_mirror_32 : decode cX10_mirror 32 = .ok (.invokevirtual 187, 3) := by decide +kernel
theorem dX10_mirror_35 : decode cX10_mirror 35 = .ok (.iadd, 1) := by decide +kernel
theorem dX10_mirror_36 : decode cX10_mirror 36 = .ok (.aload_n 0, 1) := by decide +kernel
theorem dX10_mirror_37 : decode cX10_mirror 37 = .ok (.getfield 32, 3) := by decide +kernel
theorem dX10_mirror_40 : decode cX10_mirror 40 = .ok (.invokevirtual 103, 3) := by decide +kernel
theorem dX10_mirror_43 : decode cX10_mirror 43 = .ok (.iconst 1, 1) := by decide +kernel
theorem dX10_mirror_44 : decode cX10_mirror 44 = .ok (.isub, 1) := by decide +kernel
theorem dX10_mirror_45 : decode cX10_mirror 45 = .ok (.if_icmp .eq 5, 3) := by decide +kernel
theorem dX10_mirror_48 : decode cX10_mirror 48 = .ok (.iconst 0, 1) := by decide +kernel
theorem dX10_mirror_49 : decode cX10_mirror 49 = .ok (.ireturn, 1) := by decide +kernel
theorem dX10_mirror_50 : decode cX10_mirror 50 = .ok (.iinc 1 1, 3) := by decide +kernel
theorem dX10_mirror_53 : decode cX10_mirror 53 = .ok (.goto (-51), 3) := by decide +kernel
theorem dX10_mirror_56 : decode cX10_mirror 56 = .ok (.iconst 1, 1) := by decide +kernel
theorem dX10_mirror_57 : decode cX10_mirror 57 = .ok (.ireturn, 1) := by decide +kernel
theorem dX10_crossed_0 : decode cX10_crossed 0 = .ok (.iconst 0, 1) := by decide +kernel
theorem dX10_crossed_1 : decode cX10_crossed 1 = .ok (.istore_n 1, 1) := by decide +kernel
theorem dX10_crossed_2 : decode cX10_crossed 2 = .ok (.iconst 1, 1) := by decide +kernel
theorem dX10_crossed_3 : decode cX10_crossed 3 = .ok (.istore_n 2, 1) := by decide +kernel
theorem dX10_crossed_4 : decode cX10_crossed 4 = .ok (.iload_n 2, 1) := by decide +kernel
theorem dX10_crossed_5 : decode cX10_crossed 5 = .ok (.bipush 8, 2) := by decide +kernel
theorem dX10_crossed_7 : decode cX10_crossed 7 = .ok (.if_icmp .gt 41, 3) := by decide +kernel
theorem dX10_crossed_10 : decode cX10_crossed 10 = .ok (.iload_n 2, 1) := by decide +kernel
theorem dX10_crossed_11 : decode cX10_crossed 11 = .ok (.iconst 1, 1) := by decide +kernel
theorem dX10_crossed_12 : decode cX10_crossed 12 = .ok (.iadd, 1) := by decide +kernel
theorem dX10_crossed_13 : decode cX10_crossed 13 = .ok (.istore_n 3, 1) := by decide +kernel
theorem dX10_crossed_14 : decode cX10_crossed 14 = .ok (.iload_n 3, 1) := by decide +kernel
theorem dX10_crossed_15 : decode cX10_crossed 15 = .ok (.bipush 8, 2) := by decide +kernel
theorem dX10_crossed_17 : decode cX10_crossed 17 = .ok (.if_icmp .gt 25, 3) := by decide +kernel
theorem dX10_crossed_20 : decode cX10_crossed 20 = .ok (.aload_n 0, 1) := by decide +kernel
theorem dX10_crossed_21 : decode cX10_crossed 21 = .ok (.getfield 32, 3) := by decide +kernel
theorem dX10_crossed_24 : decode cX10_crossed 24 = .ok (.iload_n 2, 1) := by decide +kernel
theorem dX10_crossed_25 : decode cX10_crossed 25 = .ok (.iload_n 3, 1) := by decide +kernel
theorem dX10_crossed_26 : decode cX10_crossed 26 = .ok (.invokevirtual 233, 3) := by decide +kernel
theorem dX10_crossed_29 : decode cX10_crossed 29 = .ok (.iconst 1, 1) := by decide +kernel
theorem dX10_crossed_30 : decode cX10_crossed 30 = .ok (.if_icmp .ne 6, 3) := by decide +kernel
theorem dX10_crossed_33 : decode cX10_crossed 33 = .ok (.iinc 1 1, 3) := by decide +kernel
theorem dX10_crossed_36 : decode cX10_crossed 36 = .ok (.iinc 3 1, 3) := by decide +kernel
theorem dX10_crossed_39 : decode cX10_crossed 39 = .ok (.goto (-25), 3) := by decide +kernel
theorem dX10_crossed_42 : decode cX10_crossed 42 = .ok (.iinc 2 1, 3) := by decide +kernel
theorem dX10_crossed_45 : decode cX10_crossed 45 = .ok (.goto (-41), 3) := by decide +kernel
theorem dX10_crossed_48 : decode cX10_crossed 48 = .ok (.iload_n 1, 1) := by decide +kernel
theorem dX10_crossed_49 : decode cX10_crossed 49 = .ok (.ireturn, 1) := by decide +kernel
theorem dX10_nested_0 : decode cX10_nested 0 = .ok (.iconst 0, 1) := by decide +kernel
theorem dX10_nested_1 : decode cX10_nested 1 = .ok (.istore_n 1, 1) := by decide +kernel
theorem dX10_nested_2 : decode cX10_nested 2 = .ok (.iconst 1, 1) := by decide +kernel
theorem dX10_nested_3 : decode cX10_nested 3 = .ok (.istore_n 2, 1) := by decide +kernel
theorem dX10_nested_4 : decode cX10_nested 4 = .ok (.iload_n 2, 1) := by decide +kernel
theorem dX10_nested_5 : decode cX10_nested 5 = .ok (.bipush 8, 2) := by decide +kernel
theorem dX10_nested_7 : decode cX10_nested 7 = .ok (.if_icmp .gt 54, 3) := by decide +kernel
theorem dX10_nested_10 : decode cX10_nested 10 = .ok (.iload_n 2, 1) := by decide +kernel
theorem dX10_nested_11 : decode cX10_nested 11 = .ok (.iconst 1, 1) := by decide +kernel
theorem dX10_nested_12 : decode cX10_nested 12 = .ok (.iadd, 1) := by decide +kernel
theorem dX10_nested_13 : decode cX10_nested 13 = .ok (.istore_n 3, 1) := by decide +kernel
theorem dX10_nested_14 : decode cX10_nested 14 = .ok (.iload_n 3, 1) := by decide +kernel
theorem dX10_nested_15 : decode cX10_nested 15 = .ok (.bipush 8, 2) := by decide +kernel
theorem dX10_nested_17 : decode cX10_nested 17 = .ok (.if_icmp .gt 38, 3) := by decide +kernel
theorem dX10_nested_20 : decode cX10_nested 20 = .ok (.aload_n 0, 1) := by decide +kernel
theorem dX10_nested_21 : decode cX10_nested 21 = .ok (.getfield 32, 3) := by decide +kernel
theorem dX10_nested_24 : decode cX10_nested 24 = .ok (.iload_n 2, 1) := by decide +kernel
theorem dX10_nested_25 : decode cX10_nested 25 = .ok (.iload_n 3, 1) := by decide +kernel
theorem dX10_nested_26 : decode cX10_nested 26 = .ok (.invokevirtual 233, 3) := by decide +kernel
theorem dX10_nested_29 : decode cX10_nested 29 = .ok (.iconst 2, 1) := by decide +kernel
theorem dX10_nested_30 : decode cX10_nested 30 = .ok (.if_icmp .eq 16, 3) := by decide +kernel
theorem dX10_nested_33 : decode cX10_nested 33 = .ok (.aload_n 0, 1) := by decide +kernel
theorem dX10_nested_34 : decode cX10_nested 34 = .ok (.getfield 32, 3) := by decide +kernel
theorem dX10_nested_37 : decode cX10_nested 37 = .ok (.iload_n 3, 1) := by decide +kernel
theorem dX10_nested_38 : decode cX10_nested 38 = .ok (.iload_n 2, 1) := by decide +kernel
theorem dX10_nested_39 : decode cX10_nested 39 = .ok (.invokevirtual 233, 3) := by decide +kernel
theorem dX10_nested_42 : decode cX10_nested 42 = .ok (.iconst 2, 1) := by decide +kernel
theorem dX10_nested_43 : decode cX10_nested 43 = .ok (.if_icmp .ne 6, 3) := by decide +kernel
theorem dX10_nested_46 : decode cX10_nested 46 = .ok (.iinc 1 1, 3) := by decide +kernel
theorem dX10_nested_49 : decode cX10_nested 49 = .ok (.iinc 3 1, 3) := by decide +kernel
theorem dX10_nested_52 : decode cX10_nested 52 = .ok (.goto (-38), 3) := by decide +kernel
theorem dX10_nested_55 : decode cX10_nested 55 = .ok (.iinc 2 1, 3) := by decide +kernel
theorem dX10_nested_58 : decode cX10_nested 58 = .ok (.goto (-54), 3) := by decide +kernel
theorem dX10_nested_61 : decode cX10_nested 61 = .ok (.iload_n 1, 1) := by decide +kernel
theorem dX10_nested_62 : decode cX10_nested 62 = .ok (.ireturn, 1) := by decide +kernel
theorem dX10_spread_0 : decode cX10_spread 0 = .ok (.aload_n 0, 1) := by decide +kernel
theorem dX10_spread_1 : decode cX10_spread 1 = .ok (.getfield 32, 3) := by decide +kernel
theorem dX10_spread_4 : decode cX10_spread 4 = .ok (.invokevirtual 107, 3) := by decide +kernel
theorem dX10_spread_7 : decode cX10_spread 7 = .ok (.istore_n 1, 1) := by decide +kernel
theorem dX10_spread_8 : decode cX10_spread 8 = .ok (.iload_n 1, 1) := by decide +kernel
theorem dX10_spread_9 : decode cX10_spread 9 = .ok (.ifCond .ne 5, 3) := by decide +kernel
theorem dX10_spread_12 : decode cX10_spread 12 = .ok (.iconst 0, 1) := by decide +kernel
theorem dX10_spread_13 : decode cX10_spread 13 = .ok (.ireturn, 1) := by decide +kernel
theorem dX10_spread_14 : decode cX10_spread 14 = .ok (.bipush 32, 2) := by decide +kernel
theorem dX10_spread_16 : decode cX10_spread 16 = .ok (.iload_n 1, 1) := by decide +kernel
theorem dX10_spread_17 : decode cX10_spread 17 = .ok (.invokestatic 236, 3) := by decide +kernel
theorem dX10_spread_20 : decode cX10_spread 20 = .ok (.isub, 1) := by decide +kernel
theorem dX10_spread_21 : decode cX10_spread 21 = .ok (.iload_n 1, 1) := by decide +kernel
theorem dX10_spread_22 : decode cX10_spread 22 = .ok (.invokestatic 241, 3) := by decide +kernel
theorem dX10_spread_25 : decode cX10_spread 25 = .ok (.isub, 1) := by decide +kernel
theorem dX10_spread_26 : decode cX10_spread 26 = .ok (.ireturn, 1) := by decide +kernel
theorem dX10_room_0 : decode cX10_room 0 = .ok (.aload_n 0, 1) := by decide +kernel
theorem dX10_room_1 : decode cX10_room 1 = .ok (.getfield 32, 3) := by decide +kernel
theorem dX10_room_4 : decode cX10_room 4 = .ok (.invokevirtual 209, 3) := by decide +kernel
theorem dX10_room_7 : decode cX10_room 7 = .ok (.istore_n 1, 1) := by decide +kernel
theorem dX10_room_8 : decode cX10_room 8 = .ok (.iconst 0, 1) := by decide +kernel
theorem dX10_room_9 : decode cX10_room 9 = .ok (.istore_n 2, 1) := by decide +kernel
theorem dX10_room_10 : decode cX10_room 10 = .ok (.iconst 0, 1) := by decide +kernel
theorem dX10_room_11 : decode cX10_room 11 = .ok (.istore_n 3, 1) := by decide +kernel
theorem dX10_room_12 : decode cX10_room 12 = .ok (.iconst 0, 1) := by decide +kernel
theorem dX10_room_13 : decode cX10_room 13 = .ok (.istore 4, 2) := by decide +kernel
theorem dX10_room_15 : decode cX10_room 15 = .ok (.iload 4, 2) := by decide +kernel
theorem dX10_room_17 : decode cX10_room 17 = .ok (.aload_n 0, 1) := by decide +kernel
theorem dX10_room_18 : decode cX10_room 18 = .ok (.getfield 32, 3) := by decide +kernel
theorem dX10_room_21 : decode cX10_room 21 = .ok (.invokevirtual 103, 3) := by decide +kernel
theorem dX10_room_24 : decode cX10_room 24 = .ok (.if_icmp .ge 32, 3) := by decide +kernel
theorem dX10_room_27 : decode cX10_room 27 = .ok (.iload_n 1, 1) := by decide +kernel
theorem dX10_room_28 : decode cX10_room 28 = .ok (.iload 4, 2) := by decide +kernel
theorem dX10_room_30 : decode cX10_room 30 = .ok (.iushr, 1) := by decide +kernel
theorem dX10_room_31 : decode cX10_room 31 = .ok (.iconst 1, 1) := by decide +kernel
theorem dX10_room_32 : decode cX10_room 32 = .ok (.iand, 1) := by decide +kernel
theorem dX10_room_33 : decode cX10_room 33 = .ok (.ifCond .eq 9, 3) := by decide +kernel
theorem dX10_room_36 : decode cX10_room 36 = .ok (.iload_n 3, 1) := by decide +kernel
theorem dX10_room_37 : decode cX10_room 37 = .ok (.iconst 1, 1) := by decide +kernel
theorem dX10_room_38 : decode cX10_room 38 = .ok (.iadd, 1) := by decide +kernel
theorem dX10_room_39 : decode cX10_room 39 = .ok (.goto 4, 3) := by decide +kernel
theorem dX10_room_42 : decode cX10_room 42 = .ok (.iconst 0, 1) := by decide +kernel
theorem dX10_room_43 : decode cX10_room 43 = .ok (.istore_n 3, 1) := by decide +kernel
theorem dX10_room_44 : decode cX10_room 44 = .ok (.iload_n 2, 1) := by decide +kernel
theorem dX10_room_45 : decode cX10_room 45 = .ok (.iload_n 3, 1) := by decide +kernel
theorem dX10_room_46 : decode cX10_room 46 = .ok (.invokestatic 244, 3) := by decide +kernel
theorem dX10_room_49 : decode cX10_room 49 = .ok (.istore_n 2, 1) := by decide +kernel
theorem dX10_room_50 : decode cX10_room 50 = .ok (.iinc 4 1, 3) := by decide +kernel
theorem dX10_room_53 : decode cX10_room 53 = .ok (.goto (-38), 3) := by decide +kernel
theorem dX10_room_56 : decode cX10_room 56 = .ok (.iload_n 2, 1) := by decide +kernel
theorem dX10_room_57 : decode cX10_room 57 = .ok (.ireturn, 1) := by decide +kernel
theorem dX10_ledger_0 : decode cX10_ledger 0 = .ok (.iload_n 1, 1) := by decide +kernel
theorem dX10_ledger_1 : decode cX10_ledger 1 = .ok (.ifCond .lt 8, 3) := by decide +kernel
theorem dX10_ledger_4 : decode cX10_ledger 4 = .ok (.iload_n 1, 1) := by decide +kernel
theorem dX10_ledger_5 : decode cX10_ledger 5 = .ok (.iconst 2, 1) := by decide +kernel
theorem dX10_ledger_6 : decode cX10_ledger 6 = .ok (.if_icmp .le 6, 3) := by decide +kernel
theorem dX10_ledger_9 : decode cX10_ledger 9 = .ok (.bipush (-2), 2) := by decide +kernel
theorem dX10_ledger_11 : decode cX10_ledger 11 = .ok (.ireturn, 1) := by decide +kernel
theorem dX10_ledger_12 : decode cX10_ledger 12 = .ok (.iconst 0, 1) := by decide +kernel
theorem dX10_ledger_13 : decode cX10_ledger 13 = .ok (.istore_n 2, 1) := by decide +kernel
theorem dX10_ledger_14 : decode cX10_ledger 14 = .ok (.iconst 0, 1) := by decide +kernel
theorem dX10_ledger_15 : decode cX10_ledger 15 = .ok (.istore_n 3, 1) := by decide +kernel
theorem dX10_ledger_16 : decode cX10_ledger 16 = .ok (.iload_n 3, 1) := by decide +kernel
theorem dX10_ledger_17 : decode cX10_ledger 17 = .ok (.aload_n 0, 1) := by decide +kernel
theorem dX10_ledger_18 : decode cX10_ledger 18 = .ok (.getfield 32, 3) := by decide +kernel
theorem dX10_ledger_21 : decode cX10_ledger 21 = .ok (.invokevirtual 212, 3) := by decide +kernel
theorem dX10_ledger_24 : decode cX10_ledger 24 = .ok (.if_icmp .ge 27, 3) := by decide +kernel
theorem dX10_ledger_27 : decode cX10_ledger 27 = .ok (.aload_n 0, 1) := by decide +kernel
theorem dX10_ledger_28 : decode cX10_ledger 28 = .ok (.getfield 32, 3) := by decide +kernel
theorem dX10_ledger_31 : decode cX10_ledger 31 = .ok (.iload_n 3, 1) := by decide +kernel
theorem dX10_ledger_32 : decode cX10_ledger 32 = .ok (.invokevirtual 215, 3) := by decide +kernel
theorem dX10_ledger_35 : decode cX10_ledger 35 = .ok (.invokestatic 224, 3) := by decide +kernel
theorem dX10_ledger_38 : decode cX10_ledger 38 = .ok (.iload_n 1, 1) := by decide +kernel
theorem dX10_ledger_39 : decode cX10_ledger 39 = .ok (.if_icmp .ne 6, 3) := by decide +kernel
theorem dX10_ledger_42 : decode cX10_ledger 42 = .ok (.iinc 2 1, 3) := by decide +kernel
theorem dX10_ledger_45 : decode cX10_ledger 45 = .ok (.iinc 3 1, 3) := by decide +kernel
theorem dX10_ledger_48 : decode cX10_ledger 48 = .ok (.goto (-32), 3) := by decide +kernel
theorem dX10_ledger_51 : decode cX10_ledger 51 = .ok (.iload_n 2, 1) := by decide +kernel
theorem dX10_ledger_52 : decode cX10_ledger 52 = .ok (.ireturn, 1) := by decide +kernel
theorem dX10_foretold_0 : decode cX10_foretold 0 = .ok (.iload_n 1, 1) := by decide +kernel
theorem dX10_foretold_1 : decode cX10_foretold 1 = .ok (.iconst 1, 1) := by decide +kernel
theorem dX10_foretold_2 : decode cX10_foretold 2 = .ok (.if_icmp .lt 9, 3) := by decide +kernel
theorem dX10_foretold_5 : decode cX10_foretold 5 = .ok (.iload_n 1, 1) := by decide +kernel
theorem dX10_foretold_6 : decode cX10_foretold 6 = .ok (.bipush 60, 2) := by decide +kernel
theorem dX10_foretold_8 : decode cX10_foretold 8 = .ok (.if_icmp .le 5, 3) := by decide +kernel
theorem dX10_foretold_11 : decode cX10_foretold 11 = .ok (.iconst (-1), 1) := by decide +kernel
theorem dX10_foretold_12 : decode cX10_foretold 12 = .ok (.ireturn, 1) := by decide +kernel
theorem dX10_foretold_13 : decode cX10_foretold 13 = .ok (.aload_n 0, 1) := by decide +kernel
theorem dX10_foretold_14 : decode cX10_foretold 14 = .ok (.getfield 36, 3) := by decide +kernel
theorem dX10_foretold_17 : decode cX10_foretold 17 = .ok (.aload_n 0, 1) := by decide +kernel
theorem dX10_foretold_18 : decode cX10_foretold 18 = .ok (.getfield 32, 3) := by decide +kernel
theorem dX10_foretold_21 : decode cX10_foretold 21 = .ok (.invokevirtual 249, 3) := by decide +kernel
theorem dX10_foretold_24 : decode cX10_foretold 24 = .ok (.iconst 0, 1) := by decide +kernel
theorem dX10_foretold_25 : decode cX10_foretold 25 = .ok (.istore_n 2, 1) := by decide +kernel
theorem dX10_foretold_26 : decode cX10_foretold 26 = .ok (.iload_n 2, 1) := by decide +kernel
theorem dX10_foretold_27 : decode cX10_foretold 27 = .ok (.iload_n 1, 1) := by decide +kernel
theorem dX10_foretold_28 : decode cX10_foretold 28 = .ok (.if_icmp .ge 26, 3) := by decide +kernel
theorem dX10_foretold_31 : decode cX10_foretold 31 = .ok (.aload_n 0, 1) := by decide +kernel
theorem dX10_foretold_32 : decode cX10_foretold 32 = .ok (.getfield 32, 3) := by decide +kernel
theorem dX10_foretold_35 : decode cX10_foretold 35 = .ok (.invokevirtual 144, 3) := by decide +kernel
theorem dX10_foretold_38 : decode cX10_foretold 38 = .ok (.sipush 9999, 3) := by decide +kernel
theorem dX10_foretold_41 : decode cX10_foretold 41 = .ok (.if_icmp .ge 13, 3) := by decide +kernel
theorem dX10_foretold_44 : decode cX10_foretold 44 = .ok (.aload_n 0, 1) := by decide +kernel
theorem dX10_foretold_45 : decode cX10_foretold 45 = .ok (.invokevirtual 252, 3) := by decide +kernel
theorem dX10_foretold_48 : decode cX10_foretold 48 = .ok (.iinc 2 1, 3) := by decide +kernel
theorem dX10_foretold_51 : decode cX10_foretold 51 = .ok (.goto (-25), 3) := by decide +kernel
theorem dX10_foretold_54 : decode cX10_foretold 54 = .ok (.aload_n 0, 1) := by decide +kernel
theorem dX10_foretold_55 : decode cX10_foretold 55 = .ok (.getfield 32, 3) := by decide +kernel
theorem dX10_foretold_58 : decode cX10_foretold 58 = .ok (.invokevirtual 206, 3) := by decide +kernel
theorem dX10_foretold_61 : decode cX10_foretold 61 = .ok (.istore_n 2, 1) := by decide +kernel
theorem dX10_foretold_62 : decode cX10_foretold 62 = .ok (.aload_n 0, 1) := by decide +kernel
theorem dX10_foretold_63 : decode cX10_foretold 63 = .ok (.getfield 32, 3) := by decide +kernel
theorem dX10_foretold_66 : decode cX10_foretold 66 = .ok (.aload_n 0, 1) := by decide +kernel
theorem dX10_foretold_67 : decode cX10_foretold 67 = .ok (.getfield 36, 3) := by decide +kernel
theorem dX10_foretold_70 : decode cX10_foretold 70 = .ok (.invokevirtual 249, 3) := by decide +kernel
theorem dX10_foretold_73 : decode cX10_foretold 73 = .ok (.iload_n 2, 1) := by decide +kernel
theorem dX10_foretold_74 : decode cX10_foretold 74 = .ok (.ireturn, 1) := by decide +kernel
theorem dX10_can_0 : decode cX10_can 0 = .ok (.iload_n 1, 1) := by decide +kernel
theorem dX10_can_1 : decode cX10_can 1 = .ok (.invokestatic 180, 3) := by decide +kernel
theorem dX10_can_4 : decode cX10_can 4 = .ok (.ifCond .ne 5, 3) := by decide +kernel
theorem dX10_can_7 : decode cX10_can 7 = .ok (.iconst (-1), 1) := by decide +kernel
theorem dX10_can_8 : decode cX10_can 8 = .ok (.ireturn, 1) := by decide +kernel
theorem dX10_can_9 : decode cX10_can 9 = .ok (.aload_n 0, 1) := by decide +kernel
theorem dX10_can_10 : decode cX10_can 10 = .ok (.getfield 32, 3) := by decide +kernel
theorem dX10_can_13 : decode cX10_can 13 = .ok (.iload_n 1, 1) := by decide +kernel
theorem dX10_can_14 : decode cX10_can 14 = .ok (.invokevirtual 125, 3) := by decide +kernel
theorem dX10_can_17 : decode cX10_can 17 = .ok (.ifCond .eq 5, 3) := by decide +kernel
theorem dX10_can_20 : decode cX10_can 20 = .ok (.iconst 0, 1) := by decide +kernel
theorem dX10_can_21 : decode cX10_can 21 = .ok (.ireturn, 1) := by decide +kernel
theorem dX10_can_22 : decode cX10_can 22 = .ok (.aload_n 0, 1) := by decide +kernel
theorem dX10_can_23 : decode cX10_can 23 = .ok (.getfield 32, 3) := by decide +kernel
theorem dX10_can_26 : decode cX10_can 26 = .ok (.invokevirtual 209, 3) := by decide +kernel
theorem dX10_can_29 : decode cX10_can 29 = .ok (.istore_n 2, 1) := by decide +kernel
theorem dX10_can_30 : decode cX10_can 30 = .ok (.iload_n 2, 1) := by decide +kernel
theorem dX10_can_31 : decode cX10_can 31 = .ok (.iload_n 2, 1) := by decide +kernel
theorem dX10_can_32 : decode cX10_can 32 = .ok (.aload_n 0, 1) := by decide +kernel
theorem dX10_can_33 : decode cX10_can 33 = .ok (.aload_n 0, 1) := by decide +kernel
theorem dX10_can_34 : decode cX10_can 34 = .ok (.aload_n 0, 1) := by decide +kernel
theorem dX10_can_35 : decode cX10_can 35 = .ok (.getfield 75, 3) := by decide +kernel
theorem dX10_can_38 : decode cX10_can 38 = .ok (.invokevirtual 99, 3) := by decide +kernel
theorem dX10_can_41 : decode cX10_can 41 = .ok (.iload_n 1, 1) := by decide +kernel
theorem dX10_can_42 : decode cX10_can 42 = .ok (.invokevirtual 193, 3) := by decide +kernel
theorem dX10_can_45 : decode cX10_can 45 = .ok (.iconst 1, 1) := by decide +kernel
theorem dX10_can_46 : decode cX10_can 46 = .ok (.iadd, 1) := by decide +kernel
theorem dX10_can_47 : decode cX10_can 47 = .ok (.iushr, 1) := by decide +kernel
theorem dX10_can_48 : decode cX10_can 48 = .ok (.iand, 1) := by decide +kernel
theorem dX10_can_49 : decode cX10_can 49 = .ok (.ireturn, 1) := by decide +kernel
theorem dX10_rows_0 : decode cX10_rows 0 = .ok (.iload_n 1, 1) := by decide +kernel
theorem dX10_rows_1 : decode cX10_rows 1 = .ok (.iload_n 2, 1) := by decide +kernel
theorem dX10_rows_2 : decode cX10_rows 2 = .ok (.invokestatic 255, 3) := by decide +kernel
theorem dX10_rows_5 : decode cX10_rows 5 = .ok (.istore_n 3, 1) := by decide +kernel
theorem dX10_rows_6 : decode cX10_rows 6 = .ok (.iload_n 3, 1) := by decide +kernel
theorem dX10_rows_7 : decode cX10_rows 7 = .ok (.iconst (-1), 1) := by decide +kernel
theorem dX10_rows_8 : decode cX10_rows 8 = .ok (.if_icmp .ne 7, 3) := by decide +kernel
theorem dX10_rows_11 : decode cX10_rows 11 = .ok (.ldc2_w 258, 3) := by decide +kernel
theorem dX10_rows_14 : decode cX10_rows 14 = .ok (.lreturn, 1) := by decide +kernel
theorem dX10_rows_15 : decode cX10_rows 15 = .ok (.aload_n 0, 1) := by decide +kernel
theorem dX10_rows_16 : decode cX10_rows 16 = .ok (.invokevirtual 260, 3) := by decide +kernel
theorem dX10_rows_19 : decode cX10_rows 19 = .ok (.aload_n 0, 1) := by decide +kernel
theorem dX10_rows_20 : decode cX10_rows 20 = .ok (.getfield 56, 3) := by decide +kernel
theorem dX10_rows_23 : decode cX10_rows 23 = .ok (.iload_n 1, 1) := by decide +kernel
theorem dX10_rows_24 : decode cX10_rows 24 = .ok (.iload_n 3, 1) := by decide +kernel
theorem dX10_rows_25 : decode cX10_rows 25 = .ok (.invokestatic 263, 3) := by decide +kernel
theorem dX10_rows_28 : decode cX10_rows 28 = .ok (.invokevirtual 266, 3) := by decide +kernel
theorem dX10_rows_31 : decode cX10_rows 31 = .ok (.i2l, 1) := by decide +kernel
theorem dX10_rows_32 : decode cX10_rows 32 = .ok (.lreturn, 1) := by decide +kernel
theorem dX10_row_0 : decode cX10_row 0 = .ok (.aload_n 0, 1) := by decide +kernel
theorem dX10_row_1 : decode cX10_row 1 = .ok (.iload_n 1, 1) := by decide +kernel
theorem dX10_row_2 : decode cX10_row 2 = .ok (.iload_n 2, 1) := by decide +kernel
theorem dX10_row_3 : decode cX10_row 3 = .ok (.iconst 0, 1) := by decide +kernel
theorem dX10_row_4 : decode cX10_row 4 = .ok (.iload_n 3, 1) := by decide +kernel
theorem dX10_row_5 : decode cX10_row 5 = .ok (.invokevirtual 268, 3) := by decide +kernel
theorem dX10_row_8 : decode cX10_row 8 = .ok (.ireturn, 1) := by decide +kernel
theorem dX10_rowAt_0 : decode cX10_rowAt 0 = .ok (.iload_n 1, 1) := by decide +kernel
theorem dX10_rowAt_1 : decode cX10_rowAt 1 = .ok (.iload_n 2, 1) := by decide +kernel
theorem dX10_rowAt_2 : decode cX10_rowAt 2 = .ok (.invokestatic 255, 3) := by decide +kernel
theorem dX10_rowAt_5 : decode cX10_rowAt 5 = .ok (.istore 5, 2) := by decide +kernel
theorem dX10_rowAt_7 : decode cX10_rowAt 7 = .ok (.iload_n 3, 1) := by decide +kernel
theorem dX10_rowAt_8 : decode cX10_rowAt 8 = .ok (.ifCond .lt 15, 3) := by decide +kernel
theorem dX10_rowAt_11 : decode cX10_rowAt 11 = .ok (.iload 4, 2) := by decide +kernel
theorem dX10_rowAt_13 : decode cX10_rowAt 13 = .ok (.ifCond .lt 10, 3) := by decide +kernel
theorem dX10_rowAt_16 : decode cX10_rowAt 16 = .ok (.iload 4, 2) := by decide +kernel
theorem dX10_rowAt_18 : decode cX10_rowAt 18 = .ok (.iload 5, 2) := by decide +kernel
theorem dX10_rowAt_20 : decode cX10_rowAt 20 = .ok (.if_icmp .lt 5, 3) := by decide +kernel
theorem dX10_rowAt_23 : decode cX10_rowAt 23 = .ok (.iconst (-1), 1) := by decide +kernel
theorem dX10_rowAt_24 : decode cX10_rowAt 24 = .ok (.ireturn, 1) := by decide +kernel
theorem dX10_rowAt_25 : decode cX10_rowAt 25 = .ok (.aload_n 0, 1) := by decide +kernel
theorem dX10_rowAt_26 : decode cX10_rowAt 26 = .ok (.invokevirtual 260, 3) := by decide +kernel
theorem dX10_rowAt_29 : decode cX10_rowAt 29 = .ok (.aload_n 0, 1) := by decide +kernel
theorem dX10_rowAt_30 : decode cX10_rowAt 30 = .ok (.getfield 56, 3) := by decide +kernel
theorem dX10_rowAt_33 : decode cX10_rowAt 33 = .ok (.iload_n 1, 1) := by decide +kernel
theorem dX10_rowAt_34 : decode cX10_rowAt 34 = .ok (.iload 5, 2) := by decide +kernel
theorem dX10_rowAt_36 : decode cX10_rowAt 36 = .ok (.invokestatic 263, 3) := by decide +kernel
theorem dX10_rowAt_39 : decode cX10_rowAt 39 = .ok (.iload_n 3, 1) := by decide +kernel
theorem dX10_rowAt_40 : decode cX10_rowAt 40 = .ok (.iload 4, 2) := by decide +kernel
theorem dX10_rowAt_42 : decode cX10_rowAt 42 = .ok (.invokevirtual 272, 3) := by decide +kernel
theorem dX10_rowAt_45 : decode cX10_rowAt 45 = .ok (.ireturn, 1) := by decide +kernel
theorem dX10_often_0 : decode cX10_often 0 = .ok (.iload_n 1, 1) := by decide +kernel
theorem dX10_often_1 : decode cX10_often 1 = .ok (.iload_n 2, 1) := by decide +kernel
theorem dX10_often_2 : decode cX10_often 2 = .ok (.invokestatic 255, 3) := by decide +kernel
theorem dX10_often_5 : decode cX10_often 5 = .ok (.istore 5, 2) := by decide +kernel
theorem dX10_often_7 : decode cX10_often 7 = .ok (.iload 4, 2) := by decide +kernel
theorem dX10_often_9 : decode cX10_often 9 = .ok (.ifCond .lt 26, 3) := by decide +kernel
theorem dX10_often_12 : decode cX10_often 12 = .ok (.iload 4, 2) := by decide +kernel
theorem dX10_often_14 : decode cX10_often 14 = .ok (.iload 5, 2) := by decide +kernel
theorem dX10_often_16 : decode cX10_often 16 = .ok (.if_icmp .ge 19, 3) := by decide +kernel
theorem dX10_often_19 : decode cX10_often 19 = .ok (.iload_n 3, 1) := by decide +kernel
theorem dX10_often_20 : decode cX10_often 20 = .ok (.invokestatic 180, 3) := by decide +kernel
theorem dX10_often_23 : decode cX10_often 23 = .ok (.ifCond .eq 12, 3) := by decide +kernel
theorem dX10_often_26 : decode cX10_often 26 = .ok (.iload_n 1, 1) := by decide +kernel
theorem dX10_often_27 : decode cX10_often 27 = .ok (.iload_n 3, 1) := by decide +kernel
theorem dX10_often_28 : decode cX10_often 28 = .ok (.invokestatic 275, 3) := by decide +kernel
theorem dX10_often_31 : decode cX10_often 31 = .ok (.iand, 1) := by decide +kernel
theorem dX10_often_32 : decode cX10_often 32 = .ok (.ifCond .ne 7, 3) := by decide +kernel
theorem dX10_often_35 : decode cX10_often 35 = .ok (.ldc2_w 258, 3) := by decide +kernel
theorem dX10_often_38 : decode cX10_often 38 = .ok (.lreturn, 1) := by decide +kernel
theorem dX10_often_39 : decode cX10_often 39 = .ok (.aload_n 0, 1) := by decide +kernel
theorem dX10_often_40 : decode cX10_often 40 = .ok (.invokevirtual 260, 3) := by decide +kernel
theorem dX10_often_43 : decode cX10_often 43 = .ok (.iload 5, 2) := by decide +kernel
theorem dX10_often_45 : decode cX10_often 45 = .ok (.invokestatic 263, 3) := by decide +kernel
theorem dX10_often_48 : decode cX10_often 48 = .ok (.istore 6, 2) := by decide +kernel
theorem dX10_often_50 : decode cX10_often 50 = .ok (.aload_n 0, 1) := by decide +kernel
theorem dX10_often_51 : decode cX10_often 51 = .ok (.getfield 56, 3) := by decide +kernel
theorem dX10_often_54 : decode cX10_often 54 = .ok (.iload_n 1, 1) := by decide +kernel
theorem dX10_often_55 : decode cX10_often 55 = .ok (.iload 6, 2) := by decide +kernel
theorem dX10_often_57 : decode cX10_often 57 = .ok (.iload_n 3, 1) := by decide +kernel
theorem dX10_often_58 : decode cX10_often 58 = .ok (.iload 4, 2) := by decide +kernel
theorem dX10_often_60 : decode cX10_often 60 = .ok (.invokevirtual 278, 3) := by decide +kernel
theorem dX10_often_63 : decode cX10_often 63 = .ok (.aload_n 0, 1) := by decide +kernel
theorem dX10_often_64 : decode cX10_often 64 = .ok (.getfield 56, 3) := by decide +kernel
theorem dX10_often_67 : decode cX10_often 67 = .ok (.iload_n 1, 1) := by decide +kernel
theorem dX10_often_68 : decode cX10_often 68 = .ok (.iload 6, 2) := by decide +kernel
theorem dX10_often_70 : decode cX10_often 70 = .ok (.iload_n 3, 1) := by decide +kernel
theorem dX10_often_71 : decode cX10_often 71 = .ok (.iload 4, 2) := by decide +kernel
theorem dX10_often_73 : decode cX10_often 73 = .ok (.aload_n 0, 1) := by decide +kernel
theorem dX10_often_74 : decode cX10_often 74 = .ok (.getfield 56, 3) := by decide +kernel
theorem dX10_often_77 : decode cX10_often 77 = .ok (.iload_n 3, 1) := by decide +kernel
theorem dX10_often_78 : decode cX10_often 78 = .ok (.invokevirtual 281, 3) := by decide +kernel
theorem dX10_often_81 : decode cX10_often 81 = .ok (.isub, 1) := by decide +kernel
theorem dX10_often_82 : decode cX10_often 82 = .ok (.invokevirtual 278, 3) := by decide +kernel
theorem dX10_often_85 : decode cX10_often 85 = .ok (.iadd, 1) := by decide +kernel
theorem dX10_often_86 : decode cX10_often 86 = .ok (.i2l, 1) := by decide +kernel
theorem dX10_often_87 : decode cX10_often 87 = .ok (.lreturn, 1) := by decide +kernel
theorem dX10_pinned_0 : decode cX10_pinned 0 = .ok (.iload_n 1, 1) := by decide +kernel
theorem dX10_pinned_1 : decode cX10_pinned 1 = .ok (.iload_n 2, 1) := by decide +kernel
theorem dX10_pinned_2 : decode cX10_pinned 2 = .ok (.invokestatic 255, 3) := by decide +kernel
theorem dX10_pinned_5 : decode cX10_pinned 5 = .ok (.istore_n 3, 1) := by decide +kernel
theorem dX10_pinned_6 : decode cX10_pinned 6 = .ok (.iload_n 3, 1) := by decide +kernel
theorem dX10_pinned_7 : decode cX10_pinned 7 = .ok (.iconst (-1), 1) := by decide +kernel
theorem dX10_pinned_8 : decode cX10_pinned 8 = .ok (.if_icmp .ne 5, 3) := by decide +kernel
theorem dX10_pinned_11 : decode cX10_pinned 11 = .ok (.iconst (-1), 1) := by decide +kernel
theorem dX10_pinned_12 : decode cX10_pinned 12 = .ok (.ireturn, 1) := by decide +kernel
theorem dX10_pinned_13 : decode cX10_pinned 13 = .ok (.aload_n 0, 1) := by decide +kernel
theorem dX10_pinned_14 : decode cX10_pinned 14 = .ok (.invokevirtual 260, 3) := by decide +kernel
theorem dX10_pinned_17 : decode cX10_pinned 17 = .ok (.aload_n 0, 1) := by decide +kernel
theorem dX10_pinned_18 : decode cX10_pinned 18 = .ok (.getfield 56, 3) := by decide +kernel
theorem dX10_pinned_21 : decode cX10_pinned 21 = .ok (.iload_n 1, 1) := by decide +kernel
theorem dX10_pinned_22 : decode cX10_pinned 22 = .ok (.iload_n 3, 1) := by decide +kernel
theorem dX10_pinned_23 : decode cX10_pinned 23 = .ok (.invokestatic 263, 3) := by decide +kernel
theorem dX10_pinned_26 : decode cX10_pinned 26 = .ok (.invokevirtual 284, 3) := by decide +kernel
theorem dX10_pinned_29 : decode cX10_pinned 29 = .ok (.ireturn, 1) := by decide +kernel
theorem dX10_fewest_0 : decode cX10_fewest 0 = .ok (.iload_n 1, 1) := by decide +kernel
theorem dX10_fewest_1 : decode cX10_fewest 1 = .ok (.invokestatic 287, 3) := by decide +kernel
theorem dX10_fewest_4 : decode cX10_fewest 4 = .ok (.ifCond .ne 5, 3) := by decide +kernel
theorem dX10_fewest_7 : decode cX10_fewest 7 = .ok (.iconst (-1), 1) := by decide +kernel
theorem dX10_fewest_8 : decode cX10_fewest 8 = .ok (.ireturn, 1) := by decide +kernel
theorem dX10_fewest_9 : decode cX10_fewest 9 = .ok (.aload_n 0, 1) := by decide +kernel
theorem dX10_fewest_10 : decode cX10_fewest 10 = .ok (.invokevirtual 260, 3) := by decide +kernel
theorem dX10_fewest_13 : decode cX10_fewest 13 = .ok (.iconst 2, 1) := by decide +kernel
theorem dX10_fewest_14 : decode cX10_fewest 14 = .ok (.iload_n 1, 1) := by decide +kernel
theorem dX10_fewest_15 : decode cX10_fewest 15 = .ok (.invokestatic 290, 3) := by decide +kernel
theorem dX10_fewest_18 : decode cX10_fewest 18 = .ok (.imul, 1) := by decide +kernel
theorem dX10_fewest_19 : decode cX10_fewest 19 = .ok (.istore_n 2, 1) := by decide +kernel
theorem dX10_fewest_20 : decode cX10_fewest 20 = .ok (.iload_n 2, 1) := by decide +kernel
theorem dX10_fewest_21 : decode cX10_fewest 21 = .ok (.istore_n 3, 1) := by decide +kernel
theorem dX10_fewest_22 : decode cX10_fewest 22 = .ok (.iload_n 3, 1) := by decide +kernel
theorem dX10_fewest_23 : decode cX10_fewest 23 = .ok (.bipush 16, 2) := by decide +kernel
theorem dX10_fewest_25 : decode cX10_fewest 25 = .ok (.if_icmp .gt 28, 3) := by decide +kernel
theorem dX10_fewest_28 : decode cX10_fewest 28 = .ok (.aload_n 0, 1) := by decide +kernel
theorem dX10_fewest_29 : decode cX10_fewest 29 = .ok (.getfield 56, 3) := by decide +kernel
theorem dX10_fewest_32 : decode cX10_fewest 32 = .ok (.iload_n 1, 1) := by decide +kernel
theorem dX10_fewest_33 : decode cX10_fewest 33 = .ok (.iload_n 3, 1) := by decide +kernel
theorem dX10_fewest_34 : decode cX10_fewest 34 = .ok (.invokestatic 263, 3) := by decide +kernel
theorem dX10_fewest_37 : decode cX10_fewest 37 = .ok (.invokevirtual 293, 3) := by decide +kernel
theorem dX10_fewest_40 : decode cX10_fewest 40 = .ok (.ifCond .eq 7, 3) := by decide +kernel
theorem dX10_fewest_43 : decode cX10_fewest 43 = .ok (.iload_n 3, 1) := by decide +kernel
theorem dX10_fewest_44 : decode cX10_fewest 44 = .ok (.iload_n 2, 1) := by decide +kernel
theorem dX10_fewest_45 : decode cX10_fewest 45 = .ok (.isub, 1) := by decide +kernel
theorem dX10_fewest_46 : decode cX10_fewest 46 = .ok (.ireturn, 1) := by decide +kernel
theorem dX10_fewest_47 : decode cX10_fewest 47 = .ok (.iinc 3 1, 3) := by decide +kernel
theorem dX10_fewest_50 : decode cX10_fewest 50 = .ok (.goto (-28), 3) := by decide +kernel
theorem dX10_fewest_53 : decode cX10_fewest 53 = .ok (.iconst (-1), 1) := by decide +kernel
theorem dX10_fewest_54 : decode cX10_fewest 54 = .ok (.ireturn, 1) := by decide +kernel
theorem dX10_kinds_0 : decode cX10_kinds 0 = .ok (.iload_n 1, 1) := by decide +kernel
theorem dX10_kinds_1 : decode cX10_kinds 1 = .ok (.iload_n 2, 1) := by decide +kernel
theorem dX10_kinds_2 : decode cX10_kinds 2 = .ok (.invokestatic 255, 3) := by decide +kernel
theorem dX10_kinds_5 : decode cX10_kinds 5 = .ok (.istore_n 3, 1) := by decide +kernel
theorem dX10_kinds_6 : decode cX10_kinds 6 = .ok (.iload_n 3, 1) := by decide +kernel
theorem dX10_kinds_7 : decode cX10_kinds 7 = .ok (.iconst (-1), 1) := by decide +kernel
theorem dX10_kinds_8 : decode cX10_kinds 8 = .ok (.if_icmp .ne 7, 3) := by decide +kernel
theorem dX10_kinds_11 : decode cX10_kinds 11 = .ok (.ldc2_w 258, 3) := by decide +kernel
theorem dX10_kinds_14 : decode cX10_kinds 14 = .ok (.lreturn, 1) := by decide +kernel
theorem dX10_kinds_15 : decode cX10_kinds 15 = .ok (.aload_n 0, 1) := by decide +kernel
theorem dX10_kinds_16 : decode cX10_kinds 16 = .ok (.invokevirtual 260, 3) := by decide +kernel
theorem dX10_kinds_19 : decode cX10_kinds 19 = .ok (.aload_n 0, 1) := by decide +kernel
theorem dX10_kinds_20 : decode cX10_kinds 20 = .ok (.getfield 56, 3) := by decide +kernel
theorem dX10_kinds_23 : decode cX10_kinds 23 = .ok (.iload_n 1, 1) := by decide +kernel
theorem dX10_kinds_24 : decode cX10_kinds 24 = .ok (.iload_n 3, 1) := by decide +kernel
theorem dX10_kinds_25 : decode cX10_kinds 25 = .ok (.invokestatic 263, 3) := by decide +kernel
theorem dX10_kinds_28 : decode cX10_kinds 28 = .ok (.invokevirtual 266, 3) := by decide +kernel
theorem dX10_kinds_31 : decode cX10_kinds 31 = .ok (.iconst 1, 1) := by decide +kernel
theorem dX10_kinds_32 : decode cX10_kinds 32 = .ok (.iadd, 1) := by decide +kernel
theorem dX10_kinds_33 : decode cX10_kinds 33 = .ok (.iconst 2, 1) := by decide +kernel
theorem dX10_kinds_34 : decode cX10_kinds 34 = .ok (.idiv, 1) := by decide +kernel
theorem dX10_kinds_35 : decode cX10_kinds 35 = .ok (.i2l, 1) := by decide +kernel
theorem dX10_kinds_36 : decode cX10_kinds 36 = .ok (.lreturn, 1) := by decide +kernel
theorem dX10_rounds_0 : decode cX10_rounds 0 = .ok (.iload_n 1, 1) := by decide +kernel
theorem dX10_rounds_1 : decode cX10_rounds 1 = .ok (.invokestatic 287, 3) := by decide +kernel
theorem dX10_rounds_4 : decode cX10_rounds 4 = .ok (.ifCond .ne 7, 3) := by decide +kernel
theorem dX10_rounds_7 : decode cX10_rounds 7 = .ok (.ldc2_w 258, 3) := by decide +kernel
theorem dX10_rounds_10 : decode cX10_rounds 10 = .ok (.lreturn, 1) := by decide +kernel
theorem dX10_rounds_11 : decode cX10_rounds 11 = .ok (.aload_n 0, 1) := by decide +kernel
theorem dX10_rounds_12 : decode cX10_rounds 12 = .ok (.invokevirtual 260, 3) := by decide +kernel
theorem dX10_rounds_15 : decode cX10_rounds 15 = .ok (.aload_n 0, 1) := by decide +kernel
theorem dX10_rounds_16 : decode cX10_rounds 16 = .ok (.getfield 56, 3) := by decide +kernel
theorem dX10_rounds_19 : decode cX10_rounds 19 = .ok (.iload_n 1, 1) := by decide +kernel
theorem dX10_rounds_20 : decode cX10_rounds 20 = .ok (.invokevirtual 297, 3) := by decide +kernel
theorem dX10_rounds_23 : decode cX10_rounds 23 = .ok (.i2l, 1) := by decide +kernel
theorem dX10_rounds_24 : decode cX10_rounds 24 = .ok (.lreturn, 1) := by decide +kernel
theorem dX10_threes_0 : decode cX10_threes 0 = .ok (.iload_n 1, 1) := by decide +kernel
theorem dX10_threes_1 : decode cX10_threes 1 = .ok (.invokestatic 287, 3) := by decide +kernel
theorem dX10_threes_4 : decode cX10_threes 4 = .ok (.ifCond .eq 11, 3) := by decide +kernel
theorem dX10_threes_7 : decode cX10_threes 7 = .ok (.iload_n 1, 1) := by decide +kernel
theorem dX10_threes_8 : decode cX10_threes 8 = .ok (.invokestatic 290, 3) := by decide +kernel
theorem dX10_threes_11 : decode cX10_threes 11 = .ok (.iconst 5, 1) := by decide +kernel
theorem dX10_threes_12 : decode cX10_threes 12 = .ok (.if_icmp .le 7, 3) := by decide +kernel
theorem dX10_threes_15 : decode cX10_threes 15 = .ok (.ldc2_w 258, 3) := by decide +kernel
theorem dX10_threes_18 : decode cX10_threes 18 = .ok (.lreturn, 1) := by decide +kernel
theorem dX10_threes_19 : decode cX10_threes 19 = .ok (.aload_n 0, 1) := by decide +kernel
theorem dX10_threes_20 : decode cX10_threes 20 = .ok (.invokevirtual 260, 3) := by decide +kernel
theorem dX10_threes_23 : decode cX10_threes 23 = .ok (.aload_n 0, 1) := by decide +kernel
theorem dX10_threes_24 : decode cX10_threes 24 = .ok (.getfield 56, 3) := by decide +kernel
theorem dX10_threes_27 : decode cX10_threes 27 = .ok (.iload_n 1, 1) := by decide +kernel
theorem dX10_threes_28 : decode cX10_threes 28 = .ok (.iconst 3, 1) := by decide +kernel
theorem dX10_threes_29 : decode cX10_threes 29 = .ok (.iload_n 1, 1) := by decide +kernel
theorem dX10_threes_30 : decode cX10_threes 30 = .ok (.invokestatic 290, 3) := by decide +kernel
theorem dX10_threes_33 : decode cX10_threes 33 = .ok (.imul, 1) := by decide +kernel
theorem dX10_threes_34 : decode cX10_threes 34 = .ok (.invokestatic 263, 3) := by decide +kernel
theorem dX10_threes_37 : decode cX10_threes 37 = .ok (.invokevirtual 300, 3) := by decide +kernel
theorem dX10_threes_40 : decode cX10_threes 40 = .ok (.i2l, 1) := by decide +kernel
theorem dX10_threes_41 : decode cX10_threes 41 = .ok (.lreturn, 1) := by decide +kernel
theorem dX10_ways_0 : decode cX10_ways 0 = .ok (.iload_n 1, 1) := by decide +kernel
theorem dX10_ways_1 : decode cX10_ways 1 = .ok (.invokestatic 287, 3) := by decide +kernel
theorem dX10_ways_4 : decode cX10_ways 4 = .ok (.ifCond .ne 7, 3) := by decide +kernel
theorem dX10_ways_7 : decode cX10_ways 7 = .ok (.ldc2_w 258, 3) := by decide +kernel
theorem dX10_ways_10 : decode cX10_ways 10 = .ok (.lreturn, 1) := by decide +kernel
theorem dX10_ways_11 : decode cX10_ways 11 = .ok (.aload_n 0, 1) := by decide +kernel
theorem dX10_ways_12 : decode cX10_ways 12 = .ok (.invokevirtual 260, 3) := by decide +kernel
theorem dX10_ways_15 : decode cX10_ways 15 = .ok (.aload_n 0, 1) := by decide +kernel
theorem dX10_ways_16 : decode cX10_ways 16 = .ok (.getfield 56, 3) := by decide +kernel
theorem dX10_ways_19 : decode cX10_ways 19 = .ok (.iload_n 1, 1) := by decide +kernel
theorem dX10_ways_20 : decode cX10_ways 20 = .ok (.aload_n 0, 1) := by decide +kernel
theorem dX10_ways_21 : decode cX10_ways 21 = .ok (.getfield 32, 3) := by decide +kernel
theorem dX10_ways_24 : decode cX10_ways 24 = .ok (.invokevirtual 206, 3) := by decide +kernel
theorem dX10_ways_27 : decode cX10_ways 27 = .ok (.iconst (-1), 1) := by decide +kernel
theorem dX10_ways_28 : decode cX10_ways 28 = .ok (.ixor, 1) := by decide +kernel
theorem dX10_ways_29 : decode cX10_ways 29 = .ok (.iand, 1) := by decide +kernel
theorem dX10_ways_30 : decode cX10_ways 30 = .ok (.aload_n 0, 1) := by decide +kernel
theorem dX10_ways_31 : decode cX10_ways 31 = .ok (.getfield 32, 3) := by decide +kernel
theorem dX10_ways_34 : decode cX10_ways 34 = .ok (.invokevirtual 209, 3) := by decide +kernel
theorem dX10_ways_37 : decode cX10_ways 37 = .ok (.invokevirtual 266, 3) := by decide +kernel
theorem dX10_ways_40 : decode cX10_ways 40 = .ok (.i2l, 1) := by decide +kernel
theorem dX10_ways_41 : decode cX10_ways 41 = .ok (.lreturn, 1) := by decide +kernel
theorem dX10_fill_0 : decode cX10_fill 0 = .ok (.iload_n 1, 1) := by decide +kernel
theorem dX10_fill_1 : decode cX10_fill 1 = .ok (.invokestatic 287, 3) := by decide +kernel
theorem dX10_fill_4 : decode cX10_fill 4 = .ok (.ifCond .eq 10, 3) := by decide +kernel
theorem dX10_fill_7 : decode cX10_fill 7 = .ok (.iload_n 2, 1) := by decide +kernel
theorem dX10_fill_8 : decode cX10_fill 8 = .ok (.invokestatic 180, 3) := by decide +kernel
theorem dX10_fill_11 : decode cX10_fill 11 = .ok (.ifCond .ne 5, 3) := by decide +kernel
theorem dX10_fill_14 : decode cX10_fill 14 = .ok (.iconst (-1), 1) := by decide +kernel
theorem dX10_fill_15 : decode cX10_fill 15 = .ok (.ireturn, 1) := by decide +kernel
theorem dX10_fill_16 : decode cX10_fill 16 = .ok (.aload_n 0, 1) := by decide +kernel
theorem dX10_fill_17 : decode cX10_fill 17 = .ok (.invokevirtual 260, 3) := by decide +kernel
theorem dX10_fill_20 : decode cX10_fill 20 = .ok (.iload_n 1, 1) := by decide +kernel
theorem dX10_fill_21 : decode cX10_fill 21 = .ok (.aload_n 0, 1) := by decide +kernel
theorem dX10_fill_22 : decode cX10_fill 22 = .ok (.getfield 32, 3) := by decide +kernel
theorem dX10_fill_25 : decode cX10_fill 25 = .ok (.invokevirtual 206, 3) := by decide +kernel
theorem dX10_fill_28 : decode cX10_fill 28 = .ok (.iconst (-1), 1) := by decide +kernel
theorem dX10_fill_29 : decode cX10_fill 29 = .ok (.ixor, 1) := by decide +kernel
theorem dX10_fill_30 : decode cX10_fill 30 = .ok (.iand, 1) := by decide +kernel
theorem dX10_fill_31 : decode cX10_fill 31 = .ok (.istore_n 3, 1) := by decide +kernel
theorem dX10_fill_32 : decode cX10_fill 32 = .ok (.aload_n 0, 1) := by decide +kernel
theorem dX10_fill_33 : decode cX10_fill 33 = .ok (.getfield 56, 3) := by decide +kernel
theorem dX10_fill_36 : decode cX10_fill 36 = .ok (.iload_n 3, 1) := by decide +kernel
theorem dX10_fill_37 : decode cX10_fill 37 = .ok (.aload_n 0, 1) := by decide +kernel
theorem dX10_fill_38 : decode cX10_fill 38 = .ok (.getfield 32, 3) := by decide +kernel
theorem dX10_fill_41 : decode cX10_fill 41 = .ok (.invokevirtual 209, 3) := by decide +kernel
theorem dX10_fill_44 : decode cX10_fill 44 = .ok (.invokevirtual 293, 3) := by decide +kernel
theorem dX10_fill_47 : decode cX10_fill 47 = .ok (.ifCond .ne 5, 3) := by decide +kernel
theorem dX10_fill_50 : decode cX10_fill 50 = .ok (.iconst (-1), 1) := by decide +kernel
theorem dX10_fill_51 : decode cX10_fill 51 = .ok (.ireturn, 1) := by decide +kernel
theorem dX10_fill_52 : decode cX10_fill 52 = .ok (.aload_n 0, 1) := by decide +kernel
theorem dX10_fill_53 : decode cX10_fill 53 = .ok (.getfield 32, 3) := by decide +kernel
theorem dX10_fill_56 : decode cX10_fill 56 = .ok (.iload_n 2, 1) := by decide +kernel
theorem dX10_fill_57 : decode cX10_fill 57 = .ok (.invokevirtual 125, 3) := by decide +kernel
theorem dX10_fill_60 : decode cX10_fill 60 = .ok (.ifCond .eq 14, 3) := by decide +kernel
theorem dX10_fill_63 : decode cX10_fill 63 = .ok (.aload_n 0, 1) := by decide +kernel
theorem dX10_fill_64 : decode cX10_fill 64 = .ok (.getfield 32, 3) := by decide +kernel
theorem dX10_fill_67 : decode cX10_fill 67 = .ok (.iload_n 2, 1) := by decide +kernel
theorem dX10_fill_68 : decode cX10_fill 68 = .ok (.invokevirtual 183, 3) := by decide +kernel
theorem dX10_fill_71 : decode cX10_fill 71 = .ok (.goto 19, 3) := by decide +kernel
theorem dX10_fill_74 : decode cX10_fill 74 = .ok (.aload_n 0, 1) := by decide +kernel
theorem dX10_fill_75 : decode cX10_fill 75 = .ok (.getfield 56, 3) := by decide +kernel
theorem dX10_fill_78 : decode cX10_fill 78 = .ok (.iload_n 3, 1) := by decide +kernel
theorem dX10_fill_79 : decode cX10_fill 79 = .ok (.aload_n 0, 1) := by decide +kernel
theorem dX10_fill_80 : decode cX10_fill 80 = .ok (.getfield 32, 3) := by decide +kernel
theorem dX10_fill_83 : decode cX10_fill 83 = .ok (.invokevirtual 209, 3) := by decide +kernel
theorem dX10_fill_86 : decode cX10_fill 86 = .ok (.iload_n 2, 1) := by decide +kernel
theorem dX10_fill_87 : decode cX10_fill 87 = .ok (.invokevirtual 303, 3) := by decide +kernel
theorem dX10_fill_90 : decode cX10_fill 90 = .ok (.ireturn, 1) := by decide +kernel
theorem dX10_forced_0 : decode cX10_forced 0 = .ok (.iload_n 1, 1) := by decide +kernel
theorem dX10_forced_1 : decode cX10_forced 1 = .ok (.invokestatic 287, 3) := by decide +kernel
theorem dX10_forced_4 : decode cX10_forced 4 = .ok (.ifCond .ne 5, 3) := by decide +kernel
theorem dX10_forced_7 : decode cX10_forced 7 = .ok (.iconst (-1), 1) := by decide +kernel
theorem dX10_forced_8 : decode cX10_forced 8 = .ok (.ireturn, 1) := by decide +kernel
theorem dX10_forced_9 : decode cX10_forced 9 = .ok (.aload_n 0, 1) := by decide +kernel
theorem dX10_forced_10 : decode cX10_forced 10 = .ok (.invokevirtual 260, 3) := by decide +kernel
theorem dX10_forced_13 : decode cX10_forced 13 = .ok (.aload_n 0, 1) := by decide +kernel
theorem dX10_forced_14 : decode cX10_forced 14 = .ok (.getfield 56, 3) := by decide +kernel
theorem dX10_forced_17 : decode cX10_forced 17 = .ok (.iload_n 1, 1) := by decide +kernel
theorem dX10_forced_18 : decode cX10_forced 18 = .ok (.aload_n 0, 1) := by decide +kernel
theorem dX10_forced_19 : decode cX10_forced 19 = .ok (.getfield 32, 3) := by decide +kernel
theorem dX10_forced_22 : decode cX10_forced 22 = .ok (.invokevirtual 206, 3) := by decide +kernel
theorem dX10_forced_25 : decode cX10_forced 25 = .ok (.iconst (-1), 1) := by decide +kernel
theorem dX10_forced_26 : decode cX10_forced 26 = .ok (.ixor, 1) := by decide +kernel
theorem dX10_forced_27 : decode cX10_forced 27 = .ok (.iand, 1) := by decide +kernel
theorem dX10_forced_28 : decode cX10_forced 28 = .ok (.aload_n 0, 1) := by decide +kernel
theorem dX10_forced_29 : decode cX10_forced 29 = .ok (.getfield 32, 3) := by decide +kernel
theorem dX10_forced_32 : decode cX10_forced 32 = .ok (.invokevirtual 209, 3) := by decide +kernel
theorem dX10_forced_35 : decode cX10_forced 35 = .ok (.invokevirtual 284, 3) := by decide +kernel
theorem dX10_forced_38 : decode cX10_forced 38 = .ok (.ireturn, 1) := by decide +kernel
theorem dX10_stay_0 : decode cX10_stay 0 = .ok (.iload_n 1, 1) := by decide +kernel
theorem dX10_stay_1 : decode cX10_stay 1 = .ok (.invokestatic 287, 3) := by decide +kernel
theorem dX10_stay_4 : decode cX10_stay 4 = .ok (.ifCond .ne 5, 3) := by decide +kernel
theorem dX10_stay_7 : decode cX10_stay 7 = .ok (.iconst (-1), 1) := by decide +kernel
theorem dX10_stay_8 : decode cX10_stay 8 = .ok (.ireturn, 1) := by decide +kernel
theorem dX10_stay_9 : decode cX10_stay 9 = .ok (.aload_n 0, 1) := by decide +kernel
theorem dX10_stay_10 : decode cX10_stay 10 = .ok (.invokevirtual 260, 3) := by decide +kernel
theorem dX10_stay_13 : decode cX10_stay 13 = .ok (.iload_n 1, 1) := by decide +kernel
theorem dX10_stay_14 : decode cX10_stay 14 = .ok (.aload_n 0, 1) := by decide +kernel
theorem dX10_stay_15 : decode cX10_stay 15 = .ok (.getfield 32, 3) := by decide +kernel
theorem dX10_stay_18 : decode cX10_stay 18 = .ok (.invokevirtual 206, 3) := by decide +kernel
theorem dX10_stay_21 : decode cX10_stay 21 = .ok (.iand, 1) := by decide +kernel
theorem dX10_stay_22 : decode cX10_stay 22 = .ok (.istore_n 2, 1) := by decide +kernel
theorem dX10_stay_23 : decode cX10_stay 23 = .ok (.aload_n 0, 1) := by decide +kernel
theorem dX10_stay_24 : decode cX10_stay 24 = .ok (.getfield 32, 3) := by decide +kernel
theorem dX10_stay_27 : decode cX10_stay 27 = .ok (.invokevirtual 103, 3) := by decide +kernel
theorem dX10_stay_30 : decode cX10_stay 30 = .ok (.invokestatic 263, 3) := by decide +kernel
theorem dX10_stay_33 : decode cX10_stay 33 = .ok (.istore_n 3, 1) := by decide +kernel
theorem dX10_stay_34 : decode cX10_stay 34 = .ok (.iload_n 2, 1) := by decide +kernel
theorem dX10_stay_35 : decode cX10_stay 35 = .ok (.invokestatic 290, 3) := by decide +kernel
theorem dX10_stay_38 : decode cX10_stay 38 = .ok (.istore 4, 2) := by decide +kernel
theorem dX10_stay_40 : decode cX10_stay 40 = .ok (.iload 4, 2) := by decide +kernel
theorem dX10_stay_42 : decode cX10_stay 42 = .ok (.ifCond .lt 75, 3) := by decide +kernel
theorem dX10_stay_45 : decode cX10_stay 45 = .ok (.iconst 0, 1) := by decide +kernel
theorem dX10_stay_46 : decode cX10_stay 46 = .ok (.istore 5, 2) := by decide +kernel
theorem dX10_stay_48 : decode cX10_stay 48 = .ok (.iload 5, 2) := by decide +kernel
theorem dX10_stay_50 : decode cX10_stay 50 = .ok (.iload_n 2, 1) := by decide +kernel
theorem dX10_stay_51 : decode cX10_stay 51 = .ok (.if_icmp .gt 60, 3) := by decide +kernel
theorem dX10_stay_54 : decode cX10_stay 54 = .ok (.iload 5, 2) := by decide +kernel
theorem dX10_stay_56 : decode cX10_stay 56 = .ok (.iload_n 2, 1) := by decide +kernel
theorem dX10_stay_57 : decode cX10_stay 57 = .ok (.iconst (-1), 1) := by decide +kernel
theorem dX10_stay_58 : decode cX10_stay 58 = .ok (.ixor, 1) := by decide +kernel
theorem dX10_stay_59 : decode cX10_stay 59 = .ok (.iand, 1) := by decide +kernel
theorem dX10_stay_60 : decode cX10_stay 60 = .ok (.ifCond .ne 45, 3) := by decide +kernel
theorem dX10_stay_63 : decode cX10_stay 63 = .ok (.iload 5, 2) := by decide +kernel
theorem dX10_stay_65 : decode cX10_stay 65 = .ok (.invokestatic 290, 3) := by decide +kernel
theorem dX10_stay_68 : decode cX10_stay 68 = .ok (.iload 4, 2) := by decide +kernel
theorem dX10_stay_70 : decode cX10_stay 70 = .ok (.if_icmp .ne 35, 3) := by decide +kernel
theorem dX10_stay_73 : decode cX10_stay 73 = .ok (.aload_n 0, 1) := by decide +kernel
theorem dX10_stay_74 : decode cX10_stay 74 = .ok (.getfield 56, 3) := by decide +kernel
theorem dX10_stay_77 : decode cX10_stay 77 = .ok (.iload_n 1, 1) := by decide +kernel
theorem dX10_stay_78 : decode cX10_stay 78 = .ok (.iload 5, 2) := by decide +kernel
theorem dX10_stay_80 : decode cX10_stay 80 = .ok (.iconst (-1), 1) := by decide +kernel
theorem dX10_stay_81 : decode cX10_stay 81 = .ok (.ixor, 1) := by decide +kernel
theorem dX10_stay_82 : decode cX10_stay 82 = .ok (.iand, 1) := by decide +kernel
theorem dX10_stay_83 : decode cX10_stay 83 = .ok (.iload_n 3, 1) := by decide +kernel
theorem dX10_stay_84 : decode cX10_stay 84 = .ok (.aload_n 0, 1) := by decide +kernel
theorem dX10_stay_85 : decode cX10_stay 85 = .ok (.getfield 32, 3) := by decide +kernel
theorem dX10_stay_88 : decode cX10_stay 88 = .ok (.iload 5, 2) := by decide +kernel
theorem dX10_stay_90 : decode cX10_stay 90 = .ok (.invokevirtual 307, 3) := by decide +kernel
theorem dX10_stay_93 : decode cX10_stay 93 = .ok (.iconst (-1), 1) := by decide +kernel
theorem dX10_stay_94 : decode cX10_stay 94 = .ok (.ixor, 1) := by decide +kernel
theorem dX10_stay_95 : decode cX10_stay 95 = .ok (.iand, 1) := by decide +kernel
theorem dX10_stay_96 : decode cX10_stay 96 = .ok (.invokevirtual 293, 3) := by decide +kernel
theorem dX10_stay_99 : decode cX10_stay 99 = .ok (.ifCond .eq 6, 3) := by decide +kernel
theorem dX10_stay_102 : decode cX10_stay 102 = .ok (.iload 5, 2) := by decide +kernel
theorem dX10_stay_104 : decode cX10_stay 104 = .ok (.ireturn, 1) := by decide +kernel
theorem dX10_stay_105 : decode cX10_stay 105 = .ok (.iinc 5 1, 3) := by decide +kernel
theorem dX10_stay_108 : decode cX10_stay 108 = .ok (.goto (-60), 3) := by decide +kernel
theorem dX10_stay_111 : decode cX10_stay 111 = .ok (.iinc 4 (-1), 3) := by decide +kernel
theorem dX10_stay_114 : decode cX10_stay 114 = .ok (.goto (-74), 3) := by decide +kernel
theorem dX10_stay_117 : decode cX10_stay 117 = .ok (.iconst (-1), 1) := by decide +kernel
theorem dX10_stay_118 : decode cX10_stay 118 = .ok (.ireturn, 1) := by decide +kernel
theorem dX10_likely_0 : decode cX10_likely 0 = .ok (.iload_n 1, 1) := by decide +kernel
theorem dX10_likely_1 : decode cX10_likely 1 = .ok (.invokestatic 287, 3) := by decide +kernel
theorem dX10_likely_4 : decode cX10_likely 4 = .ok (.ifCond .ne 7, 3) := by decide +kernel
theorem dX10_likely_7 : decode cX10_likely 7 = .ok (.ldc2_w 258, 3) := by decide +kernel
theorem dX10_likely_10 : decode cX10_likely 10 = .ok (.lreturn, 1) := by decide +kernel
theorem dX10_likely_11 : decode cX10_likely 11 = .ok (.aload_n 0, 1) := by decide +kernel
theorem dX10_likely_12 : decode cX10_likely 12 = .ok (.invokevirtual 260, 3) := by decide +kernel
theorem dX10_likely_15 : decode cX10_likely 15 = .ok (.iconst 2, 1) := by decide +kernel
theorem dX10_likely_16 : decode cX10_likely 16 = .ok (.iload_n 1, 1) := by decide +kernel
theorem dX10_likely_17 : decode cX10_likely 17 = .ok (.invokestatic 290, 3) := by decide +kernel
theorem dX10_likely_20 : decode cX10_likely 20 = .ok (.imul, 1) := by decide +kernel
theorem dX10_likely_21 : decode cX10_likely 21 = .ok (.istore_n 3, 1) := by decide +kernel
theorem dX10_likely_22 : decode cX10_likely 22 = .ok (.aload_n 0, 1) := by decide +kernel
theorem dX10_likely_23 : decode cX10_likely 23 = .ok (.getfield 56, 3) := by decide +kernel
theorem dX10_likely_26 : decode cX10_likely 26 = .ok (.iload_n 1, 1) := by decide +kernel
theorem dX10_likely_27 : decode cX10_likely 27 = .ok (.iload_n 3, 1) := by decide +kernel
theorem dX10_likely_28 : decode cX10_likely 28 = .ok (.invokestatic 263, 3) := by decide +kernel
theorem dX10_likely_31 : decode cX10_likely 31 = .ok (.invokevirtual 266, 3) := by decide +kernel
theorem dX10_likely_34 : decode cX10_likely 34 = .ok (.i2l, 1) := by decide +kernel
theorem dX10_likely_35 : decode cX10_likely 35 = .ok (.lstore 4, 2) := by decide +kernel
theorem dX10_likely_37 : decode cX10_likely 37 = .ok (.lload 4, 2) := by decide +kernel
theorem dX10_likely_39 : decode cX10_likely 39 = .ok (.lconst 0, 1) := by decide +kernel
theorem dX10_likely_40 : decode cX10_likely 40 = .ok (.lcmp, 1) := by decide +kernel
theorem dX10_likely_41 : decode cX10_likely 41 = .ok (.ifCond .ne 13, 3) := by decide +kernel
theorem dX10_likely_44 : decode cX10_likely 44 = .ok (.iload_n 2, 1) := by decide +kernel
theorem dX10_likely_45 : decode cX10_likely 45 = .ok (.ifCond .eq 7, 3) := by decide +kernel
theorem dX10_likely_48 : decode cX10_likely 48 = .ok (.lconst 1, 1) := by decide +kernel
theorem dX10_likely_49 : decode cX10_likely 49 = .ok (.goto 4, 3) := by decide +kernel
theorem dX10_likely_52 : decode cX10_likely 52 = .ok (.lconst 0, 1) := by decide +kernel
theorem dX10_likely_53 : decode cX10_likely 53 = .ok (.lreturn, 1) := by decide +kernel
theorem dX10_likely_54 : decode cX10_likely 54 = .ok (.aload_n 0, 1) := by decide +kernel
theorem dX10_likely_55 : decode cX10_likely 55 = .ok (.getfield 56, 3) := by decide +kernel
theorem dX10_likely_58 : decode cX10_likely 58 = .ok (.iload_n 1, 1) := by decide +kernel
theorem dX10_likely_59 : decode cX10_likely 59 = .ok (.iload_n 3, 1) := by decide +kernel
theorem dX10_likely_60 : decode cX10_likely 60 = .ok (.invokevirtual 310, 3) := by decide +kernel
theorem dX10_likely_63 : decode cX10_likely 63 = .ok (.lstore 6, 2) := by decide +kernel
theorem dX10_likely_65 : decode cX10_likely 65 = .ok (.lload 6, 2) := by decide +kernel
theorem dX10_likely_67 : decode cX10_likely 67 = .ok (.lload 4, 2) := by decide +kernel
theorem dX10_likely_69 : decode cX10_likely 69 = .ok (.invokestatic 314, 3) := by decide +kernel
theorem dX10_likely_72 : decode cX10_likely 72 = .ok (.lstore 8, 2) := by decide +kernel
theorem dX10_likely_74 : decode cX10_likely 74 = .ok (.lload 8, 2) := by decide +kernel
theorem dX10_likely_76 : decode cX10_likely 76 = .ok (.lconst 0, 1) := by decide +kernel
theorem dX10_likely_77 : decode cX10_likely 77 = .ok (.lcmp, 1) := by decide +kernel
theorem dX10_likely_78 : decode cX10_likely 78 = .ok (.ifCond .ne 9, 3) := by decide +kernel
theorem dX10_likely_81 : decode cX10_likely 81 = .ok (.ldc2_w 258, 3) := by decide +kernel
theorem dX10_likely_84 : decode cX10_likely 84 = .ok (.goto 17, 3) := by decide +kernel
theorem dX10_likely_87 : decode cX10_likely 87 = .ok (.iload_n 2, 1) := by decide +kernel
theorem dX10_likely_88 : decode cX10_likely 88 = .ok (.ifCond .eq 8, 3) := by decide +kernel
theorem dX10_likely_91 : decode cX10_likely 91 = .ok (.lload 6, 2) := by decide +kernel
theorem dX10_likely_93 : decode cX10_likely 93 = .ok (.goto 5, 3) := by decide +kernel
theorem dX10_likely_96 : decode cX10_likely 96 = .ok (.lload 4, 2) := by decide +kernel
theorem dX10_likely_98 : decode cX10_likely 98 = .ok (.lload 8, 2) := by decide +kernel
theorem dX10_likely_100 : decode cX10_likely 100 = .ok (.ldiv, 1) := by decide +kernel
theorem dX10_likely_101 : decode cX10_likely 101 = .ok (.lreturn, 1) := by decide +kernel
theorem dX10_most_0 : decode cX10_most 0 = .ok (.iload_n 1, 1) := by decide +kernel
theorem dX10_most_1 : decode cX10_most 1 = .ok (.iconst 1, 1) := by decide +kernel
theorem dX10_most_2 : decode cX10_most 2 = .ok (.if_icmp .lt 9, 3) := by decide +kernel
theorem dX10_most_5 : decode cX10_most 5 = .ok (.iload_n 1, 1) := by decide +kernel
theorem dX10_most_6 : decode cX10_most 6 = .ok (.bipush 16, 2) := by decide +kernel
theorem dX10_most_8 : decode cX10_most 8 = .ok (.if_icmp .le 5, 3) := by decide +kernel
theorem dX10_most_11 : decode cX10_most 11 = .ok (.iconst (-1), 1) := by decide +kernel
theorem dX10_most_12 : decode cX10_most 12 = .ok (.ireturn, 1) := by decide +kernel
theorem dX10_most_13 : decode cX10_most 13 = .ok (.aload_n 0, 1) := by decide +kernel
theorem dX10_most_14 : decode cX10_most 14 = .ok (.invokevirtual 260, 3) := by decide +kernel
theorem dX10_most_17 : decode cX10_most 17 = .ok (.aload_n 0, 1) := by decide +kernel
theorem dX10_most_18 : decode cX10_most 18 = .ok (.getfield 56, 3) := by decide +kernel
theorem dX10_most_21 : decode cX10_most 21 = .ok (.iload_n 1, 1) := by decide +kernel
theorem dX10_most_22 : decode cX10_most 22 = .ok (.invokestatic 263, 3) := by decide +kernel
theorem dX10_most_25 : decode cX10_most 25 = .ok (.invokevirtual 318, 3) := by decide +kernel
theorem dX10_most_28 : decode cX10_most 28 = .ok (.istore_n 3, 1) := by decide +kernel
theorem dX10_most_29 : decode cX10_most 29 = .ok (.iload_n 2, 1) := by decide +kernel
theorem dX10_most_30 : decode cX10_most 30 = .ok (.ifCond .eq 10, 3) := by decide +kernel
theorem dX10_most_33 : decode cX10_most 33 = .ok (.iload_n 3, 1) := by decide +kernel
theorem dX10_most_34 : decode cX10_most 34 = .ok (.invokestatic 290, 3) := by decide +kernel
theorem dX10_most_37 : decode cX10_most 37 = .ok (.goto 4, 3) := by decide +kernel
theorem dX10_most_40 : decode cX10_most 40 = .ok (.iload_n 3, 1) := by decide +kernel
theorem dX10_most_41 : decode cX10_most 41 = .ok (.ireturn, 1) := by decide +kernel
theorem dX10_game_0 : decode cX10_game 0 = .ok (.iload_n 1, 1) := by decide +kernel
theorem dX10_game_1 : decode cX10_game 1 = .ok (.iload_n 2, 1) := by decide +kernel
theorem dX10_game_2 : decode cX10_game 2 = .ok (.invokestatic 321, 3) := by decide +kernel
theorem dX10_game_5 : decode cX10_game 5 = .ok (.ifCond .ne 5, 3) := by decide +kernel
theorem dX10_game_8 : decode cX10_game 8 = .ok (.iconst (-1), 1) := by decide +kernel
theorem dX10_game_9 : decode cX10_game 9 = .ok (.ireturn, 1) := by decide +kernel
theorem dX10_game_10 : decode cX10_game 10 = .ok (.aload_n 0, 1) := by decide +kernel
theorem dX10_game_11 : decode cX10_game 11 = .ok (.invokevirtual 260, 3) := by decide +kernel
theorem dX10_game_14 : decode cX10_game 14 = .ok (.aload_n 0, 1) := by decide +kernel
theorem dX10_game_15 : decode cX10_game 15 = .ok (.getfield 56, 3) := by decide +kernel
theorem dX10_game_18 : decode cX10_game 18 = .ok (.iload_n 2, 1) := by decide +kernel
theorem dX10_game_19 : decode cX10_game 19 = .ok (.iload_n 1, 1) := by decide +kernel
theorem dX10_game_20 : decode cX10_game 20 = .ok (.invokestatic 263, 3) := by decide +kernel
theorem dX10_game_23 : decode cX10_game 23 = .ok (.invokevirtual 324, 3) := by decide +kernel
theorem dX10_game_26 : decode cX10_game 26 = .ok (.ifCond .eq 7, 3) := by decide +kernel
theorem dX10_game_29 : decode cX10_game 29 = .ok (.iconst 1, 1) := by decide +kernel
theorem dX10_game_30 : decode cX10_game 30 = .ok (.goto 4, 3) := by decide +kernel
theorem dX10_game_33 : decode cX10_game 33 = .ok (.iconst 0, 1) := by decide +kernel
theorem dX10_game_34 : decode cX10_game 34 = .ok (.ireturn, 1) := by decide +kernel
theorem dX10_play_0 : decode cX10_play 0 = .ok (.iload_n 1, 1) := by decide +kernel
theorem dX10_play_1 : decode cX10_play 1 = .ok (.iload_n 2, 1) := by decide +kernel
theorem dX10_play_2 : decode cX10_play 2 = .ok (.invokestatic 321, 3) := by decide +kernel
theorem dX10_play_5 : decode cX10_play 5 = .ok (.ifCond .ne 5, 3) := by decide +kernel
theorem dX10_play_8 : decode cX10_play 8 = .ok (.iconst (-1), 1) := by decide +kernel
theorem dX10_play_9 : decode cX10_play 9 = .ok (.ireturn, 1) := by decide +kernel
theorem dX10_play_10 : decode cX10_play 10 = .ok (.aload_n 0, 1) := by decide +kernel
theorem dX10_play_11 : decode cX10_play 11 = .ok (.invokevirtual 260, 3) := by decide +kernel
theorem dX10_play_14 : decode cX10_play 14 = .ok (.aload_n 0, 1) := by decide +kernel
theorem dX10_play_15 : decode cX10_play 15 = .ok (.getfield 56, 3) := by decide +kernel
theorem dX10_play_18 : decode cX10_play 18 = .ok (.iload_n 2, 1) := by decide +kernel
theorem dX10_play_19 : decode cX10_play 19 = .ok (.iload_n 1, 1) := by decide +kernel
theorem dX10_play_20 : decode cX10_play 20 = .ok (.invokestatic 263, 3) := by decide +kernel
theorem dX10_play_23 : decode cX10_play 23 = .ok (.invokevirtual 327, 3) := by decide +kernel
theorem dX10_play_26 : decode cX10_play 26 = .ok (.ireturn, 1) := by decide +kernel
theorem dX10_said_0 : decode cX10_said 0 = .ok (.iload_n 1, 1) := by decide +kernel
theorem dX10_said_1 : decode cX10_said 1 = .ok (.iconst (-1), 1) := by decide +kernel
theorem dX10_said_2 : decode cX10_said 2 = .ok (.if_icmp .ne 13, 3) := by decide +kernel
theorem dX10_said_5 : decode cX10_said 5 = .ok (.aload_n 0, 1) := by decide +kernel
theorem dX10_said_6 : decode cX10_said 6 = .ok (.getfield 49, 3) := by decide +kernel
theorem dX10_said_9 : decode cX10_said 9 = .ok (.iconst 0, 1) := by decide +kernel
theorem dX10_said_10 : decode cX10_said 10 = .ok (.putfield 330, 3) := by decide +kernel
theorem dX10_said_13 : decode cX10_said 13 = .ok (.iconst 0, 1) := by decide +kernel
theorem dX10_said_14 : decode cX10_said 14 = .ok (.ireturn, 1) := by decide +kernel
theorem dX10_said_15 : decode cX10_said 15 = .ok (.iload_n 1, 1) := by decide +kernel
theorem dX10_said_16 : decode cX10_said 16 = .ok (.invokestatic 180, 3) := by decide +kernel
theorem dX10_said_19 : decode cX10_said 19 = .ok (.ifCond .eq 25, 3) := by decide +kernel
theorem dX10_said_22 : decode cX10_said 22 = .ok (.iload_n 2, 1) := by decide +kernel
theorem dX10_said_23 : decode cX10_said 23 = .ok (.ifCond .lt 21, 3) := by decide +kernel
theorem dX10_said_26 : decode cX10_said 26 = .ok (.iload_n 2, 1) := by decide +kernel
theorem dX10_said_27 : decode cX10_said 27 = .ok (.bipush 14, 2) := by decide +kernel
theorem dX10_said_29 : decode cX10_said 29 = .ok (.if_icmp .gt 15, 3) := by decide +kernel
theorem dX10_said_32 : decode cX10_said 32 = .ok (.aload_n 0, 1) := by decide +kernel
theorem dX10_said_33 : decode cX10_said 33 = .ok (.getfield 49, 3) := by decide +kernel
theorem dX10_said_36 : decode cX10_said 36 = .ok (.iload_n 1, 1) := by decide +kernel
theorem dX10_said_37 : decode cX10_said 37 = .ok (.iload_n 2, 1) := by decide +kernel
theorem dX10_said_38 : decode cX10_said 38 = .ok (.invokevirtual 331, 3) := by decide +kernel
theorem dX10_said_41 : decode cX10_said 41 = .ok (.ifCond .ne 6, 3) := by decide +kernel
theorem dX10_said_44 : decode cX10_said 44 = .ok (.bipush (-2), 2) := by decide +kernel
theorem dX10_said_46 : decode cX10_said 46 = .ok (.ireturn, 1) := by decide +kernel
theorem dX10_said_47 : decode cX10_said 47 = .ok (.aload_n 0, 1) := by decide +kernel
theorem dX10_said_48 : decode cX10_said 48 = .ok (.getfield 49, 3) := by decide +kernel
theorem dX10_said_51 : decode cX10_said 51 = .ok (.getfield 330, 3) := by decide +kernel
theorem dX10_said_54 : decode cX10_said 54 = .ok (.ireturn, 1) := by decide +kernel
theorem dX10_whose_0 : decode cX10_whose 0 = .ok (.iconst 0, 1) := by decide +kernel
theorem dX10_whose_1 : decode cX10_whose 1 = .ok (.istore_n 1, 1) := by decide +kernel
theorem dX10_whose_2 : decode cX10_whose 2 = .ok (.iconst 0, 1) := by decide +kernel
theorem dX10_whose_3 : decode cX10_whose 3 = .ok (.istore_n 2, 1) := by decide +kernel
theorem dX10_whose_4 : decode cX10_whose 4 = .ok (.iload_n 2, 1) := by decide +kernel
theorem dX10_whose_5 : decode cX10_whose 5 = .ok (.aload_n 0, 1) := by decide +kernel
theorem dX10_whose_6 : decode cX10_whose 6 = .ok (.getfield 71, 3) := by decide +kernel
theorem dX10_whose_9 : decode cX10_whose 9 = .ok (.if_icmp .ge 27, 3) := by decide +kernel
theorem dX10_whose_12 : decode cX10_whose 12 = .ok (.aload_n 0, 1) := by decide +kernel
theorem dX10_whose_13 : decode cX10_whose 13 = .ok (.aload_n 0, 1) := by decide +kernel
theorem dX10_whose_14 : decode cX10_whose 14 = .ok (.iload_n 2, 1) := by decide +kernel
theorem dX10_whose_15 : decode cX10_whose 15 = .ok (.invokevirtual 99, 3) := by decide +kernel
theorem dX10_whose_18 : decode cX10_whose 18 = .ok (.invokevirtual 334, 3) := by decide +kernel
theorem dX10_whose_21 : decode cX10_whose 21 = .ok (.ifCond .eq 9, 3) := by decide +kernel
theorem dX10_whose_24 : decode cX10_whose 24 = .ok (.iload_n 1, 1) := by decide +kernel
theorem dX10_whose_25 : decode cX10_whose 25 = .ok (.iconst 1, 1) := by decide +kernel
theorem dX10_whose_26 : decode cX10_whose 26 = .ok (.iload_n 2, 1) := by decide +kernel
theorem dX10_whose_27 : decode cX10_whose 27 = .ok (.ishl, 1) := by decide +kernel
theorem dX10_whose_28 : decode cX10_whose 28 = .ok (.ior, 1) := by decide +kernel
theorem dX10_whose_29 : decode cX10_whose 29 = .ok (.istore_n 1, 1) := by decide +kernel
theorem dX10_whose_30 : decode cX10_whose 30 = .ok (.iinc 2 1, 3) := by decide +kernel
theorem dX10_whose_33 : decode cX10_whose 33 = .ok (.goto (-29), 3) := by decide +kernel
theorem dX10_whose_36 : decode cX10_whose 36 = .ok (.iload_n 1, 1) := by decide +kernel
theorem dX10_whose_37 : decode cX10_whose 37 = .ok (.ireturn, 1) := by decide +kernel
theorem dX10_image_0 : decode cX10_image 0 = .ok (.aload_n 0, 1) := by decide +kernel
theorem dX10_image_1 : decode cX10_image 1 = .ok (.getfield 63, 3) := by decide +kernel
theorem dX10_image_4 : decode cX10_image 4 = .ok (.aload_n 0, 1) := by decide +kernel
theorem dX10_image_5 : decode cX10_image 5 = .ok (.getfield 32, 3) := by decide +kernel
theorem dX10_image_8 : decode cX10_image 8 = .ok (.aload_n 0, 1) := by decide +kernel
theorem dX10_image_9 : decode cX10_image 9 = .ok (.getfield 42, 3) := by decide +kernel
theorem dX10_image_12 : decode cX10_image 12 = .ok (.aload_n 0, 1) := by decide +kernel
theorem dX10_image_13 : decode cX10_image 13 = .ok (.getfield 49, 3) := by decide +kernel
theorem dX10_image_16 : decode cX10_image 16 = .ok (.aload_n 0, 1) := by decide +kernel
theorem dX10_image_17 : decode cX10_image 17 = .ok (.getfield 71, 3) := by decide +kernel
theorem dX10_image_20 : decode cX10_image 20 = .ok (.aload_n 0, 1) := by decide +kernel
theorem dX10_image_21 : decode cX10_image 21 = .ok (.getfield 75, 3) := by decide +kernel
theorem dX10_image_24 : decode cX10_image 24 = .ok (.invokevirtual 338, 3) := by decide +kernel
theorem dX10_image_27 : decode cX10_image 27 = .ok (.aload_n 0, 1) := by decide +kernel
theorem dX10_image_28 : decode cX10_image 28 = .ok (.getfield 32, 3) := by decide +kernel
theorem dX10_image_31 : decode cX10_image 31 = .ok (.invokevirtual 144, 3) := by decide +kernel
theorem dX10_image_34 : decode cX10_image 34 = .ok (.ireturn, 1) := by decide +kernel
theorem dX10_back_0 : decode cX10_back 0 = .ok (.aload_n 0, 1) := by decide +kernel
theorem dX10_back_1 : decode cX10_back 1 = .ok (.getfield 63, 3) := by decide +kernel
theorem dX10_back_4 : decode cX10_back 4 = .ok (.aload_n 0, 1) := by decide +kernel
theorem dX10_back_5 : decode cX10_back 5 = .ok (.getfield 32, 3) := by decide +kernel
theorem dX10_back_8 : decode cX10_back 8 = .ok (.aload_n 0, 1) := by decide +kernel
theorem dX10_back_9 : decode cX10_back 9 = .ok (.getfield 42, 3) := by decide +kernel
theorem dX10_back_12 : decode cX10_back 12 = .ok (.aload_n 0, 1) := by decide +kernel
theorem dX10_back_13 : decode cX10_back 13 = .ok (.getfield 49, 3) := by decide +kernel
theorem dX10_back_16 : decode cX10_back 16 = .ok (.invokevirtual 342, 3) := by decide +kernel
theorem dX10_back_19 : decode cX10_back 19 = .ok (.aload_n 0, 1) := by decide +kernel
theorem dX10_back_20 : decode cX10_back 20 = .ok (.aload_n 0, 1) := by decide +kernel
theorem dX10_back_21 : decode cX10_back 21 = .ok (.getfield 63, 3) := by decide +kernel
theorem dX10_back_24 : decode cX10_back 24 = .ok (.getfield 346, 3) := by decide +kernel
theorem dX10_back_27 : decode cX10_back 27 = .ok (.putfield 71, 3) := by decide +kernel
theorem dX10_back_30 : decode cX10_back 30 = .ok (.aload_n 0, 1) := by decide +kernel
theorem dX10_back_31 : decode cX10_back 31 = .ok (.aload_n 0, 1) := by decide +kernel
theorem dX10_back_32 : decode cX10_back 32 = .ok (.getfield 63, 3) := by decide +kernel
theorem dX10_back_35 : decode cX10_back 35 = .ok (.getfield 347, 3) := by decide +kernel
theorem dX10_back_38 : decode cX10_back 38 = .ok (.putfield 75, 3) := by decide +kernel
theorem dX10_back_41 : decode cX10_back 41 = .ok (.aload_n 0, 1) := by decide +kernel
theorem dX10_back_42 : decode cX10_back 42 = .ok (.getfield 32, 3) := by decide +kernel
theorem dX10_back_45 : decode cX10_back 45 = .ok (.invokevirtual 144, 3) := by decide +kernel
theorem dX10_back_48 : decode cX10_back 48 = .ok (.ireturn, 1) := by decide +kernel
theorem dX10_about_0 : decode cX10_about 0 = .ok (.iload_n 1, 1) := by decide +kernel
theorem dX10_about_1 : decode cX10_about 1 = .ok (.tableswitch 69 0 4 #[35, 40, 45, 53, 61], 35) := by decide +kernel
theorem dX10_about_36 : decode cX10_about 36 = .ok (.aload_n 0, 1) := by decide +kernel
theorem dX10_about_37 : decode cX10_about 37 = .ok (.getfield 71, 3) := by decide +kernel
theorem dX10_about_40 : decode cX10_about 40 = .ok (.ireturn, 1) := by decide +kernel
theorem dX10_about_41 : decode cX10_about 41 = .ok (.aload_n 0, 1) := by decide +kernel
theorem dX10_about_42 : decode cX10_about 42 = .ok (.getfield 75, 3) := by decide +kernel
theorem dX10_about_45 : decode cX10_about 45 = .ok (.ireturn, 1) := by decide +kernel
theorem dX10_about_46 : decode cX10_about 46 = .ok (.aload_n 0, 1) := by decide +kernel
theorem dX10_about_47 : decode cX10_about 47 = .ok (.getfield 42, 3) := by decide +kernel
theorem dX10_about_50 : decode cX10_about 50 = .ok (.getfield 177, 3) := by decide +kernel
theorem dX10_about_53 : decode cX10_about 53 = .ok (.ireturn, 1) := by decide +kernel
theorem dX10_about_54 : decode cX10_about 54 = .ok (.aload_n 0, 1) := by decide +kernel
theorem dX10_about_55 : decode cX10_about 55 = .ok (.getfield 49, 3) := by decide +kernel
theorem dX10_about_58 : decode cX10_about 58 = .ok (.getfield 330, 3) := by decide +kernel
theorem dX10_about_61 : decode cX10_about 61 = .ok (.ireturn, 1) := by decide +kernel
theorem dX10_about_62 : decode cX10_about 62 = .ok (.aload_n 0, 1) := by decide +kernel
theorem dX10_about_63 : decode cX10_about 63 = .ok (.getfield 10, 3) := by decide +kernel
theorem dX10_about_66 : decode cX10_about 66 = .ok (.getfield 86, 3) := by decide +kernel
theorem dX10_about_69 : decode cX10_about 69 = .ok (.ireturn, 1) := by decide +kernel
theorem dX10_about_70 : decode cX10_about 70 = .ok (.bipush (-2), 2) := by decide +kernel
theorem dX10_about_72 : decode cX10_about 72 = .ok (.ireturn, 1) := by decide +kernel
theorem dX10_isNumber_0 : decode cX10_isNumber 0 = .ok (.iload_n 0, 1) := by decide +kernel
theorem dX10_isNumber_1 : decode cX10_isNumber 1 = .ok (.iconst 1, 1) := by decide +kernel
theorem dX10_isNumber_2 : decode cX10_isNumber 2 = .ok (.if_icmp .lt 13, 3) := by decide +kernel
theorem dX10_isNumber_5 : decode cX10_isNumber 5 = .ok (.iload_n 0, 1) := by decide +kernel
theorem dX10_isNumber_6 : decode cX10_isNumber 6 = .ok (.bipush 8, 2) := by decide +kernel
theorem dX10_isNumber_8 : decode cX10_isNumber 8 = .ok (.if_icmp .gt 7, 3) := by decide +kernel
theorem dX10_isNumber_11 : decode cX10_isNumber 11 = .ok (.iconst 1, 1) := by decide +kernel
theorem dX10_isNumber_12 : decode cX10_isNumber 12 = .ok (.goto 4, 3) := by decide +kernel
theorem dX10_isNumber_15 : decode cX10_isNumber 15 = .ok (.iconst 0, 1) := by decide +kernel
theorem dX10_isNumber_16 : decode cX10_isNumber 16 = .ok (.ireturn, 1) := by decide +kernel
theorem dX10_isSet_0 : decode cX10_isSet 0 = .ok (.iload_n 0, 1) := by decide +kernel
theorem dX10_isSet_1 : decode cX10_isSet 1 = .ok (.ifCond .lt 14, 3) := by decide +kernel
theorem dX10_isSet_4 : decode cX10_isSet 4 = .ok (.iload_n 0, 1) := by decide +kernel
theorem dX10_isSet_5 : decode cX10_isSet 5 = .ok (.sipush 255, 3) := by decide +kernel
theorem dX10_isSet_8 : decode cX10_isSet 8 = .ok (.if_icmp .gt 7, 3) := by decide +kernel
theorem dX10_isSet_11 : decode cX10_isSet 11 = .ok (.iconst 1, 1) := by decide +kernel
theorem dX10_isSet_12 : decode cX10_isSet 12 = .ok (.goto 4, 3) := by decide +kernel
theorem dX10_isSet_15 : decode cX10_isSet 15 = .ok (.iconst 0, 1) := by decide +kernel
theorem dX10_isSet_16 : decode cX10_isSet 16 = .ok (.ireturn, 1) := by decide +kernel
theorem dX10_isGame_0 : decode cX10_isGame 0 = .ok (.iload_n 0, 1) := by decide +kernel
theorem dX10_isGame_1 : decode cX10_isGame 1 = .ok (.iconst 1, 1) := by decide +kernel
theorem dX10_isGame_2 : decode cX10_isGame 2 = .ok (.if_icmp .lt 28, 3) := by decide +kernel
theorem dX10_isGame_5 : decode cX10_isGame 5 = .ok (.iload_n 0, 1) := by decide +kernel
theorem dX10_isGame_6 : decode cX10_isGame 6 = .ok (.bipush 10, 2) := by decide +kernel
theorem dX10_isGame_8 : decode cX10_isGame 8 = .ok (.if_icmp .gt 22, 3) := by decide +kernel
theorem dX10_isGame_11 : decode cX10_isGame 11 = .ok (.iload_n 1, 1) := by decide +kernel
theorem dX10_isGame_12 : decode cX10_isGame 12 = .ok (.invokestatic 287, 3) := by decide +kernel
theorem dX10_isGame_15 : decode cX10_isGame 15 = .ok (.ifCond .eq 15, 3) := by decide +kernel
theorem dX10_isGame_18 : decode cX10_isGame 18 = .ok (.iload_n 1, 1) := by decide +kernel
theorem dX10_isGame_19 : decode cX10_isGame 19 = .ok (.invokestatic 290, 3) := by decide +kernel
theorem dX10_isGame_22 : decode cX10_isGame 22 = .ok (.iconst 5, 1) := by decide +kernel
theorem dX10_isGame_23 : decode cX10_isGame 23 = .ok (.if_icmp .gt 7, 3) := by decide +kernel
theorem dX10_isGame_26 : decode cX10_isGame 26 = .ok (.iconst 1, 1) := by decide +kernel
theorem dX10_isGame_27 : decode cX10_isGame 27 = .ok (.goto 4, 3) := by decide +kernel
theorem dX10_isGame_30 : decode cX10_isGame 30 = .ok (.iconst 0, 1) := by decide +kernel
theorem dX10_isGame_31 : decode cX10_isGame 31 = .ok (.ireturn, 1) := by decide +kernel
theorem dX10_scriptOf_0 : decode cX10_scriptOf 0 = .ok (.iload_n 1, 1) := by decide +kernel
theorem dX10_scriptOf_1 : decode cX10_scriptOf 1 = .ok (.ifCond .lt 25, 3) := by decide +kernel
theorem dX10_scriptOf_4 : decode cX10_scriptOf 4 = .ok (.iload_n 1, 1) := by decide +kernel
theorem dX10_scriptOf_5 : decode cX10_scriptOf 5 = .ok (.aload_n 0, 1) := by decide +kernel
theorem dX10_scriptOf_6 : decode cX10_scriptOf 6 = .ok (.getfield 71, 3) := by decide +kernel
theorem dX10_scriptOf_9 : decode cX10_scriptOf 9 = .ok (.if_icmp .ge 17, 3) := by decide +kernel
theorem dX10_scriptOf_12 : decode cX10_scriptOf 12 = .ok (.iload_n 1, 1) := by decide +kernel
theorem dX10_scriptOf_13 : decode cX10_scriptOf 13 = .ok (.iconst 4, 1) := by decide +kernel
theorem dX10_scriptOf_14 : decode cX10_scriptOf 14 = .ok (.if_icmp .ge 12, 3) := by decide +kernel
theorem dX10_scriptOf_17 : decode cX10_scriptOf 17 = .ok (.aload_n 0, 1) := by decide +kernel
theorem dX10_scriptOf_18 : decode cX10_scriptOf 18 = .ok (.getfield 25, 3) := by decide +kernel
theorem dX10_scriptOf_21 : decode cX10_scriptOf 21 = .ok (.iload_n 1, 1) := by decide +kernel
theorem dX10_scriptOf_22 : decode cX10_scriptOf 22 = .ok (.aaload, 1) := by decide +kernel
theorem dX10_scriptOf_23 : decode cX10_scriptOf 23 = .ok (.goto 4, 3) := by decide +kernel
theorem dX10_scriptOf_26 : decode cX10_scriptOf 26 = .ok (.aconst_null, 1) := by decide +kernel
theorem dX10_scriptOf_27 : decode cX10_scriptOf 27 = .ok (.areturn, 1) := by decide +kernel
theorem dX10_rowPlaces_0 : decode cX10_rowPlaces 0 = .ok (.iload_n 0, 1) := by decide +kernel
theorem dX10_rowPlaces_1 : decode cX10_rowPlaces 1 = .ok (.invokestatic 287, 3) := by decide +kernel
theorem dX10_rowPlaces_4 : decode cX10_rowPlaces 4 = .ok (.ifCond .eq 13, 3) := by decide +kernel
theorem dX10_rowPlaces_7 : decode cX10_rowPlaces 7 = .ok (.iload_n 1, 1) := by decide +kernel
theorem dX10_rowPlaces_8 : decode cX10_rowPlaces 8 = .ok (.ifCond .lt 9, 3) := by decide +kernel
theorem dX10_rowPlaces_11 : decode cX10_rowPlaces 11 = .ok (.iload_n 1, 1) := by decide +kernel
theorem dX10_rowPlaces_12 : decode cX10_rowPlaces 12 = .ok (.bipush 16, 2) := by decide +kernel
theorem dX10_rowPlaces_14 : decode cX10_rowPlaces 14 = .ok (.if_icmp .le 5, 3) := by decide +kernel
theorem dX10_rowPlaces_17 : decode cX10_rowPlaces 17 = .ok (.iconst (-1), 1) := by decide +kernel
theorem dX10_rowPlaces_18 : decode cX10_rowPlaces 18 = .ok (.ireturn, 1) := by decide +kernel
theorem dX10_rowPlaces_19 : decode cX10_rowPlaces 19 = .ok (.iconst 2, 1) := by decide +kernel
theorem dX10_rowPlaces_20 : decode cX10_rowPlaces 20 = .ok (.iload_n 0, 1) := by decide +kernel
theorem dX10_rowPlaces_21 : decode cX10_rowPlaces 21 = .ok (.invokestatic 290, 3) := by decide +kernel
theorem dX10_rowPlaces_24 : decode cX10_rowPlaces 24 = .ok (.imul, 1) := by decide +kernel
theorem dX10_rowPlaces_25 : decode cX10_rowPlaces 25 = .ok (.iload_n 1, 1) := by decide +kernel
theorem dX10_rowPlaces_26 : decode cX10_rowPlaces 26 = .ok (.iadd, 1) := by decide +kernel
theorem dX10_rowPlaces_27 : decode cX10_rowPlaces 27 = .ok (.istore_n 2, 1) := by decide +kernel
theorem dX10_rowPlaces_28 : decode cX10_rowPlaces 28 = .ok (.iload_n 2, 1) := by decide +kernel
theorem dX10_rowPlaces_29 : decode cX10_rowPlaces 29 = .ok (.bipush 16, 2) := by decide +kernel
theorem dX10_rowPlaces_31 : decode cX10_rowPlaces 31 = .ok (.if_icmp .le 7, 3) := by decide +kernel
theorem dX10_rowPlaces_34 : decode cX10_rowPlaces 34 = .ok (.iconst (-1), 1) := by decide +kernel
theorem dX10_rowPlaces_35 : decode cX10_rowPlaces 35 = .ok (.goto 4, 3) := by decide +kernel
theorem dX10_rowPlaces_38 : decode cX10_rowPlaces 38 = .ok (.iload_n 2, 1) := by decide +kernel
theorem dX10_rowPlaces_39 : decode cX10_rowPlaces 39 = .ok (.ireturn, 1) := by decide +kernel
theorem dX10_allOf_0 : decode cX10_allOf 0 = .ok (.iconst 1, 1) := by decide +kernel
theorem dX10_allOf_1 : decode cX10_allOf 1 = .ok (.iload_n 0, 1) := by decide +kernel
theorem dX10_allOf_2 : decode cX10_allOf 2 = .ok (.ishl, 1) := by decide +kernel
theorem dX10_allOf_3 : decode cX10_allOf 3 = .ok (.iconst 1, 1) := by decide +kernel
theorem dX10_allOf_4 : decode cX10_allOf 4 = .ok (.isub, 1) := by decide +kernel
theorem dX10_allOf_5 : decode cX10_allOf 5 = .ok (.ireturn, 1) := by decide +kernel
theorem dX10_bitOf_0 : decode cX10_bitOf 0 = .ok (.iconst 1, 1) := by decide +kernel
theorem dX10_bitOf_1 : decode cX10_bitOf 1 = .ok (.iload_n 0, 1) := by decide +kernel
theorem dX10_bitOf_2 : decode cX10_bitOf 2 = .ok (.iconst 1, 1) := by decide +kernel
theorem dX10_bitOf_3 : decode cX10_bitOf 3 = .ok (.isub, 1) := by decide +kernel
theorem dX10_bitOf_4 : decode cX10_bitOf 4 = .ok (.ishl, 1) := by decide +kernel
theorem dX10_bitOf_5 : decode cX10_bitOf 5 = .ok (.ireturn, 1) := by decide +kernel
theorem dX10_within_0 : decode cX10_within 0 = .ok (.lload_n 0, 1) := by decide +kernel
theorem dX10_within_1 : decode cX10_within 1 = .ok (.iload_n 2, 1) := by decide +kernel
theorem dX10_within_2 : decode cX10_within 2 = .ok (.i2l, 1) := by decide +kernel
theorem dX10_within_3 : decode cX10_within 3 = .ok (.lcmp, 1) := by decide +kernel
theorem dX10_within_4 : decode cX10_within 4 = .ok (.ifCond .ge 7, 3) := by decide +kernel
theorem dX10_within_7 : decode cX10_within 7 = .ok (.iload_n 2, 1) := by decide +kernel
theorem dX10_within_8 : decode cX10_within 8 = .ok (.goto 16, 3) := by decide +kernel
theorem dX10_within_11 : decode cX10_within 11 = .ok (.lload_n 0, 1) := by decide +kernel
theorem dX10_within_12 : decode cX10_within 12 = .ok (.iload_n 3, 1) := by decide +kernel
theorem dX10_within_13 : decode cX10_within 13 = .ok (.i2l, 1) := by decide +kernel
theorem dX10_within_14 : decode cX10_within 14 = .ok (.lcmp, 1) := by decide +kernel
theorem dX10_within_15 : decode cX10_within 15 = .ok (.ifCond .le 7, 3) := by decide +kernel
theorem dX10_within_18 : decode cX10_within 18 = .ok (.iload_n 3, 1) := by decide +kernel
theorem dX10_within_19 : decode cX10_within 19 = .ok (.goto 5, 3) := by decide +kernel
theorem dX10_within_22 : decode cX10_within 22 = .ok (.lload_n 0, 1) := by decide +kernel
theorem dX10_within_23 : decode cX10_within 23 = .ok (.l2i, 1) := by decide +kernel
theorem dX10_within_24 : decode cX10_within 24 = .ok (.ireturn, 1) := by decide +kernel
theorem dX10_commonDivisor_0 : decode cX10_commonDivisor 0 = .ok (.lload_n 0, 1) := by decide +kernel
theorem dX10_commonDivisor_1 : decode cX10_commonDivisor 1 = .ok (.lstore 4, 2) := by decide +kernel
theorem dX10_commonDivisor_3 : decode cX10_commonDivisor 3 = .ok (.lload_n 2, 1) := by decide +kernel
theorem dX10_commonDivisor_4 : decode cX10_commonDivisor 4 = .ok (.lstore 6, 2) := by decide +kernel
theorem dX10_commonDivisor_6 : decode cX10_commonDivisor 6 = .ok (.iconst 0, 1) := by decide +kernel
theorem dX10_commonDivisor_7 : decode cX10_commonDivisor 7 = .ok (.istore 8, 2) := by decide +kernel
theorem dX10_commonDivisor_9 : decode cX10_commonDivisor 9 = .ok (.iload 8, 2) := by decide +kernel
theorem dX10_commonDivisor_11 : decode cX10_commonDivisor 11 = .ok (.sipush 200, 3) := by decide +kernel
theorem dX10_commonDivisor_14 : decode cX10_commonDivisor 14 = .ok (.if_icmp .ge 31, 3) := by decide +kernel
theorem dX10_commonDivisor_17 : decode cX10_commonDivisor 17 = .ok (.lload 6, 2) := by decide +kernel
theorem dX10_commonDivisor_19 : decode cX10_commonDivisor 19 = .ok (.lconst 0, 1) := by decide +kernel
theorem dX10_commonDivisor_20 : decode cX10_commonDivisor 20 = .ok (.lcmp, 1) := by decide +kernel
theorem dX10_commonDivisor_21 : decode cX10_commonDivisor 21 = .ok (.ifCond .eq 24, 3) := by decide +kernel
theorem dX10_commonDivisor_24 : decode cX10_commonDivisor 24 = .ok (.lload 4, 2) := by decide +kernel
theorem dX10_commonDivisor_26 : decode cX10_commonDivisor 26 = .ok (.lload 6, 2) := by decide +kernel
theorem dX10_commonDivisor_28 : decode cX10_commonDivisor 28 = .ok (.lrem, 1) := by decide +kernel
theorem dX10_commonDivisor_29 : decode cX10_commonDivisor 29 = .ok (.lstore 9, 2) := by decide +kernel
theorem dX10_commonDivisor_31 : decode cX10_commonDivisor 31 = .ok (.lload 6, 2) := by decide +kernel
theorem dX10_commonDivisor_33 : decode cX10_commonDivisor 33 = .ok (.lstore 4, 2) := by decide +kernel
theorem dX10_commonDivisor_35 : decode cX10_commonDivisor 35 = .ok (.lload 9, 2) := by decide +kernel
theorem dX10_commonDivisor_37 : decode cX10_commonDivisor 37 = .ok (.lstore 6, 2) := by decide +kernel
theorem dX10_commonDivisor_39 : decode cX10_commonDivisor 39 = .ok (.iinc 8 1, 3) := by decide +kernel
theorem dX10_commonDivisor_42 : decode cX10_commonDivisor 42 = .ok (.goto (-33), 3) := by decide +kernel
theorem dX10_commonDivisor_45 : decode cX10_commonDivisor 45 = .ok (.lload 4, 2) := by decide +kernel
theorem dX10_commonDivisor_47 : decode cX10_commonDivisor 47 = .ok (.lreturn, 1) := by decide +kernel
theorem dX10_betweenBy_0 : decode cX10_betweenBy 0 = .ok (.aload_n 1, 1) := by decide +kernel
theorem dX10_betweenBy_1 : decode cX10_betweenBy 1 = .ok (.ifnull 10, 3) := by decide +kernel
theorem dX10_betweenBy_4 : decode cX10_betweenBy 4 = .ok (.aload_n 1, 1) := by decide +kernel
theorem dX10_betweenBy_5 : decode cX10_betweenBy 5 = .ok (.getfield 348, 3) := by decide +kernel
theorem dX10_betweenBy_8 : decode cX10_betweenBy 8 = .ok (.ifnonnull 5, 3) := by decide +kernel
theorem dX10_betweenBy_11 : decode cX10_betweenBy 11 = .ok (.iload_n 2, 1) := by decide +kernel
theorem dX10_betweenBy_12 : decode cX10_betweenBy 12 = .ok (.ireturn, 1) := by decide +kernel
theorem dX10_betweenBy_13 : decode cX10_betweenBy 13 = .ok (.aload_n 1, 1) := by decide +kernel
theorem dX10_betweenBy_14 : decode cX10_betweenBy 14 = .ok (.getfield 348, 3) := by decide +kernel
theorem dX10_betweenBy_17 : decode cX10_betweenBy 17 = .ok (.aload_n 0, 1) := by decide +kernel
theorem dX10_betweenBy_18 : decode cX10_betweenBy 18 = .ok (.getfield 32, 3) := by decide +kernel
theorem dX10_betweenBy_21 : decode cX10_betweenBy 21 = .ok (.iload_n 2, 1) := by decide +kernel
theorem dX10_betweenBy_22 : decode cX10_betweenBy 22 = .ok (.aload_n 0, 1) := by decide +kernel
theorem dX10_betweenBy_23 : decode cX10_betweenBy 23 = .ok (.getfield 67, 3) := by decide +kernel
theorem dX10_betweenBy_26 : decode cX10_betweenBy 26 = .ok (.invokevirtual 352, 3) := by decide +kernel
theorem dX10_betweenBy_29 : decode cX10_betweenBy 29 = .ok (.i2l, 1) := by decide +kernel
theorem dX10_betweenBy_30 : decode cX10_betweenBy 30 = .ok (.iconst 0, 1) := by decide +kernel
theorem dX10_betweenBy_31 : decode cX10_betweenBy 31 = .ok (.bipush 14, 2) := by decide +kernel
theorem dX10_betweenBy_33 : decode cX10_betweenBy 33 = .ok (.invokestatic 358, 3) := by decide +kernel
theorem dX10_betweenBy_36 : decode cX10_betweenBy 36 = .ok (.ireturn, 1) := by decide +kernel
theorem dX10_tiresOf_0 : decode cX10_tiresOf 0 = .ok (.aload_n 0, 1) := by decide +kernel
theorem dX10_tiresOf_1 : decode cX10_tiresOf 1 = .ok (.aload_n 0, 1) := by decide +kernel
theorem dX10_tiresOf_2 : decode cX10_tiresOf 2 = .ok (.getfield 75, 3) := by decide +kernel
theorem dX10_tiresOf_5 : decode cX10_tiresOf 5 = .ok (.invokevirtual 99, 3) := by decide +kernel
theorem dX10_tiresOf_8 : decode cX10_tiresOf 8 = .ok (.astore_n 2, 1) := by decide +kernel
theorem dX10_tiresOf_9 : decode cX10_tiresOf 9 = .ok (.aload_n 2, 1) := by decide +kernel
theorem dX10_tiresOf_10 : decode cX10_tiresOf 10 = .ok (.ifnull 10, 3) := by decide +kernel
theorem dX10_tiresOf_13 : decode cX10_tiresOf 13 = .ok (.aload_n 2, 1) := by decide +kernel
theorem dX10_tiresOf_14 : decode cX10_tiresOf 14 = .ok (.getfield 362, 3) := by decide +kernel
theorem dX10_tiresOf_17 : decode cX10_tiresOf 17 = .ok (.ifnonnull 5, 3) := by decide +kernel
theorem dX10_tiresOf_20 : decode cX10_tiresOf 20 = .ok (.iconst 1, 1) := by decide +kernel
theorem dX10_tiresOf_21 : decode cX10_tiresOf 21 = .ok (.ireturn, 1) := by decide +kernel
theorem dX10_tiresOf_22 : decode cX10_tiresOf 22 = .ok (.aload_n 2, 1) := by decide +kernel
theorem dX10_tiresOf_23 : decode cX10_tiresOf 23 = .ok (.getfield 362, 3) := by decide +kernel
theorem dX10_tiresOf_26 : decode cX10_tiresOf 26 = .ok (.aload_n 0, 1) := by decide +kernel
theorem dX10_tiresOf_27 : decode cX10_tiresOf 27 = .ok (.getfield 32, 3) := by decide +kernel
theorem dX10_tiresOf_30 : decode cX10_tiresOf 30 = .ok (.iload_n 1, 1) := by decide +kernel
theorem dX10_tiresOf_31 : decode cX10_tiresOf 31 = .ok (.aload_n 0, 1) := by decide +kernel
theorem dX10_tiresOf_32 : decode cX10_tiresOf 32 = .ok (.getfield 67, 3) := by decide +kernel
theorem dX10_tiresOf_35 : decode cX10_tiresOf 35 = .ok (.invokevirtual 352, 3) := by decide +kernel
theorem dX10_tiresOf_38 : decode cX10_tiresOf 38 = .ok (.i2l, 1) := by decide +kernel
theorem dX10_tiresOf_39 : decode cX10_tiresOf 39 = .ok (.iconst 0, 1) := by decide +kernel
theorem dX10_tiresOf_40 : decode cX10_tiresOf 40 = .ok (.bipush 10, 2) := by decide +kernel
theorem dX10_tiresOf_42 : decode cX10_tiresOf 42 = .ok (.invokestatic 358, 3) := by decide +kernel
theorem dX10_tiresOf_45 : decode cX10_tiresOf 45 = .ok (.ireturn, 1) := by decide +kernel
theorem dX10_measure_0 : decode cX10_measure 0 = .ok (.aload_n 0, 1) := by decide +kernel
theorem dX10_measure_1 : decode cX10_measure 1 = .ok (.aload_n 0, 1) := by decide +kernel
theorem dX10_measure_2 : decode cX10_measure 2 = .ok (.getfield 75, 3) := by decide +kernel
theorem dX10_measure_5 : decode cX10_measure 5 = .ok (.invokevirtual 99, 3) := by decide +kernel
theorem dX10_measure_8 : decode cX10_measure 8 = .ok (.astore_n 1, 1) := by decide +kernel
theorem dX10_measure_9 : decode cX10_measure 9 = .ok (.iconst 1, 1) := by decide +kernel
theorem dX10_measure_10 : decode cX10_measure 10 = .ok (.istore_n 2, 1) := by decide +kernel
theorem dX10_measure_11 : decode cX10_measure 11 = .ok (.iload_n 2, 1) := by decide +kernel
theorem dX10_measure_12 : decode cX10_measure 12 = .ok (.bipush 8, 2) := by decide +kernel
theorem dX10_measure_14 : decode cX10_measure 14 = .ok (.if_icmp .gt 23, 3) := by decide +kernel
theorem dX10_measure_17 : decode cX10_measure 17 = .ok (.aload_n 0, 1) := by decide +kernel
theorem dX10_measure_18 : decode cX10_measure 18 = .ok (.getfield 56, 3) := by decide +kernel
theorem dX10_measure_21 : decode cX10_measure 21 = .ok (.iload_n 2, 1) := by decide +kernel
theorem dX10_measure_22 : decode cX10_measure 22 = .ok (.aload_n 0, 1) := by decide +kernel
theorem dX10_measure_23 : decode cX10_measure 23 = .ok (.aload_n 1, 1) := by decide +kernel
theorem dX10_measure_24 : decode cX10_measure 24 = .ok (.iload_n 2, 1) := by decide +kernel
theorem dX10_measure_25 : decode cX10_measure 25 = .ok (.invokevirtual 193, 3) := by decide +kernel
theorem dX10_measure_28 : decode cX10_measure 28 = .ok (.invokevirtual 365, 3) := by decide +kernel
theorem dX10_measure_31 : decode cX10_measure 31 = .ok (.iinc 2 1, 3) := by decide +kernel
theorem dX10_measure_34 : decode cX10_measure 34 = .ok (.goto (-23), 3) := by decide +kernel
theorem dX10_measure_37 : decode cX10_measure 37 = .ok (.aload_n 0, 1) := by decide +kernel
theorem dX10_measure_38 : decode cX10_measure 38 = .ok (.getfield 56, 3) := by decide +kernel
theorem dX10_measure_41 : decode cX10_measure 41 = .ok (.invokevirtual 368, 3) := by decide +kernel
theorem dX10_measure_44 : decode cX10_measure 44 = .ok (.return_, 1) := by decide +kernel
theorem dX10_saysAll_0 : decode cX10_saysAll 0 = .ok (.iconst 0, 1) := by decide +kernel
theorem dX10_saysAll_1 : decode cX10_saysAll 1 = .ok (.istore_n 2, 1) := by decide +kernel
theorem dX10_saysAll_2 : decode cX10_saysAll 2 = .ok (.iload_n 2, 1) := by decide +kernel
theorem dX10_saysAll_3 : decode cX10_saysAll 3 = .ok (.aload_n 0, 1) := by decide +kernel
theorem dX10_saysAll_4 : decode cX10_saysAll 4 = .ok (.getfield 49, 3) := by decide +kernel
theorem dX10_saysAll_7 : decode cX10_saysAll 7 = .ok (.getfield 330, 3) := by decide +kernel
theorem dX10_saysAll_10 : decode cX10_saysAll 10 = .ok (.if_icmp .ge 35, 3) := by decide +kernel
theorem dX10_saysAll_13 : decode cX10_saysAll 13 = .ok (.aload_n 0, 1) := by decide +kernel
theorem dX10_saysAll_14 : decode cX10_saysAll 14 = .ok (.aload_n 1, 1) := by decide +kernel
theorem dX10_saysAll_15 : decode cX10_saysAll 15 = .ok (.aload_n 0, 1) := by decide +kernel
theorem dX10_saysAll_16 : decode cX10_saysAll 16 = .ok (.getfield 49, 3) := by decide +kernel
theorem dX10_saysAll_19 : decode cX10_saysAll 19 = .ok (.iload_n 2, 1) := by decide +kernel
theorem dX10_saysAll_20 : decode cX10_saysAll 20 = .ok (.invokevirtual 371, 3) := by decide +kernel
theorem dX10_saysAll_23 : decode cX10_saysAll 23 = .ok (.invokevirtual 193, 3) := by decide +kernel
theorem dX10_saysAll_26 : decode cX10_saysAll 26 = .ok (.aload_n 0, 1) := by decide +kernel
theorem dX10_saysAll_27 : decode cX10_saysAll 27 = .ok (.getfield 49, 3) := by decide +kernel
theorem dX10_saysAll_30 : decode cX10_saysAll 30 = .ok (.iload_n 2, 1) := by decide +kernel
theorem dX10_saysAll_31 : decode cX10_saysAll 31 = .ok (.invokevirtual 374, 3) := by decide +kernel
theorem dX10_saysAll_34 : decode cX10_saysAll 34 = .ok (.if_icmp .eq 5, 3) := by decide +kernel
theorem dX10_saysAll_37 : decode cX10_saysAll 37 = .ok (.iconst 0, 1) := by decide +kernel
theorem dX10_saysAll_38 : decode cX10_saysAll 38 = .ok (.ireturn, 1) := by decide +kernel
theorem dX10_saysAll_39 : decode cX10_saysAll 39 = .ok (.iinc 2 1, 3) := by decide +kernel
theorem dX10_saysAll_42 : decode cX10_saysAll 42 = .ok (.goto (-40), 3) := by decide +kernel
theorem dX10_saysAll_45 : decode cX10_saysAll 45 = .ok (.iconst 1, 1) := by decide +kernel
theorem dX10_saysAll_46 : decode cX10_saysAll 46 = .ok (.ireturn, 1) := by decide +kernel
theorem dX10_secondPlace_0 : decode cX10_secondPlace 0 = .ok (.iload_n 1, 1) := by decide +kernel
theorem dX10_secondPlace_1 : decode cX10_secondPlace 1 = .ok (.invokestatic 180, 3) := by decide +kernel
theorem dX10_secondPlace_4 : decode cX10_secondPlace 4 = .ok (.ifCond .eq 29, 3) := by decide +kernel
theorem dX10_secondPlace_7 : decode cX10_secondPlace 7 = .ok (.aload_n 0, 1) := by decide +kernel
theorem dX10_secondPlace_8 : decode cX10_secondPlace 8 = .ok (.getfield 32, 3) := by decide +kernel
theorem dX10_secondPlace_11 : decode cX10_secondPlace 11 = .ok (.iload_n 1, 1) := by decide +kernel
theorem dX10_secondPlace_12 : decode cX10_secondPlace 12 = .ok (.invokevirtual 125, 3) := by decide +kernel
theorem dX10_secondPlace_15 : decode cX10_secondPlace 15 = .ok (.ifCond .ne 18, 3) := by decide +kernel
theorem dX10_secondPlace_18 : decode cX10_secondPlace 18 = .ok (.iload_n 2, 1) := by decide +kernel
theorem dX10_secondPlace_19 : decode cX10_secondPlace 19 = .ok (.ifCond .lt 14, 3) := by decide +kernel
theorem dX10_secondPlace_22 : decode cX10_secondPlace 22 = .ok (.iload_n 2, 1) := by decide +kernel
theorem dX10_secondPlace_23 : decode cX10_secondPlace 23 = .ok (.aload_n 0, 1) := by decide +kernel
theorem dX10_secondPlace_24 : decode cX10_secondPlace 24 = .ok (.getfield 32, 3) := by decide +kernel
theorem dX10_secondPlace_27 : decode cX10_secondPlace 27 = .ok (.invokevirtual 103, 3) := by decide +kernel
theorem dX10_secondPlace_30 : decode cX10_secondPlace 30 = .ok (.if_icmp .lt 5, 3) := by decide +kernel
theorem dX10_secondPlace_33 : decode cX10_secondPlace 33 = .ok (.iconst (-1), 1) := by decide +kernel
theorem dX10_secondPlace_34 : decode cX10_secondPlace 34 = .ok (.ireturn, 1) := by decide +kernel
theorem dX10_secondPlace_35 : decode cX10_secondPlace 35 = .ok (.iload_n 2, 1) := by decide +kernel
theorem dX10_secondPlace_36 : decode cX10_secondPlace 36 = .ok (.aload_n 0, 1) := by decide +kernel
theorem dX10_secondPlace_37 : decode cX10_secondPlace 37 = .ok (.aload_n 0, 1) := by decide +kernel
theorem dX10_secondPlace_38 : decode cX10_secondPlace 38 = .ok (.aload_n 0, 1) := by decide +kernel
theorem dX10_secondPlace_39 : decode cX10_secondPlace 39 = .ok (.getfield 75, 3) := by decide +kernel
theorem dX10_secondPlace_42 : decode cX10_secondPlace 42 = .ok (.invokevirtual 99, 3) := by decide +kernel
theorem dX10_secondPlace_45 : decode cX10_secondPlace 45 = .ok (.iload_n 1, 1) := by decide +kernel
theorem dX10_secondPlace_46 : decode cX10_secondPlace 46 = .ok (.invokevirtual 193, 3) := by decide +kernel
theorem dX10_secondPlace_49 : decode cX10_secondPlace 49 = .ok (.iadd, 1) := by decide +kernel
theorem dX10_secondPlace_50 : decode cX10_secondPlace 50 = .ok (.iconst 1, 1) := by decide +kernel
theorem dX10_secondPlace_51 : decode cX10_secondPlace 51 = .ok (.iadd, 1) := by decide +kernel
theorem dX10_secondPlace_52 : decode cX10_secondPlace 52 = .ok (.istore_n 3, 1) := by decide +kernel
theorem dX10_secondPlace_53 : decode cX10_secondPlace 53 = .ok (.iload_n 3, 1) := by decide +kernel
theorem dX10_secondPlace_54 : decode cX10_secondPlace 54 = .ok (.aload_n 0, 1) := by decide +kernel
theorem dX10_secondPlace_55 : decode cX10_secondPlace 55 = .ok (.getfield 32, 3) := by decide +kernel
theorem dX10_secondPlace_58 : decode cX10_secondPlace 58 = .ok (.invokevirtual 103, 3) := by decide +kernel
theorem dX10_secondPlace_61 : decode cX10_secondPlace 61 = .ok (.if_icmp .ge 21, 3) := by decide +kernel
theorem dX10_secondPlace_64 : decode cX10_secondPlace 64 = .ok (.aload_n 0, 1) := by decide +kernel
theorem dX10_secondPlace_65 : decode cX10_secondPlace 65 = .ok (.getfield 32, 3) := by decide +kernel
theorem dX10_secondPlace_68 : decode cX10_secondPlace 68 = .ok (.invokevirtual 107, 3) := by decide +kernel
theorem dX10_secondPlace_71 : decode cX10_secondPlace 71 = .ok (.iconst 1, 1) := by decide +kernel
theorem dX10_secondPlace_72 : decode cX10_secondPlace 72 = .ok (.iload_n 2, 1) := by decide +kernel
theorem dX10_secondPlace_73 : decode cX10_secondPlace 73 = .ok (.ishl, 1) := by decide +kernel
theorem dX10_secondPlace_74 : decode cX10_secondPlace 74 = .ok (.iconst 1, 1) := by decide +kernel
theorem dX10_secondPlace_75 : decode cX10_secondPlace 75 = .ok (.iload_n 3, 1) := by decide +kernel
theorem dX10_secondPlace_76 : decode cX10_secondPlace 76 = .ok (.ishl, 1) := by decide +kernel
theorem dX10_secondPlace_77 : decode cX10_secondPlace 77 = .ok (.ior, 1) := by decide +kernel
theorem dX10_secondPlace_78 : decode cX10_secondPlace 78 = .ok (.iand, 1) := by decide +kernel
theorem dX10_secondPlace_79 : decode cX10_secondPlace 79 = .ok (.ifCond .eq 5, 3) := by decide +kernel
theorem dX10_secondPlace_82 : decode cX10_secondPlace 82 = .ok (.iconst (-1), 1) := by decide +kernel
theorem dX10_secondPlace_83 : decode cX10_secondPlace 83 = .ok (.ireturn, 1) := by decide +kernel
theorem dX10_secondPlace_84 : decode cX10_secondPlace 84 = .ok (.iload_n 3, 1) := by decide +kernel
theorem dX10_secondPlace_85 : decode cX10_secondPlace 85 = .ok (.ireturn, 1) := by decide +kernel
theorem dX10_passDays_0 : decode cX10_passDays 0 = .ok (.iconst 0, 1) := by decide +kernel
theorem dX10_passDays_1 : decode cX10_passDays 1 = .ok (.istore_n 2, 1) := by decide +kernel
theorem dX10_passDays_2 : decode cX10_passDays 2 = .ok (.iload_n 2, 1) := by decide +kernel
theorem dX10_passDays_3 : decode cX10_passDays 3 = .ok (.iload_n 1, 1) := by decide +kernel
theorem dX10_passDays_4 : decode cX10_passDays 4 = .ok (.if_icmp .ge 39, 3) := by decide +kernel
theorem dX10_passDays_7 : decode cX10_passDays 7 = .ok (.aload_n 0, 1) := by decide +kernel
theorem dX10_passDays_8 : decode cX10_passDays 8 = .ok (.getfield 32, 3) := by decide +kernel
theorem dX10_passDays_11 : decode cX10_passDays 11 = .ok (.invokevirtual 144, 3) := by decide +kernel
theorem dX10_passDays_14 : decode cX10_passDays 14 = .ok (.sipush 9999, 3) := by decide +kernel
theorem dX10_passDays_17 : decode cX10_passDays 17 = .ok (.if_icmp .lt 5, 3) := by decide +kernel
theorem dX10_passDays_20 : decode cX10_passDays 20 = .ok (.iconst 0, 1) := by decide +kernel
theorem dX10_passDays_21 : decode cX10_passDays 21 = .ok (.ireturn, 1) := by decide +kernel
theorem dX10_passDays_22 : decode cX10_passDays 22 = .ok (.aload_n 0, 1) := by decide +kernel
theorem dX10_passDays_23 : decode cX10_passDays 23 = .ok (.getfield 42, 3) := by decide +kernel
theorem dX10_passDays_26 : decode cX10_passDays 26 = .ok (.aload_n 0, 1) := by decide +kernel
theorem dX10_passDays_27 : decode cX10_passDays 27 = .ok (.getfield 32, 3) := by decide +kernel
theorem dX10_passDays_30 : decode cX10_passDays 30 = .ok (.invokevirtual 110, 3) := by decide +kernel
theorem dX10_passDays_33 : decode cX10_passDays 33 = .ok (.aload_n 0, 1) := by decide +kernel
theorem dX10_passDays_34 : decode cX10_passDays 34 = .ok (.invokevirtual 252, 3) := by decide +kernel
theorem dX10_passDays_37 : decode cX10_passDays 37 = .ok (.iinc 2 1, 3) := by decide +kernel
theorem dX10_passDays_40 : decode cX10_passDays 40 = .ok (.goto (-38), 3) := by decide +kernel
theorem dX10_passDays_43 : decode cX10_passDays 43 = .ok (.iconst 1, 1) := by decide +kernel
theorem dX10_passDays_44 : decode cX10_passDays 44 = .ok (.ireturn, 1) := by decide +kernel
theorem dX10_passDay_0 : decode cX10_passDay 0 = .ok (.iconst 1, 1) := by decide +kernel
theorem dX10_passDay_1 : decode cX10_passDay 1 = .ok (.istore_n 1, 1) := by decide +kernel
theorem dX10_passDay_2 : decode cX10_passDay 2 = .ok (.iload_n 1, 1) := by decide +kernel
theorem dX10_passDay_3 : decode cX10_passDay 3 = .ok (.bipush 8, 2) := by decide +kernel
theorem dX10_passDay_5 : decode cX10_passDay 5 = .ok (.if_icmp .gt 55, 3) := by decide +kernel
theorem dX10_passDay_8 : decode cX10_passDay 8 = .ok (.aload_n 0, 1) := by decide +kernel
theorem dX10_passDay_9 : decode cX10_passDay 9 = .ok (.getfield 32, 3) := by decide +kernel
theorem dX10_passDay_12 : decode cX10_passDay 12 = .ok (.iload_n 1, 1) := by decide +kernel
theorem dX10_passDay_13 : decode cX10_passDay 13 = .ok (.invokevirtual 125, 3) := by decide +kernel
theorem dX10_passDay_16 : decode cX10_passDay 16 = .ok (.ifCond .eq 38, 3) := by decide +kernel
theorem dX10_passDay_19 : decode cX10_passDay 19 = .ok (.aload_n 0, 1) := by decide +kernel
theorem dX10_passDay_20 : decode cX10_passDay 20 = .ok (.getfield 32, 3) := by decide +kernel
theorem dX10_passDay_23 : decode cX10_passDay 23 = .ok (.iload_n 1, 1) := by decide +kernel
theorem dX10_passDay_24 : decode cX10_passDay 24 = .ok (.invokevirtual 376, 3) := by decide +kernel
theorem dX10_passDay_27 : decode cX10_passDay 27 = .ok (.aload_n 0, 1) := by decide +kernel
theorem dX10_passDay_28 : decode cX10_passDay 28 = .ok (.getfield 32, 3) := by decide +kernel
theorem dX10_passDay_31 : decode cX10_passDay 31 = .ok (.invokevirtual 167, 3) := by decide +kernel
theorem dX10_passDay_34 : decode cX10_passDay 34 = .ok (.bipush 10, 2) := by decide +kernel
theorem dX10_passDay_36 : decode cX10_passDay 36 = .ok (.irem, 1) := by decide +kernel
theorem dX10_passDay_37 : decode cX10_passDay 37 = .ok (.aload_n 0, 1) := by decide +kernel
theorem dX10_passDay_38 : decode cX10_passDay 38 = .ok (.iload_n 1, 1) := by decide +kernel
theorem dX10_passDay_39 : decode cX10_passDay 39 = .ok (.invokevirtual 197, 3) := by decide +kernel
theorem dX10_passDay_42 : decode cX10_passDay 42 = .ok (.if_icmp .ge 12, 3) := by decide +kernel
theorem dX10_passDay_45 : decode cX10_passDay 45 = .ok (.aload_n 0, 1) := by decide +kernel
theorem dX10_passDay_46 : decode cX10_passDay 46 = .ok (.getfield 32, 3) := by decide +kernel
theorem dX10_passDay_49 : decode cX10_passDay 49 = .ok (.iload_n 1, 1) := by decide +kernel
theorem dX10_passDay_50 : decode cX10_passDay 50 = .ok (.iconst 2, 1) := by decide +kernel
theorem dX10_passDay_51 : decode cX10_passDay 51 = .ok (.invokevirtual 128, 3) := by decide +kernel
theorem dX10_passDay_54 : decode cX10_passDay 54 = .ok (.iinc 1 1, 3) := by decide +kernel
theorem dX10_passDay_57 : decode cX10_passDay 57 = .ok (.goto (-55), 3) := by decide +kernel
theorem dX10_passDay_60 : decode cX10_passDay 60 = .ok (.aload_n 0, 1) := by decide +kernel
theorem dX10_passDay_61 : decode cX10_passDay 61 = .ok (.getfield 32, 3) := by decide +kernel
theorem dX10_passDay_64 : decode cX10_passDay 64 = .ok (.invokevirtual 379, 3) := by decide +kernel
theorem dX10_passDay_67 : decode cX10_passDay 67 = .ok (.return_, 1) := by decide +kernel
theorem dX10_carriedOut_0 : decode cX10_carriedOut 0 = .ok (.iload_n 1, 1) := by decide +kernel
theorem dX10_carriedOut_1 : decode cX10_carriedOut 1 = .ok (.tableswitch 83 5 9 #[41, 57, 63, 77, 35], 35) := by decide +kernel
theorem dX10_carriedOut_36 : decode cX10_carriedOut 36 = .ok (.aload_n 0, 1) := by decide +kernel
theorem dX10_carriedOut_37 : decode cX10_carriedOut 37 = .ok (.iload_n 2, 1) := by decide +kernel
theorem dX10_carriedOut_38 : decode cX10_carriedOut 38 = .ok (.invokevirtual 382, 3) := by decide +kernel
theorem dX10_carriedOut_41 : decode cX10_carriedOut 41 = .ok (.ireturn, 1) := by decide +kernel
theorem dX10_carriedOut_42 : decode cX10_carriedOut 42 = .ok (.aload_n 0, 1) := by decide +kernel
theorem dX10_carriedOut_43 : decode cX10_carriedOut 43 = .ok (.iload_n 2, 1) := by decide +kernel
theorem dX10_carriedOut_44 : decode cX10_carriedOut 44 = .ok (.iload_n 3, 1) := by decide +kernel
theorem dX10_carriedOut_45 : decode cX10_carriedOut 45 = .ok (.invokevirtual 385, 3) := by decide +kernel
theorem dX10_carriedOut_48 : decode cX10_carriedOut 48 = .ok (.iconst (-1), 1) := by decide +kernel
theorem dX10_carriedOut_49 : decode cX10_carriedOut 49 = .ok (.if_icmp .eq 7, 3) := by decide +kernel
theorem dX10_carriedOut_52 : decode cX10_carriedOut 52 = .ok (.iconst 1, 1) := by decide +kernel
theorem dX10_carriedOut_53 : decode cX10_carriedOut 53 = .ok (.goto 4, 3) := by decide +kernel
theorem dX10_carriedOut_56 : decode cX10_carriedOut 56 = .ok (.iconst 0, 1) := by decide +kernel
theorem dX10_carriedOut_57 : decode cX10_carriedOut 57 = .ok (.ireturn, 1) := by decide +kernel
theorem dX10_carriedOut_58 : decode cX10_carriedOut 58 = .ok (.aload_n 0, 1) := by decide +kernel
theorem dX10_carriedOut_59 : decode cX10_carriedOut 59 = .ok (.iload_n 2, 1) := by decide +kernel
theorem dX10_carriedOut_60 : decode cX10_carriedOut 60 = .ok (.invokevirtual 388, 3) := by decide +kernel
theorem dX10_carriedOut_63 : decode cX10_carriedOut 63 = .ok (.ireturn, 1) := by decide +kernel
theorem dX10_carriedOut_64 : decode cX10_carriedOut 64 = .ok (.aload_n 0, 1) := by decide +kernel
theorem dX10_carriedOut_65 : decode cX10_carriedOut 65 = .ok (.invokevirtual 391, 3) := by decide +kernel
theorem dX10_carriedOut_68 : decode cX10_carriedOut 68 = .ok (.iconst (-1), 1) := by decide +kernel
theorem dX10_carriedOut_69 : decode cX10_carriedOut 69 = .ok (.if_icmp .eq 7, 3) := by decide +kernel
theorem dX10_carriedOut_72 : decode cX10_carriedOut 72 = .ok (.iconst 1, 1) := by decide +kernel
theorem dX10_carriedOut_73 : decode cX10_carriedOut 73 = .ok (.goto 4, 3) := by decide +kernel
theorem dX10_carriedOut_76 : decode cX10_carriedOut 76 = .ok (.iconst 0, 1) := by decide +kernel
theorem dX10_carriedOut_77 : decode cX10_carriedOut 77 = .ok (.ireturn, 1) := by decide +kernel
theorem dX10_carriedOut_78 : decode cX10_carriedOut 78 = .ok (.aload_n 0, 1) := by decide +kernel
theorem dX10_carriedOut_79 : decode cX10_carriedOut 79 = .ok (.iload_n 2, 1) := by decide +kernel
theorem dX10_carriedOut_80 : decode cX10_carriedOut 80 = .ok (.invokevirtual 147, 3) := by decide +kernel
theorem dX10_carriedOut_83 : decode cX10_carriedOut 83 = .ok (.ireturn, 1) := by decide +kernel
theorem dX10_carriedOut_84 : decode cX10_carriedOut 84 = .ok (.iconst 1, 1) := by decide +kernel
theorem dX10_carriedOut_85 : decode cX10_carriedOut 85 = .ok (.ireturn, 1) := by decide +kernel
theorem dX10_happen_0 : decode cX10_happen 0 = .ok (.iconst 1, 1) := by decide +kernel
theorem dX10_happen_1 : decode cX10_happen 1 = .ok (.iload_n 1, 1) := by decide +kernel
theorem dX10_happen_2 : decode cX10_happen 2 = .ok (.bipush 6, 2) := by decide +kernel
theorem dX10_happen_4 : decode cX10_happen 4 = .ok (.idiv, 1) := by decide +kernel
theorem dX10_happen_5 : decode cX10_happen 5 = .ok (.bipush 8, 2) := by decide +kernel
theorem dX10_happen_7 : decode cX10_happen 7 = .ok (.irem, 1) := by decide +kernel
theorem dX10_happen_8 : decode cX10_happen 8 = .ok (.iadd, 1) := by decide +kernel
theorem dX10_happen_9 : decode cX10_happen 9 = .ok (.istore_n 2, 1) := by decide +kernel
theorem dX10_happen_10 : decode cX10_happen 10 = .ok (.iload_n 1, 1) := by decide +kernel
theorem dX10_happen_11 : decode cX10_happen 11 = .ok (.bipush 16, 2) := by decide +kernel
theorem dX10_happen_13 : decode cX10_happen 13 = .ok (.irem, 1) := by decide +kernel
theorem dX10_happen_14 : decode cX10_happen 14 = .ok (.istore_n 3, 1) := by decide +kernel
theorem dX10_happen_15 : decode cX10_happen 15 = .ok (.iload_n 1, 1) := by decide +kernel
theorem dX10_happen_16 : decode cX10_happen 16 = .ok (.bipush 6, 2) := by decide +kernel
theorem dX10_happen_18 : decode cX10_happen 18 = .ok (.irem, 1) := by decide +kernel
theorem dX10_happen_19 : decode cX10_happen 19 = .ok (.tableswitch 103 0 3 #[29, 29, 57, 86], 29) := by decide +kernel
theorem dX10_happen_48 : decode cX10_happen 48 = .ok (.aload_n 0, 1) := by decide +kernel
theorem dX10_happen_49 : decode cX10_happen 49 = .ok (.iload_n 2, 1) := by decide +kernel
theorem dX10_happen_50 : decode cX10_happen 50 = .ok (.iload_n 3, 1) := by decide +kernel
theorem dX10_happen_51 : decode cX10_happen 51 = .ok (.invokevirtual 117, 3) := by decide +kernel
theorem dX10_happen_54 : decode cX10_happen 54 = .ok (.istore 4, 2) := by decide +kernel
theorem dX10_happen_56 : decode cX10_happen 56 = .ok (.iload 4, 2) := by decide +kernel
theorem dX10_happen_58 : decode cX10_happen 58 = .ok (.iconst (-1), 1) := by decide +kernel
theorem dX10_happen_59 : decode cX10_happen 59 = .ok (.if_icmp .eq 80, 3) := by decide +kernel
theorem dX10_happen_62 : decode cX10_happen 62 = .ok (.aload_n 0, 1) := by decide +kernel
theorem dX10_happen_63 : decode cX10_happen 63 = .ok (.getfield 32, 3) := by decide +kernel
theorem dX10_happen_66 : decode cX10_happen 66 = .ok (.iload_n 2, 1) := by decide +kernel
theorem dX10_happen_67 : decode cX10_happen 67 = .ok (.iload_n 3, 1) := by decide +kernel
theorem dX10_happen_68 : decode cX10_happen 68 = .ok (.iload 4, 2) := by decide +kernel
theorem dX10_happen_70 : decode cX10_happen 70 = .ok (.invokevirtual 121, 3) := by decide +kernel
theorem dX10_happen_73 : decode cX10_happen 73 = .ok (.goto 66, 3) := by decide +kernel
theorem dX10_happen_76 : decode cX10_happen 76 = .ok (.iload_n 1, 1) := by decide +kernel
theorem dX10_happen_77 : decode cX10_happen 77 = .ok (.iconst 4, 1) := by decide +kernel
theorem dX10_happen_78 : decode cX10_happen 78 = .ok (.irem, 1) := by decide +kernel
theorem dX10_happen_79 : decode cX10_happen 79 = .ok (.ifCond .ne 60, 3) := by decide +kernel
theorem dX10_happen_82 : decode cX10_happen 82 = .ok (.aload_n 0, 1) := by decide +kernel
theorem dX10_happen_83 : decode cX10_happen 83 = .ok (.getfield 32, 3) := by decide +kernel
theorem dX10_happen_86 : decode cX10_happen 86 = .ok (.iload_n 2, 1) := by decide +kernel
theorem dX10_happen_87 : decode cX10_happen 87 = .ok (.invokevirtual 125, 3) := by decide +kernel
theorem dX10_happen_90 : decode cX10_happen 90 = .ok (.ifCond .eq 49, 3) := by decide +kernel
theorem dX10_happen_93 : decode cX10_happen 93 = .ok (.aload_n 0, 1) := by decide +kernel
theorem dX10_happen_94 : decode cX10_happen 94 = .ok (.getfield 32, 3) := by decide +kernel
theorem dX10_happen_97 : decode cX10_happen 97 = .ok (.iload_n 2, 1) := by decide +kernel
theorem dX10_happen_98 : decode cX10_happen 98 = .ok (.iconst 1, 1) := by decide +kernel
theorem dX10_happen_99 : decode cX10_happen 99 = .ok (.invokevirtual 128, 3) := by decide +kernel
theorem dX10_happen_102 : decode cX10_happen 102 = .ok (.goto 37, 3) := by decide +kernel
theorem dX10_happen_105 : decode cX10_happen 105 = .ok (.iload_n 1, 1) := by decide +kernel
theorem dX10_happen_106 : decode cX10_happen 106 = .ok (.iconst 4, 1) := by decide +kernel
theorem dX10_happen_107 : decode cX10_happen 107 = .ok (.irem, 1) := by decide +kernel
theorem dX10_happen_108 : decode cX10_happen 108 = .ok (.iconst 1, 1) := by decide +kernel
theorem dX10_happen_109 : decode cX10_happen 109 = .ok (.if_icmp .ne 30, 3) := by decide +kernel
theorem dX10_happen_112 : decode cX10_happen 112 = .ok (.aload_n 0, 1) := by decide +kernel
theorem dX10_happen_113 : decode cX10_happen 113 = .ok (.getfield 32, 3) := by decide +kernel
theorem dX10_happen_116 : decode cX10_happen 116 = .ok (.invokevirtual 135, 3) := by decide +kernel
theorem dX10_happen_119 : decode cX10_happen 119 = .ok (.goto 20, 3) := by decide +kernel
theorem dX10_happen_122 : decode cX10_happen 122 = .ok (.aload_n 0, 1) := by decide +kernel
theorem dX10_happen_123 : decode cX10_happen 123 = .ok (.getfield 32, 3) := by decide +kernel
theorem dX10_happen_126 : decode cX10_happen 126 = .ok (.invokevirtual 144, 3) := by decide +kernel
theorem dX10_happen_129 : decode cX10_happen 129 = .ok (.sipush 9999, 3) := by decide +kernel
theorem dX10_happen_132 : decode cX10_happen 132 = .ok (.if_icmp .ge 7, 3) := by decide +kernel
theorem dX10_happen_135 : decode cX10_happen 135 = .ok (.aload_n 0, 1) := by decide +kernel
theorem dX10_happen_136 : decode cX10_happen 136 = .ok (.invokevirtual 252, 3) := by decide +kernel
theorem dX10_happen_139 : decode cX10_happen 139 = .ok (.return_, 1) := by decide +kernel
