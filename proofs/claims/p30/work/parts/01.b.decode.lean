theorem dX0_init_0 : decode cX0_init 0 = .ok (.aload_n 0, 1) := by decide +kernel
theorem dX0_init_1 : decode cX0_init 1 = .ok (.invokespecial 3, 3) := by decide +kernel
theorem dX0_init_4 : decode cX0_init 4 = .ok (.aload_n 0, 1) := by decide +kernel
theorem dX0_init_5 : decode cX0_init 5 = .ok (.new 9, 3) := by decide +kernel
theorem dX0_init_8 : decode cX0_init 8 = .ok (.dup, 1) := by decide +kernel
theorem dX0_init_9 : decode cX0_init 9 = .ok (.invokespecial 11, 3) := by decide +kernel
theorem dX0_init_12 : decode cX0_init 12 = .ok (.putfield 12, 3) := by decide +kernel
theorem dX0_init_15 : decode cX0_init 15 = .ok (.return_, 1) := by decide +kernel
theorem dX0_sizeFor_0 : decode cX0_sizeFor 0 = .ok (.aload_n 0, 1) := by decide +kernel
theorem dX0_sizeFor_1 : decode cX0_sizeFor 1 = .ok (.iconst 0, 1) := by decide +kernel
theorem dX0_sizeFor_2 : decode cX0_sizeFor 2 = .ok (.putfield 18, 3) := by decide +kernel
theorem dX0_sizeFor_5 : decode cX0_sizeFor 5 = .ok (.aload_n 0, 1) := by decide +kernel
theorem dX0_sizeFor_6 : decode cX0_sizeFor 6 = .ok (.iconst 0, 1) := by decide +kernel
theorem dX0_sizeFor_7 : decode cX0_sizeFor 7 = .ok (.putfield 22, 3) := by decide +kernel
theorem dX0_sizeFor_10 : decode cX0_sizeFor 10 = .ok (.aload_n 2, 1) := by decide +kernel
theorem dX0_sizeFor_11 : decode cX0_sizeFor 11 = .ok (.aload_n 1, 1) := by decide +kernel
theorem dX0_sizeFor_12 : decode cX0_sizeFor 12 = .ok (.invokevirtual 25, 3) := by decide +kernel
theorem dX0_sizeFor_15 : decode cX0_sizeFor 15 = .ok (.aload_n 2, 1) := by decide +kernel
theorem dX0_sizeFor_16 : decode cX0_sizeFor 16 = .ok (.iload_n 3, 1) := by decide +kernel
theorem dX0_sizeFor_17 : decode cX0_sizeFor 17 = .ok (.invokevirtual 31, 3) := by decide +kernel
theorem dX0_sizeFor_20 : decode cX0_sizeFor 20 = .ok (.ifCond .ne 5, 3) := by decide +kernel
theorem dX0_sizeFor_23 : decode cX0_sizeFor 23 = .ok (.iconst 0, 1) := by decide +kernel
theorem dX0_sizeFor_24 : decode cX0_sizeFor 24 = .ok (.ireturn, 1) := by decide +kernel
theorem dX0_sizeFor_25 : decode cX0_sizeFor 25 = .ok (.aload_n 2, 1) := by decide +kernel
theorem dX0_sizeFor_26 : decode cX0_sizeFor 26 = .ok (.iload_n 3, 1) := by decide +kernel
theorem dX0_sizeFor_27 : decode cX0_sizeFor 27 = .ok (.invokevirtual 35, 3) := by decide +kernel
theorem dX0_sizeFor_30 : decode cX0_sizeFor 30 = .ok (.pop, 1) := by decide +kernel
theorem dX0_sizeFor_31 : decode cX0_sizeFor 31 = .ok (.aload_n 0, 1) := by decide +kernel
theorem dX0_sizeFor_32 : decode cX0_sizeFor 32 = .ok (.aload_n 1, 1) := by decide +kernel
theorem dX0_sizeFor_33 : decode cX0_sizeFor 33 = .ok (.aload_n 2, 1) := by decide +kernel
theorem dX0_sizeFor_34 : decode cX0_sizeFor 34 = .ok (.iload_n 3, 1) := by decide +kernel
theorem dX0_sizeFor_35 : decode cX0_sizeFor 35 = .ok (.invokevirtual 39, 3) := by decide +kernel
theorem dX0_sizeFor_38 : decode cX0_sizeFor 38 = .ok (.ifCond .eq 5, 3) := by decide +kernel
theorem dX0_sizeFor_41 : decode cX0_sizeFor 41 = .ok (.iconst 1, 1) := by decide +kernel
theorem dX0_sizeFor_42 : decode cX0_sizeFor 42 = .ok (.ireturn, 1) := by decide +kernel
theorem dX0_sizeFor_43 : decode cX0_sizeFor 43 = .ok (.aload_n 0, 1) := by decide +kernel
theorem dX0_sizeFor_44 : decode cX0_sizeFor 44 = .ok (.aload_n 1, 1) := by decide +kernel
theorem dX0_sizeFor_45 : decode cX0_sizeFor 45 = .ok (.aload_n 2, 1) := by decide +kernel
theorem dX0_sizeFor_46 : decode cX0_sizeFor 46 = .ok (.iload_n 3, 1) := by decide +kernel
theorem dX0_sizeFor_47 : decode cX0_sizeFor 47 = .ok (.invokevirtual 43, 3) := by decide +kernel
theorem dX0_sizeFor_50 : decode cX0_sizeFor 50 = .ok (.ifCond .eq 7, 3) := by decide +kernel
theorem dX0_sizeFor_53 : decode cX0_sizeFor 53 = .ok (.iconst 2, 1) := by decide +kernel
theorem dX0_sizeFor_54 : decode cX0_sizeFor 54 = .ok (.goto 5, 3) := by decide +kernel
theorem dX0_sizeFor_57 : decode cX0_sizeFor 57 = .ok (.bipush (-9), 2) := by decide +kernel
theorem dX0_sizeFor_59 : decode cX0_sizeFor 59 = .ok (.ireturn, 1) := by decide +kernel
theorem dX0_findOne_0 : decode cX0_findOne 0 = .ok (.iconst 0, 1) := by decide +kernel
theorem dX0_findOne_1 : decode cX0_findOne 1 = .ok (.istore 4, 2) := by decide +kernel
theorem dX0_findOne_3 : decode cX0_findOne 3 = .ok (.iload 4, 2) := by decide +kernel
theorem dX0_findOne_5 : decode cX0_findOne 5 = .ok (.sipush 196, 3) := by decide +kernel
theorem dX0_findOne_8 : decode cX0_findOne 8 = .ok (.if_icmp .ge 48, 3) := by decide +kernel
theorem dX0_findOne_11 : decode cX0_findOne 11 = .ok (.aload_n 1, 1) := by decide +kernel
theorem dX0_findOne_12 : decode cX0_findOne 12 = .ok (.iload 4, 2) := by decide +kernel
theorem dX0_findOne_14 : decode cX0_findOne 14 = .ok (.invokevirtual 46, 3) := by decide +kernel
theorem dX0_findOne_17 : decode cX0_findOne 17 = .ok (.ifCond .eq 33, 3) := by decide +kernel
theorem dX0_findOne_20 : decode cX0_findOne 20 = .ok (.aload_n 2, 1) := by decide +kernel
theorem dX0_findOne_21 : decode cX0_findOne 21 = .ok (.iload 4, 2) := by decide +kernel
theorem dX0_findOne_23 : decode cX0_findOne 23 = .ok (.invokevirtual 49, 3) := by decide +kernel
theorem dX0_findOne_26 : decode cX0_findOne 26 = .ok (.ifCond .eq 24, 3) := by decide +kernel
theorem dX0_findOne_29 : decode cX0_findOne 29 = .ok (.aload_n 0, 1) := by decide +kernel
theorem dX0_findOne_30 : decode cX0_findOne 30 = .ok (.aload_n 1, 1) := by decide +kernel
theorem dX0_findOne_31 : decode cX0_findOne 31 = .ok (.iload 4, 2) := by decide +kernel
theorem dX0_findOne_33 : decode cX0_findOne 33 = .ok (.iload 4, 2) := by decide +kernel
theorem dX0_findOne_35 : decode cX0_findOne 35 = .ok (.iload_n 3, 1) := by decide +kernel
theorem dX0_findOne_36 : decode cX0_findOne 36 = .ok (.invokevirtual 52, 3) := by decide +kernel
theorem dX0_findOne_39 : decode cX0_findOne 39 = .ok (.ifCond .eq 11, 3) := by decide +kernel
theorem dX0_findOne_42 : decode cX0_findOne 42 = .ok (.aload_n 0, 1) := by decide +kernel
theorem dX0_findOne_43 : decode cX0_findOne 43 = .ok (.iload 4, 2) := by decide +kernel
theorem dX0_findOne_45 : decode cX0_findOne 45 = .ok (.putfield 18, 3) := by decide +kernel
theorem dX0_findOne_48 : decode cX0_findOne 48 = .ok (.iconst 1, 1) := by decide +kernel
theorem dX0_findOne_49 : decode cX0_findOne 49 = .ok (.ireturn, 1) := by decide +kernel
theorem dX0_findOne_50 : decode cX0_findOne 50 = .ok (.iinc 4 1, 3) := by decide +kernel
theorem dX0_findOne_53 : decode cX0_findOne 53 = .ok (.goto (-50), 3) := by decide +kernel
theorem dX0_findOne_56 : decode cX0_findOne 56 = .ok (.iconst 0, 1) := by decide +kernel
theorem dX0_findOne_57 : decode cX0_findOne 57 = .ok (.ireturn, 1) := by decide +kernel
theorem dX0_findTwo_0 : decode cX0_findTwo 0 = .ok (.iconst 0, 1) := by decide +kernel
theorem dX0_findTwo_1 : decode cX0_findTwo 1 = .ok (.istore 4, 2) := by decide +kernel
theorem dX0_findTwo_3 : decode cX0_findTwo 3 = .ok (.iload 4, 2) := by decide +kernel
theorem dX0_findTwo_5 : decode cX0_findTwo 5 = .ok (.sipush 196, 3) := by decide +kernel
theorem dX0_findTwo_8 : decode cX0_findTwo 8 = .ok (.if_icmp .ge 104, 3) := by decide +kernel
theorem dX0_findTwo_11 : decode cX0_findTwo 11 = .ok (.iload 4, 2) := by decide +kernel
theorem dX0_findTwo_13 : decode cX0_findTwo 13 = .ok (.iconst 1, 1) := by decide +kernel
theorem dX0_findTwo_14 : decode cX0_findTwo 14 = .ok (.iadd, 1) := by decide +kernel
theorem dX0_findTwo_15 : decode cX0_findTwo 15 = .ok (.istore 5, 2) := by decide +kernel
theorem dX0_findTwo_17 : decode cX0_findTwo 17 = .ok (.iload 5, 2) := by decide +kernel
theorem dX0_findTwo_19 : decode cX0_findTwo 19 = .ok (.sipush 196, 3) := by decide +kernel
theorem dX0_findTwo_22 : decode cX0_findTwo 22 = .ok (.if_icmp .ge 84, 3) := by decide +kernel
theorem dX0_findTwo_25 : decode cX0_findTwo 25 = .ok (.aload_n 1, 1) := by decide +kernel
theorem dX0_findTwo_26 : decode cX0_findTwo 26 = .ok (.iload 4, 2) := by decide +kernel
theorem dX0_findTwo_28 : decode cX0_findTwo 28 = .ok (.invokevirtual 46, 3) := by decide +kernel
theorem dX0_findTwo_31 : decode cX0_findTwo 31 = .ok (.ifCond .eq 75, 3) := by decide +kernel
theorem dX0_findTwo_34 : decode cX0_findTwo 34 = .ok (.aload_n 2, 1) := by decide +kernel
theorem dX0_findTwo_35 : decode cX0_findTwo 35 = .ok (.iload 4, 2) := by decide +kernel
theorem dX0_findTwo_37 : decode cX0_findTwo 37 = .ok (.invokevirtual 49, 3) := by decide +kernel
theorem dX0_findTwo_40 : decode cX0_findTwo 40 = .ok (.ifCond .ne 12, 3) := by decide +kernel
theorem dX0_findTwo_43 : decode cX0_findTwo 43 = .ok (.aload_n 2, 1) := by decide +kernel
theorem dX0_findTwo_44 : decode cX0_findTwo 44 = .ok (.iload 5, 2) := by decide +kernel
theorem dX0_findTwo_46 : decode cX0_findTwo 46 = .ok (.invokevirtual 49, 3) := by decide +kernel
theorem dX0_findTwo_49 : decode cX0_findTwo 49 = .ok (.ifCond .eq 7, 3) := by decide +kernel
theorem dX0_findTwo_52 : decode cX0_findTwo 52 = .ok (.iconst 1, 1) := by decide +kernel
theorem dX0_findTwo_53 : decode cX0_findTwo 53 = .ok (.goto 4, 3) := by decide +kernel
theorem dX0_findTwo_56 : decode cX0_findTwo 56 = .ok (.iconst 0, 1) := by decide +kernel
theorem dX0_findTwo_57 : decode cX0_findTwo 57 = .ok (.istore 6, 2) := by decide +kernel
theorem dX0_findTwo_59 : decode cX0_findTwo 59 = .ok (.iload 6, 2) := by decide +kernel
theorem dX0_findTwo_61 : decode cX0_findTwo 61 = .ok (.ifCond .eq 39, 3) := by decide +kernel
theorem dX0_findTwo_64 : decode cX0_findTwo 64 = .ok (.aload_n 1, 1) := by decide +kernel
theorem dX0_findTwo_65 : decode cX0_findTwo 65 = .ok (.iload 5, 2) := by decide +kernel
theorem dX0_findTwo_67 : decode cX0_findTwo 67 = .ok (.invokevirtual 46, 3) := by decide +kernel
theorem dX0_findTwo_70 : decode cX0_findTwo 70 = .ok (.ifCond .eq 30, 3) := by decide +kernel
theorem dX0_findTwo_73 : decode cX0_findTwo 73 = .ok (.aload_n 0, 1) := by decide +kernel
theorem dX0_findTwo_74 : decode cX0_findTwo 74 = .ok (.aload_n 1, 1) := by decide +kernel
theorem dX0_findTwo_75 : decode cX0_findTwo 75 = .ok (.iload 4, 2) := by decide +kernel
theorem dX0_findTwo_77 : decode cX0_findTwo 77 = .ok (.iload 5, 2) := by decide +kernel
theorem dX0_findTwo_79 : decode cX0_findTwo 79 = .ok (.iload_n 3, 1) := by decide +kernel
theorem dX0_findTwo_80 : decode cX0_findTwo 80 = .ok (.invokevirtual 52, 3) := by decide +kernel
theorem dX0_findTwo_83 : decode cX0_findTwo 83 = .ok (.ifCond .eq 17, 3) := by decide +kernel
theorem dX0_findTwo_86 : decode cX0_findTwo 86 = .ok (.aload_n 0, 1) := by decide +kernel
theorem dX0_findTwo_87 : decode cX0_findTwo 87 = .ok (.iload 4, 2) := by decide +kernel
theorem dX0_findTwo_89 : decode cX0_findTwo 89 = .ok (.putfield 18, 3) := by decide +kernel
theorem dX0_findTwo_92 : decode cX0_findTwo 92 = .ok (.aload_n 0, 1) := by decide +kernel
theorem dX0_findTwo_93 : decode cX0_findTwo 93 = .ok (.iload 5, 2) := by decide +kernel
theorem dX0_findTwo_95 : decode cX0_findTwo 95 = .ok (.putfield 22, 3) := by decide +kernel
theorem dX0_findTwo_98 : decode cX0_findTwo 98 = .ok (.iconst 1, 1) := by decide +kernel
theorem dX0_findTwo_99 : decode cX0_findTwo 99 = .ok (.ireturn, 1) := by decide +kernel
theorem dX0_findTwo_100 : decode cX0_findTwo 100 = .ok (.iinc 5 1, 3) := by decide +kernel
theorem dX0_findTwo_103 : decode cX0_findTwo 103 = .ok (.goto (-86), 3) := by decide +kernel
theorem dX0_findTwo_106 : decode cX0_findTwo 106 = .ok (.iinc 4 1, 3) := by decide +kernel
theorem dX0_findTwo_109 : decode cX0_findTwo 109 = .ok (.goto (-106), 3) := by decide +kernel
theorem dX0_findTwo_112 : decode cX0_findTwo 112 = .ok (.iconst 0, 1) := by decide +kernel
theorem dX0_findTwo_113 : decode cX0_findTwo 113 = .ok (.ireturn, 1) := by decide +kernel
theorem dX0_cutsBoth_0 : decode cX0_cutsBoth 0 = .ok (.aload_n 0, 1) := by decide +kernel
theorem dX0_cutsBoth_1 : decode cX0_cutsBoth 1 = .ok (.getfield 12, 3) := by decide +kernel
theorem dX0_cutsBoth_4 : decode cX0_cutsBoth 4 = .ok (.aload_n 1, 1) := by decide +kernel
theorem dX0_cutsBoth_5 : decode cX0_cutsBoth 5 = .ok (.invokevirtual 56, 3) := by decide +kernel
theorem dX0_cutsBoth_8 : decode cX0_cutsBoth 8 = .ok (.aload_n 0, 1) := by decide +kernel
theorem dX0_cutsBoth_9 : decode cX0_cutsBoth 9 = .ok (.getfield 12, 3) := by decide +kernel
theorem dX0_cutsBoth_12 : decode cX0_cutsBoth 12 = .ok (.iload_n 2, 1) := by decide +kernel
theorem dX0_cutsBoth_13 : decode cX0_cutsBoth 13 = .ok (.iconst 0, 1) := by decide +kernel
theorem dX0_cutsBoth_14 : decode cX0_cutsBoth 14 = .ok (.invokevirtual 59, 3) := by decide +kernel
theorem dX0_cutsBoth_17 : decode cX0_cutsBoth 17 = .ok (.aload_n 0, 1) := by decide +kernel
theorem dX0_cutsBoth_18 : decode cX0_cutsBoth 18 = .ok (.getfield 12, 3) := by decide +kernel
theorem dX0_cutsBoth_21 : decode cX0_cutsBoth 21 = .ok (.iload_n 3, 1) := by decide +kernel
theorem dX0_cutsBoth_22 : decode cX0_cutsBoth 22 = .ok (.iconst 0, 1) := by decide +kernel
theorem dX0_cutsBoth_23 : decode cX0_cutsBoth 23 = .ok (.invokevirtual 59, 3) := by decide +kernel
theorem dX0_cutsBoth_26 : decode cX0_cutsBoth 26 = .ok (.aload_n 0, 1) := by decide +kernel
theorem dX0_cutsBoth_27 : decode cX0_cutsBoth 27 = .ok (.getfield 12, 3) := by decide +kernel
theorem dX0_cutsBoth_30 : decode cX0_cutsBoth 30 = .ok (.iload 4, 2) := by decide +kernel
theorem dX0_cutsBoth_32 : decode cX0_cutsBoth 32 = .ok (.invokevirtual 63, 3) := by decide +kernel
theorem dX0_cutsBoth_35 : decode cX0_cutsBoth 35 = .ok (.ifCond .ne 7, 3) := by decide +kernel
theorem dX0_cutsBoth_38 : decode cX0_cutsBoth 38 = .ok (.iconst 1, 1) := by decide +kernel
theorem dX0_cutsBoth_39 : decode cX0_cutsBoth 39 = .ok (.goto 4, 3) := by decide +kernel
theorem dX0_cutsBoth_42 : decode cX0_cutsBoth 42 = .ok (.iconst 0, 1) := by decide +kernel
theorem dX0_cutsBoth_43 : decode cX0_cutsBoth 43 = .ok (.ireturn, 1) := by decide +kernel
theorem dX1_init_0 : decode cX1_init 0 = .ok (.aload_n 0, 1) := by decide +kernel
theorem dX1_init_1 : decode cX1_init 1 = .ok (.invokespecial 3, 3) := by decide +kernel
theorem dX1_init_4 : decode cX1_init 4 = .ok (.aload_n 0, 1) := by decide +kernel
theorem dX1_init_5 : decode cX1_init 5 = .ok (.bipush 7, 2) := by decide +kernel
theorem dX1_init_7 : decode cX1_init 7 = .ok (.newarray .int, 2) := by decide +kernel
theorem dX1_init_9 : decode cX1_init 9 = .ok (.putfield 9, 3) := by decide +kernel
theorem dX1_init_12 : decode cX1_init 12 = .ok (.return_, 1) := by decide +kernel
theorem dX1_follow_0 : decode cX1_follow 0 = .ok (.iconst 0, 1) := by decide +kernel
theorem dX1_follow_1 : decode cX1_follow 1 = .ok (.istore_n 2, 1) := by decide +kernel
theorem dX1_follow_2 : decode cX1_follow 2 = .ok (.iload_n 2, 1) := by decide +kernel
theorem dX1_follow_3 : decode cX1_follow 3 = .ok (.bipush 7, 2) := by decide +kernel
theorem dX1_follow_5 : decode cX1_follow 5 = .ok (.if_icmp .ge 20, 3) := by decide +kernel
theorem dX1_follow_8 : decode cX1_follow 8 = .ok (.aload_n 0, 1) := by decide +kernel
theorem dX1_follow_9 : decode cX1_follow 9 = .ok (.getfield 9, 3) := by decide +kernel
theorem dX1_follow_12 : decode cX1_follow 12 = .ok (.iload_n 2, 1) := by decide +kernel
theorem dX1_follow_13 : decode cX1_follow 13 = .ok (.aload_n 1, 1) := by decide +kernel
theorem dX1_follow_14 : decode cX1_follow 14 = .ok (.iload_n 2, 1) := by decide +kernel
theorem dX1_follow_15 : decode cX1_follow 15 = .ok (.invokestatic 15, 3) := by decide +kernel
theorem dX1_follow_18 : decode cX1_follow 18 = .ok (.iastore, 1) := by decide +kernel
theorem dX1_follow_19 : decode cX1_follow 19 = .ok (.iinc 2 1, 3) := by decide +kernel
theorem dX1_follow_22 : decode cX1_follow 22 = .ok (.goto (-20), 3) := by decide +kernel
theorem dX1_follow_25 : decode cX1_follow 25 = .ok (.iconst 0, 1) := by decide +kernel
theorem dX1_follow_26 : decode cX1_follow 26 = .ok (.istore_n 2, 1) := by decide +kernel
theorem dX1_follow_27 : decode cX1_follow 27 = .ok (.iload_n 2, 1) := by decide +kernel
theorem dX1_follow_28 : decode cX1_follow 28 = .ok (.bipush 7, 2) := by decide +kernel
theorem dX1_follow_30 : decode cX1_follow 30 = .ok (.if_icmp .ge 51, 3) := by decide +kernel
theorem dX1_follow_33 : decode cX1_follow 33 = .ok (.iconst 0, 1) := by decide +kernel
theorem dX1_follow_34 : decode cX1_follow 34 = .ok (.istore_n 3, 1) := by decide +kernel
theorem dX1_follow_35 : decode cX1_follow 35 = .ok (.iload_n 3, 1) := by decide +kernel
theorem dX1_follow_36 : decode cX1_follow 36 = .ok (.bipush 7, 2) := by decide +kernel
theorem dX1_follow_38 : decode cX1_follow 38 = .ok (.if_icmp .ge 37, 3) := by decide +kernel
theorem dX1_follow_41 : decode cX1_follow 41 = .ok (.aload_n 0, 1) := by decide +kernel
theorem dX1_follow_42 : decode cX1_follow 42 = .ok (.getfield 9, 3) := by decide +kernel
theorem dX1_follow_45 : decode cX1_follow 45 = .ok (.iload_n 3, 1) := by decide +kernel
theorem dX1_follow_46 : decode cX1_follow 46 = .ok (.iaload, 1) := by decide +kernel
theorem dX1_follow_47 : decode cX1_follow 47 = .ok (.iload_n 2, 1) := by decide +kernel
theorem dX1_follow_48 : decode cX1_follow 48 = .ok (.ishr, 1) := by decide +kernel
theorem dX1_follow_49 : decode cX1_follow 49 = .ok (.iconst 1, 1) := by decide +kernel
theorem dX1_follow_50 : decode cX1_follow 50 = .ok (.iand, 1) := by decide +kernel
theorem dX1_follow_51 : decode cX1_follow 51 = .ok (.ifCond .eq 18, 3) := by decide +kernel
theorem dX1_follow_54 : decode cX1_follow 54 = .ok (.aload_n 0, 1) := by decide +kernel
theorem dX1_follow_55 : decode cX1_follow 55 = .ok (.getfield 9, 3) := by decide +kernel
theorem dX1_follow_58 : decode cX1_follow 58 = .ok (.iload_n 3, 1) := by decide +kernel
theorem dX1_follow_59 : decode cX1_follow 59 = .ok (.dup2, 1) := by decide +kernel
theorem dX1_follow_60 : decode cX1_follow 60 = .ok (.iaload, 1) := by decide +kernel
theorem dX1_follow_61 : decode cX1_follow 61 = .ok (.aload_n 0, 1) := by decide +kernel
theorem dX1_follow_62 : decode cX1_follow 62 = .ok (.getfield 9, 3) := by decide +kernel
theorem dX1_follow_65 : decode cX1_follow 65 = .ok (.iload_n 2, 1) := by decide +kernel
theorem dX1_follow_66 : decode cX1_follow 66 = .ok (.iaload, 1) := by decide +kernel
theorem dX1_follow_67 : decode cX1_follow 67 = .ok (.ior, 1) := by decide +kernel
theorem dX1_follow_68 : decode cX1_follow 68 = .ok (.iastore, 1) := by decide +kernel
theorem dX1_follow_69 : decode cX1_follow 69 = .ok (.iinc 3 1, 3) := by decide +kernel
theorem dX1_follow_72 : decode cX1_follow 72 = .ok (.goto (-37), 3) := by decide +kernel
theorem dX1_follow_75 : decode cX1_follow 75 = .ok (.iinc 2 1, 3) := by decide +kernel
theorem dX1_follow_78 : decode cX1_follow 78 = .ok (.goto (-51), 3) := by decide +kernel
theorem dX1_follow_81 : decode cX1_follow 81 = .ok (.iconst 0, 1) := by decide +kernel
theorem dX1_follow_82 : decode cX1_follow 82 = .ok (.istore_n 2, 1) := by decide +kernel
theorem dX1_follow_83 : decode cX1_follow 83 = .ok (.iload_n 2, 1) := by decide +kernel
theorem dX1_follow_84 : decode cX1_follow 84 = .ok (.bipush 7, 2) := by decide +kernel
theorem dX1_follow_86 : decode cX1_follow 86 = .ok (.if_icmp .ge 23, 3) := by decide +kernel
theorem dX1_follow_89 : decode cX1_follow 89 = .ok (.aload_n 0, 1) := by decide +kernel
theorem dX1_follow_90 : decode cX1_follow 90 = .ok (.getfield 9, 3) := by decide +kernel
theorem dX1_follow_93 : decode cX1_follow 93 = .ok (.iload_n 2, 1) := by decide +kernel
theorem dX1_follow_94 : decode cX1_follow 94 = .ok (.dup2, 1) := by decide +kernel
theorem dX1_follow_95 : decode cX1_follow 95 = .ok (.iaload, 1) := by decide +kernel
theorem dX1_follow_96 : decode cX1_follow 96 = .ok (.iconst 1, 1) := by decide +kernel
theorem dX1_follow_97 : decode cX1_follow 97 = .ok (.iload_n 2, 1) := by decide +kernel
theorem dX1_follow_98 : decode cX1_follow 98 = .ok (.ishl, 1) := by decide +kernel
theorem dX1_follow_99 : decode cX1_follow 99 = .ok (.iconst (-1), 1) := by decide +kernel
theorem dX1_follow_100 : decode cX1_follow 100 = .ok (.ixor, 1) := by decide +kernel
theorem dX1_follow_101 : decode cX1_follow 101 = .ok (.iand, 1) := by decide +kernel
theorem dX1_follow_102 : decode cX1_follow 102 = .ok (.iastore, 1) := by decide +kernel
theorem dX1_follow_103 : decode cX1_follow 103 = .ok (.iinc 2 1, 3) := by decide +kernel
theorem dX1_follow_106 : decode cX1_follow 106 = .ok (.goto (-23), 3) := by decide +kernel
theorem dX1_follow_109 : decode cX1_follow 109 = .ok (.return_, 1) := by decide +kernel
theorem dX1_heard_0 : decode cX1_heard 0 = .ok (.iconst 0, 1) := by decide +kernel
theorem dX1_heard_1 : decode cX1_heard 1 = .ok (.istore_n 2, 1) := by decide +kernel
theorem dX1_heard_2 : decode cX1_heard 2 = .ok (.iconst 0, 1) := by decide +kernel
theorem dX1_heard_3 : decode cX1_heard 3 = .ok (.istore_n 3, 1) := by decide +kernel
theorem dX1_heard_4 : decode cX1_heard 4 = .ok (.iload_n 3, 1) := by decide +kernel
theorem dX1_heard_5 : decode cX1_heard 5 = .ok (.aload_n 0, 1) := by decide +kernel
theorem dX1_heard_6 : decode cX1_heard 6 = .ok (.getfield 19, 3) := by decide +kernel
theorem dX1_heard_9 : decode cX1_heard 9 = .ok (.if_icmp .ge 81, 3) := by decide +kernel
theorem dX1_heard_12 : decode cX1_heard 12 = .ok (.aload_n 0, 1) := by decide +kernel
theorem dX1_heard_13 : decode cX1_heard 13 = .ok (.iload_n 1, 1) := by decide +kernel
theorem dX1_heard_14 : decode cX1_heard 14 = .ok (.invokevirtual 25, 3) := by decide +kernel
theorem dX1_heard_17 : decode cX1_heard 17 = .ok (.ifCond .eq 20, 3) := by decide +kernel
theorem dX1_heard_20 : decode cX1_heard 20 = .ok (.aload_n 0, 1) := by decide +kernel
theorem dX1_heard_21 : decode cX1_heard 21 = .ok (.iload_n 1, 1) := by decide +kernel
theorem dX1_heard_22 : decode cX1_heard 22 = .ok (.iconst 2, 1) := by decide +kernel
theorem dX1_heard_23 : decode cX1_heard 23 = .ok (.iload_n 3, 1) := by decide +kernel
theorem dX1_heard_24 : decode cX1_heard 24 = .ok (.invokestatic 29, 3) := by decide +kernel
theorem dX1_heard_27 : decode cX1_heard 27 = .ok (.invokevirtual 33, 3) := by decide +kernel
theorem dX1_heard_30 : decode cX1_heard 30 = .ok (.ifCond .eq 7, 3) := by decide +kernel
theorem dX1_heard_33 : decode cX1_heard 33 = .ok (.iconst 1, 1) := by decide +kernel
theorem dX1_heard_34 : decode cX1_heard 34 = .ok (.goto 4, 3) := by decide +kernel
theorem dX1_heard_37 : decode cX1_heard 37 = .ok (.iconst 0, 1) := by decide +kernel
theorem dX1_heard_38 : decode cX1_heard 38 = .ok (.istore 4, 2) := by decide +kernel
theorem dX1_heard_40 : decode cX1_heard 40 = .ok (.aload_n 0, 1) := by decide +kernel
theorem dX1_heard_41 : decode cX1_heard 41 = .ok (.iload_n 3, 1) := by decide +kernel
theorem dX1_heard_42 : decode cX1_heard 42 = .ok (.invokevirtual 25, 3) := by decide +kernel
theorem dX1_heard_45 : decode cX1_heard 45 = .ok (.ifCond .eq 20, 3) := by decide +kernel
theorem dX1_heard_48 : decode cX1_heard 48 = .ok (.aload_n 0, 1) := by decide +kernel
theorem dX1_heard_49 : decode cX1_heard 49 = .ok (.iload_n 3, 1) := by decide +kernel
theorem dX1_heard_50 : decode cX1_heard 50 = .ok (.iconst 3, 1) := by decide +kernel
theorem dX1_heard_51 : decode cX1_heard 51 = .ok (.iload_n 1, 1) := by decide +kernel
theorem dX1_heard_52 : decode cX1_heard 52 = .ok (.invokestatic 29, 3) := by decide +kernel
theorem dX1_heard_55 : decode cX1_heard 55 = .ok (.invokevirtual 33, 3) := by decide +kernel
theorem dX1_heard_58 : decode cX1_heard 58 = .ok (.ifCond .eq 7, 3) := by decide +kernel
theorem dX1_heard_61 : decode cX1_heard 61 = .ok (.iconst 1, 1) := by decide +kernel
theorem dX1_heard_62 : decode cX1_heard 62 = .ok (.goto 4, 3) := by decide +kernel
theorem dX1_heard_65 : decode cX1_heard 65 = .ok (.iconst 0, 1) := by decide +kernel
theorem dX1_heard_66 : decode cX1_heard 66 = .ok (.istore 5, 2) := by decide +kernel
theorem dX1_heard_68 : decode cX1_heard 68 = .ok (.iload 4, 2) := by decide +kernel
theorem dX1_heard_70 : decode cX1_heard 70 = .ok (.ifCond .ne 8, 3) := by decide +kernel
theorem dX1_heard_73 : decode cX1_heard 73 = .ok (.iload 5, 2) := by decide +kernel
theorem dX1_heard_75 : decode cX1_heard 75 = .ok (.ifCond .eq 9, 3) := by decide +kernel
theorem dX1_heard_78 : decode cX1_heard 78 = .ok (.iload_n 2, 1) := by decide +kernel
theorem dX1_heard_79 : decode cX1_heard 79 = .ok (.iconst 1, 1) := by decide +kernel
theorem dX1_heard_80 : decode cX1_heard 80 = .ok (.iload_n 3, 1) := by decide +kernel
theorem dX1_heard_81 : decode cX1_heard 81 = .ok (.ishl, 1) := by decide +kernel
theorem dX1_heard_82 : decode cX1_heard 82 = .ok (.ior, 1) := by decide +kernel
theorem dX1_heard_83 : decode cX1_heard 83 = .ok (.istore_n 2, 1) := by decide +kernel
theorem dX1_heard_84 : decode cX1_heard 84 = .ok (.iinc 3 1, 3) := by decide +kernel
theorem dX1_heard_87 : decode cX1_heard 87 = .ok (.goto (-83), 3) := by decide +kernel
theorem dX1_heard_90 : decode cX1_heard 90 = .ok (.iload_n 2, 1) := by decide +kernel
theorem dX1_heard_91 : decode cX1_heard 91 = .ok (.ireturn, 1) := by decide +kernel
theorem dX1_countPairs_0 : decode cX1_countPairs 0 = .ok (.iconst 0, 1) := by decide +kernel
theorem dX1_countPairs_1 : decode cX1_countPairs 1 = .ok (.istore_n 1, 1) := by decide +kernel
theorem dX1_countPairs_2 : decode cX1_countPairs 2 = .ok (.iconst 0, 1) := by decide +kernel
theorem dX1_countPairs_3 : decode cX1_countPairs 3 = .ok (.istore_n 2, 1) := by decide +kernel
theorem dX1_countPairs_4 : decode cX1_countPairs 4 = .ok (.iload_n 2, 1) := by decide +kernel
theorem dX1_countPairs_5 : decode cX1_countPairs 5 = .ok (.bipush 7, 2) := by decide +kernel
theorem dX1_countPairs_7 : decode cX1_countPairs 7 = .ok (.if_icmp .ge 21, 3) := by decide +kernel
theorem dX1_countPairs_10 : decode cX1_countPairs 10 = .ok (.iload_n 1, 1) := by decide +kernel
theorem dX1_countPairs_11 : decode cX1_countPairs 11 = .ok (.aload_n 0, 1) := by decide +kernel
theorem dX1_countPairs_12 : decode cX1_countPairs 12 = .ok (.getfield 9, 3) := by decide +kernel
theorem dX1_countPairs_15 : decode cX1_countPairs 15 = .ok (.iload_n 2, 1) := by decide +kernel
theorem dX1_countPairs_16 : decode cX1_countPairs 16 = .ok (.iaload, 1) := by decide +kernel
theorem dX1_countPairs_17 : decode cX1_countPairs 17 = .ok (.invokestatic 36, 3) := by decide +kernel
theorem dX1_countPairs_20 : decode cX1_countPairs 20 = .ok (.iadd, 1) := by decide +kernel
theorem dX1_countPairs_21 : decode cX1_countPairs 21 = .ok (.istore_n 1, 1) := by decide +kernel
theorem dX1_countPairs_22 : decode cX1_countPairs 22 = .ok (.iinc 2 1, 3) := by decide +kernel
theorem dX1_countPairs_25 : decode cX1_countPairs 25 = .ok (.goto (-21), 3) := by decide +kernel
theorem dX1_countPairs_28 : decode cX1_countPairs 28 = .ok (.iload_n 1, 1) := by decide +kernel
theorem dX1_countPairs_29 : decode cX1_countPairs 29 = .ok (.ireturn, 1) := by decide +kernel
theorem dX2_init_0 : decode cX2_init 0 = .ok (.aload_n 0, 1) := by decide +kernel
theorem dX2_init_1 : decode cX2_init 1 = .ok (.invokespecial 3, 3) := by decide +kernel
theorem dX2_init_4 : decode cX2_init 4 = .ok (.aload_n 0, 1) := by decide +kernel
theorem dX2_init_5 : decode cX2_init 5 = .ok (.new 9, 3) := by decide +kernel
theorem dX2_init_8 : decode cX2_init 8 = .ok (.dup, 1) := by decide +kernel
theorem dX2_init_9 : decode cX2_init 9 = .ok (.invokespecial 11, 3) := by decide +kernel
theorem dX2_init_12 : decode cX2_init 12 = .ok (.putfield 12, 3) := by decide +kernel
theorem dX2_init_15 : decode cX2_init 15 = .ok (.aload_n 0, 1) := by decide +kernel
theorem dX2_init_16 : decode cX2_init 16 = .ok (.sipush 196, 3) := by decide +kernel
theorem dX2_init_19 : decode cX2_init 19 = .ok (.newarray .int, 2) := by decide +kernel
theorem dX2_init_21 : decode cX2_init 21 = .ok (.putfield 18, 3) := by decide +kernel
theorem dX2_init_24 : decode cX2_init 24 = .ok (.aload_n 0, 1) := by decide +kernel
theorem dX2_init_25 : decode cX2_init 25 = .ok (.new 9, 3) := by decide +kernel
theorem dX2_init_28 : decode cX2_init 28 = .ok (.dup, 1) := by decide +kernel
theorem dX2_init_29 : decode cX2_init 29 = .ok (.invokespecial 11, 3) := by decide +kernel
theorem dX2_init_32 : decode cX2_init 32 = .ok (.putfield 22, 3) := by decide +kernel
theorem dX2_init_35 : decode cX2_init 35 = .ok (.aload_n 0, 1) := by decide +kernel
theorem dX2_init_36 : decode cX2_init 36 = .ok (.sipush 196, 3) := by decide +kernel
theorem dX2_init_39 : decode cX2_init 39 = .ok (.newarray .int, 2) := by decide +kernel
theorem dX2_init_41 : decode cX2_init 41 = .ok (.putfield 25, 3) := by decide +kernel
theorem dX2_init_44 : decode cX2_init 44 = .ok (.aload_n 0, 1) := by decide +kernel
theorem dX2_init_45 : decode cX2_init 45 = .ok (.sipush 196, 3) := by decide +kernel
theorem dX2_init_48 : decode cX2_init 48 = .ok (.newarray .boolean, 2) := by decide +kernel
theorem dX2_init_50 : decode cX2_init 50 = .ok (.putfield 28, 3) := by decide +kernel
theorem dX2_init_53 : decode cX2_init 53 = .ok (.return_, 1) := by decide +kernel
theorem dX2_follow_0 : decode cX2_follow 0 = .ok (.iconst 0, 1) := by decide +kernel
theorem dX2_follow_1 : decode cX2_follow 1 = .ok (.istore_n 2, 1) := by decide +kernel
theorem dX2_follow_2 : decode cX2_follow 2 = .ok (.iload_n 2, 1) := by decide +kernel
theorem dX2_follow_3 : decode cX2_follow 3 = .ok (.sipush 196, 3) := by decide +kernel
theorem dX2_follow_6 : decode cX2_follow 6 = .ok (.if_icmp .ge 18, 3) := by decide +kernel
theorem dX2_follow_9 : decode cX2_follow 9 = .ok (.aload_n 0, 1) := by decide +kernel
theorem dX2_follow_10 : decode cX2_follow 10 = .ok (.getfield 18, 3) := by decide +kernel
theorem dX2_follow_13 : decode cX2_follow 13 = .ok (.iload_n 2, 1) := by decide +kernel
theorem dX2_follow_14 : decode cX2_follow 14 = .ok (.sipush 197, 3) := by decide +kernel
theorem dX2_follow_17 : decode cX2_follow 17 = .ok (.iastore, 1) := by decide +kernel
theorem dX2_follow_18 : decode cX2_follow 18 = .ok (.iinc 2 1, 3) := by decide +kernel
theorem dX2_follow_21 : decode cX2_follow 21 = .ok (.goto (-19), 3) := by decide +kernel
theorem dX2_follow_24 : decode cX2_follow 24 = .ok (.aload_n 0, 1) := by decide +kernel
theorem dX2_follow_25 : decode cX2_follow 25 = .ok (.getfield 22, 3) := by decide +kernel
theorem dX2_follow_28 : decode cX2_follow 28 = .ok (.invokevirtual 32, 3) := by decide +kernel
theorem dX2_follow_31 : decode cX2_follow 31 = .ok (.aload_n 0, 1) := by decide +kernel
theorem dX2_follow_32 : decode cX2_follow 32 = .ok (.getfield 12, 3) := by decide +kernel
theorem dX2_follow_35 : decode cX2_follow 35 = .ok (.aload_n 1, 1) := by decide +kernel
theorem dX2_follow_36 : decode cX2_follow 36 = .ok (.invokevirtual 35, 3) := by decide +kernel
theorem dX2_follow_39 : decode cX2_follow 39 = .ok (.aload_n 0, 1) := by decide +kernel
theorem dX2_follow_40 : decode cX2_follow 40 = .ok (.iconst 0, 1) := by decide +kernel
theorem dX2_follow_41 : decode cX2_follow 41 = .ok (.invokevirtual 39, 3) := by decide +kernel
theorem dX2_follow_44 : decode cX2_follow 44 = .ok (.aload_n 0, 1) := by decide +kernel
theorem dX2_follow_45 : decode cX2_follow 45 = .ok (.iconst 0, 1) := by decide +kernel
theorem dX2_follow_46 : decode cX2_follow 46 = .ok (.putfield 43, 3) := by decide +kernel
theorem dX2_follow_49 : decode cX2_follow 49 = .ok (.aload_n 0, 1) := by decide +kernel
theorem dX2_follow_50 : decode cX2_follow 50 = .ok (.getfield 22, 3) := by decide +kernel
theorem dX2_follow_53 : decode cX2_follow 53 = .ok (.aload_n 0, 1) := by decide +kernel
theorem dX2_follow_54 : decode cX2_follow 54 = .ok (.getfield 12, 3) := by decide +kernel
theorem dX2_follow_57 : decode cX2_follow 57 = .ok (.invokevirtual 35, 3) := by decide +kernel
theorem dX2_follow_60 : decode cX2_follow 60 = .ok (.aload_n 0, 1) := by decide +kernel
theorem dX2_follow_61 : decode cX2_follow 61 = .ok (.getfield 43, 3) := by decide +kernel
theorem dX2_follow_64 : decode cX2_follow 64 = .ok (.sipush 196, 3) := by decide +kernel
theorem dX2_follow_67 : decode cX2_follow 67 = .ok (.if_icmp .ge 49, 3) := by decide +kernel
theorem dX2_follow_70 : decode cX2_follow 70 = .ok (.aload_n 0, 1) := by decide +kernel
theorem dX2_follow_71 : decode cX2_follow 71 = .ok (.getfield 12, 3) := by decide +kernel
theorem dX2_follow_74 : decode cX2_follow 74 = .ok (.aload_n 0, 1) := by decide +kernel
theorem dX2_follow_75 : decode cX2_follow 75 = .ok (.getfield 22, 3) := by decide +kernel
theorem dX2_follow_78 : decode cX2_follow 78 = .ok (.invokevirtual 47, 3) := by decide +kernel
theorem dX2_follow_81 : decode cX2_follow 81 = .ok (.ifCond .eq 35, 3) := by decide +kernel
theorem dX2_follow_84 : decode cX2_follow 84 = .ok (.aload_n 0, 1) := by decide +kernel
theorem dX2_follow_85 : decode cX2_follow 85 = .ok (.dup, 1) := by decide +kernel
theorem dX2_follow_86 : decode cX2_follow 86 = .ok (.getfield 43, 3) := by decide +kernel
theorem dX2_follow_89 : decode cX2_follow 89 = .ok (.iconst 1, 1) := by decide +kernel
theorem dX2_follow_90 : decode cX2_follow 90 = .ok (.iadd, 1) := by decide +kernel
theorem dX2_follow_91 : decode cX2_follow 91 = .ok (.putfield 43, 3) := by decide +kernel
theorem dX2_follow_94 : decode cX2_follow 94 = .ok (.aload_n 0, 1) := by decide +kernel
theorem dX2_follow_95 : decode cX2_follow 95 = .ok (.aload_n 0, 1) := by decide +kernel
theorem dX2_follow_96 : decode cX2_follow 96 = .ok (.getfield 43, 3) := by decide +kernel
theorem dX2_follow_99 : decode cX2_follow 99 = .ok (.invokevirtual 39, 3) := by decide +kernel
theorem dX2_follow_102 : decode cX2_follow 102 = .ok (.aload_n 0, 1) := by decide +kernel
theorem dX2_follow_103 : decode cX2_follow 103 = .ok (.getfield 22, 3) := by decide +kernel
theorem dX2_follow_106 : decode cX2_follow 106 = .ok (.aload_n 0, 1) := by decide +kernel
theorem dX2_follow_107 : decode cX2_follow 107 = .ok (.getfield 12, 3) := by decide +kernel
theorem dX2_follow_110 : decode cX2_follow 110 = .ok (.invokevirtual 35, 3) := by decide +kernel
theorem dX2_follow_113 : decode cX2_follow 113 = .ok (.goto (-53), 3) := by decide +kernel
theorem dX2_follow_116 : decode cX2_follow 116 = .ok (.return_, 1) := by decide +kernel
theorem dX2_noteRound_0 : decode cX2_noteRound 0 = .ok (.iconst 0, 1) := by decide +kernel
theorem dX2_noteRound_1 : decode cX2_noteRound 1 = .ok (.istore_n 2, 1) := by decide +kernel
theorem dX2_noteRound_2 : decode cX2_noteRound 2 = .ok (.iload_n 2, 1) := by decide +kernel
theorem dX2_noteRound_3 : decode cX2_noteRound 3 = .ok (.aload_n 0, 1) := by decide +kernel
theorem dX2_noteRound_4 : decode cX2_noteRound 4 = .ok (.getfield 12, 3) := by decide +kernel
theorem dX2_noteRound_7 : decode cX2_noteRound 7 = .ok (.getfield 51, 3) := by decide +kernel
theorem dX2_noteRound_10 : decode cX2_noteRound 10 = .ok (.if_icmp .ge 76, 3) := by decide +kernel
theorem dX2_noteRound_13 : decode cX2_noteRound 13 = .ok (.aload_n 0, 1) := by decide +kernel
theorem dX2_noteRound_14 : decode cX2_noteRound 14 = .ok (.getfield 12, 3) := by decide +kernel
theorem dX2_noteRound_17 : decode cX2_noteRound 17 = .ok (.getfield 54, 3) := by decide +kernel
theorem dX2_noteRound_20 : decode cX2_noteRound 20 = .ok (.iload_n 2, 1) := by decide +kernel
theorem dX2_noteRound_21 : decode cX2_noteRound 21 = .ok (.iaload, 1) := by decide +kernel
theorem dX2_noteRound_22 : decode cX2_noteRound 22 = .ok (.aload_n 0, 1) := by decide +kernel
theorem dX2_noteRound_23 : decode cX2_noteRound 23 = .ok (.getfield 22, 3) := by decide +kernel
theorem dX2_noteRound_26 : decode cX2_noteRound 26 = .ok (.getfield 54, 3) := by decide +kernel
theorem dX2_noteRound_29 : decode cX2_noteRound 29 = .ok (.iload_n 2, 1) := by decide +kernel
theorem dX2_noteRound_30 : decode cX2_noteRound 30 = .ok (.iaload, 1) := by decide +kernel
theorem dX2_noteRound_31 : decode cX2_noteRound 31 = .ok (.iconst (-1), 1) := by decide +kernel
theorem dX2_noteRound_32 : decode cX2_noteRound 32 = .ok (.ixor, 1) := by decide +kernel
theorem dX2_noteRound_33 : decode cX2_noteRound 33 = .ok (.iand, 1) := by decide +kernel
theorem dX2_noteRound_34 : decode cX2_noteRound 34 = .ok (.istore_n 3, 1) := by decide +kernel
theorem dX2_noteRound_35 : decode cX2_noteRound 35 = .ok (.iconst 0, 1) := by decide +kernel
theorem dX2_noteRound_36 : decode cX2_noteRound 36 = .ok (.istore 4, 2) := by decide +kernel
theorem dX2_noteRound_38 : decode cX2_noteRound 38 = .ok (.iload 4, 2) := by decide +kernel
theorem dX2_noteRound_40 : decode cX2_noteRound 40 = .ok (.bipush 28, 2) := by decide +kernel
theorem dX2_noteRound_42 : decode cX2_noteRound 42 = .ok (.if_icmp .ge 38, 3) := by decide +kernel
theorem dX2_noteRound_45 : decode cX2_noteRound 45 = .ok (.iload_n 3, 1) := by decide +kernel
theorem dX2_noteRound_46 : decode cX2_noteRound 46 = .ok (.iload 4, 2) := by decide +kernel
theorem dX2_noteRound_48 : decode cX2_noteRound 48 = .ok (.ishr, 1) := by decide +kernel
theorem dX2_noteRound_49 : decode cX2_noteRound 49 = .ok (.ifCond .eq 31, 3) := by decide +kernel
theorem dX2_noteRound_52 : decode cX2_noteRound 52 = .ok (.iload_n 3, 1) := by decide +kernel
theorem dX2_noteRound_53 : decode cX2_noteRound 53 = .ok (.iload 4, 2) := by decide +kernel
theorem dX2_noteRound_55 : decode cX2_noteRound 55 = .ok (.ishr, 1) := by decide +kernel
theorem dX2_noteRound_56 : decode cX2_noteRound 56 = .ok (.iconst 1, 1) := by decide +kernel
theorem dX2_noteRound_57 : decode cX2_noteRound 57 = .ok (.iand, 1) := by decide +kernel
theorem dX2_noteRound_58 : decode cX2_noteRound 58 = .ok (.ifCond .eq 16, 3) := by decide +kernel
theorem dX2_noteRound_61 : decode cX2_noteRound 61 = .ok (.aload_n 0, 1) := by decide +kernel
theorem dX2_noteRound_62 : decode cX2_noteRound 62 = .ok (.getfield 18, 3) := by decide +kernel
theorem dX2_noteRound_65 : decode cX2_noteRound 65 = .ok (.bipush 28, 2) := by decide +kernel
theorem dX2_noteRound_67 : decode cX2_noteRound 67 = .ok (.iload_n 2, 1) := by decide +kernel
theorem dX2_noteRound_68 : decode cX2_noteRound 68 = .ok (.imul, 1) := by decide +kernel
theorem dX2_noteRound_69 : decode cX2_noteRound 69 = .ok (.iload 4, 2) := by decide +kernel
theorem dX2_noteRound_71 : decode cX2_noteRound 71 = .ok (.iadd, 1) := by decide +kernel
theorem dX2_noteRound_72 : decode cX2_noteRound 72 = .ok (.iload_n 1, 1) := by decide +kernel
theorem dX2_noteRound_73 : decode cX2_noteRound 73 = .ok (.iastore, 1) := by decide +kernel
theorem dX2_noteRound_74 : decode cX2_noteRound 74 = .ok (.iinc 4 1, 3) := by decide +kernel
theorem dX2_noteRound_77 : decode cX2_noteRound 77 = .ok (.goto (-39), 3) := by decide +kernel
theorem dX2_noteRound_80 : decode cX2_noteRound 80 = .ok (.iinc 2 1, 3) := by decide +kernel
theorem dX2_noteRound_83 : decode cX2_noteRound 83 = .ok (.goto (-81), 3) := by decide +kernel
theorem dX2_noteRound_86 : decode cX2_noteRound 86 = .ok (.return_, 1) := by decide +kernel
theorem dX2_comes_0 : decode cX2_comes 0 = .ok (.aload_n 0, 1) := by decide +kernel
theorem dX2_comes_1 : decode cX2_comes 1 = .ok (.getfield 18, 3) := by decide +kernel
theorem dX2_comes_4 : decode cX2_comes 4 = .ok (.iload_n 1, 1) := by decide +kernel
theorem dX2_comes_5 : decode cX2_comes 5 = .ok (.iaload, 1) := by decide +kernel
theorem dX2_comes_6 : decode cX2_comes 6 = .ok (.sipush 197, 3) := by decide +kernel
theorem dX2_comes_9 : decode cX2_comes 9 = .ok (.if_icmp .eq 7, 3) := by decide +kernel
theorem dX2_comes_12 : decode cX2_comes 12 = .ok (.iconst 1, 1) := by decide +kernel
theorem dX2_comes_13 : decode cX2_comes 13 = .ok (.goto 4, 3) := by decide +kernel
theorem dX2_comes_16 : decode cX2_comes 16 = .ok (.iconst 0, 1) := by decide +kernel
theorem dX2_comes_17 : decode cX2_comes 17 = .ok (.ireturn, 1) := by decide +kernel
theorem dX2_wayOf_0 : decode cX2_wayOf 0 = .ok (.aload_n 0, 1) := by decide +kernel
theorem dX2_wayOf_1 : decode cX2_wayOf 1 = .ok (.getfield 18, 3) := by decide +kernel
theorem dX2_wayOf_4 : decode cX2_wayOf 4 = .ok (.iload_n 1, 1) := by decide +kernel
theorem dX2_wayOf_5 : decode cX2_wayOf 5 = .ok (.iaload, 1) := by decide +kernel
theorem dX2_wayOf_6 : decode cX2_wayOf 6 = .ok (.istore_n 2, 1) := by decide +kernel
theorem dX2_wayOf_7 : decode cX2_wayOf 7 = .ok (.iload_n 2, 1) := by decide +kernel
theorem dX2_wayOf_8 : decode cX2_wayOf 8 = .ok (.ifCond .eq 10, 3) := by decide +kernel
theorem dX2_wayOf_11 : decode cX2_wayOf 11 = .ok (.iload_n 2, 1) := by decide +kernel
theorem dX2_wayOf_12 : decode cX2_wayOf 12 = .ok (.sipush 197, 3) := by decide +kernel
theorem dX2_wayOf_15 : decode cX2_wayOf 15 = .ok (.if_icmp .ne 6, 3) := by decide +kernel
theorem dX2_wayOf_18 : decode cX2_wayOf 18 = .ok (.bipush (-9), 2) := by decide +kernel
theorem dX2_wayOf_20 : decode cX2_wayOf 20 = .ok (.ireturn, 1) := by decide +kernel
theorem dX2_wayOf_21 : decode cX2_wayOf 21 = .ok (.iload_n 1, 1) := by decide +kernel
theorem dX2_wayOf_22 : decode cX2_wayOf 22 = .ok (.invokestatic 57, 3) := by decide +kernel
theorem dX2_wayOf_25 : decode cX2_wayOf 25 = .ok (.istore_n 3, 1) := by decide +kernel
theorem dX2_wayOf_26 : decode cX2_wayOf 26 = .ok (.iload_n 1, 1) := by decide +kernel
theorem dX2_wayOf_27 : decode cX2_wayOf 27 = .ok (.bipush 28, 2) := by decide +kernel
theorem dX2_wayOf_29 : decode cX2_wayOf 29 = .ok (.irem, 1) := by decide +kernel
theorem dX2_wayOf_30 : decode cX2_wayOf 30 = .ok (.istore 4, 2) := by decide +kernel
theorem dX2_wayOf_32 : decode cX2_wayOf 32 = .ok (.iconst 0, 1) := by decide +kernel
theorem dX2_wayOf_33 : decode cX2_wayOf 33 = .ok (.istore 5, 2) := by decide +kernel
theorem dX2_wayOf_35 : decode cX2_wayOf 35 = .ok (.iload 5, 2) := by decide +kernel
theorem dX2_wayOf_37 : decode cX2_wayOf 37 = .ok (.aload_n 0, 1) := by decide +kernel
theorem dX2_wayOf_38 : decode cX2_wayOf 38 = .ok (.getfield 12, 3) := by decide +kernel
theorem dX2_wayOf_41 : decode cX2_wayOf 41 = .ok (.getfield 51, 3) := by decide +kernel
theorem dX2_wayOf_44 : decode cX2_wayOf 44 = .ok (.if_icmp .ge 61, 3) := by decide +kernel
theorem dX2_wayOf_47 : decode cX2_wayOf 47 = .ok (.aload_n 0, 1) := by decide +kernel
theorem dX2_wayOf_48 : decode cX2_wayOf 48 = .ok (.getfield 12, 3) := by decide +kernel
theorem dX2_wayOf_51 : decode cX2_wayOf 51 = .ok (.iload_n 3, 1) := by decide +kernel
theorem dX2_wayOf_52 : decode cX2_wayOf 52 = .ok (.invokevirtual 61, 3) := by decide +kernel
theorem dX2_wayOf_55 : decode cX2_wayOf 55 = .ok (.ifCond .eq 50, 3) := by decide +kernel
theorem dX2_wayOf_58 : decode cX2_wayOf 58 = .ok (.aload_n 0, 1) := by decide +kernel
theorem dX2_wayOf_59 : decode cX2_wayOf 59 = .ok (.getfield 18, 3) := by decide +kernel
theorem dX2_wayOf_62 : decode cX2_wayOf 62 = .ok (.iload_n 3, 1) := by decide +kernel
theorem dX2_wayOf_63 : decode cX2_wayOf 63 = .ok (.iconst 0, 1) := by decide +kernel
theorem dX2_wayOf_64 : decode cX2_wayOf 64 = .ok (.iload 5, 2) := by decide +kernel
theorem dX2_wayOf_66 : decode cX2_wayOf 66 = .ok (.invokestatic 65, 3) := by decide +kernel
theorem dX2_wayOf_69 : decode cX2_wayOf 69 = .ok (.iaload, 1) := by decide +kernel
theorem dX2_wayOf_70 : decode cX2_wayOf 70 = .ok (.iload_n 2, 1) := by decide +kernel
theorem dX2_wayOf_71 : decode cX2_wayOf 71 = .ok (.if_icmp .ge 28, 3) := by decide +kernel
theorem dX2_wayOf_74 : decode cX2_wayOf 74 = .ok (.aload_n 0, 1) := by decide +kernel
theorem dX2_wayOf_75 : decode cX2_wayOf 75 = .ok (.getfield 18, 3) := by decide +kernel
theorem dX2_wayOf_78 : decode cX2_wayOf 78 = .ok (.bipush 28, 2) := by decide +kernel
theorem dX2_wayOf_80 : decode cX2_wayOf 80 = .ok (.iload 5, 2) := by decide +kernel
theorem dX2_wayOf_82 : decode cX2_wayOf 82 = .ok (.imul, 1) := by decide +kernel
theorem dX2_wayOf_83 : decode cX2_wayOf 83 = .ok (.iload 4, 2) := by decide +kernel
theorem dX2_wayOf_85 : decode cX2_wayOf 85 = .ok (.iadd, 1) := by decide +kernel
theorem dX2_wayOf_86 : decode cX2_wayOf 86 = .ok (.iaload, 1) := by decide +kernel
theorem dX2_wayOf_87 : decode cX2_wayOf 87 = .ok (.iload_n 2, 1) := by decide +kernel
theorem dX2_wayOf_88 : decode cX2_wayOf 88 = .ok (.if_icmp .ge 11, 3) := by decide +kernel
theorem dX2_wayOf_91 : decode cX2_wayOf 91 = .ok (.bipush 10, 2) := by decide +kernel
theorem dX2_wayOf_93 : decode cX2_wayOf 93 = .ok (.iload_n 3, 1) := by decide +kernel
theorem dX2_wayOf_94 : decode cX2_wayOf 94 = .ok (.imul, 1) := by decide +kernel
theorem dX2_wayOf_95 : decode cX2_wayOf 95 = .ok (.iload 5, 2) := by decide +kernel
theorem dX2_wayOf_97 : decode cX2_wayOf 97 = .ok (.iadd, 1) := by decide +kernel
theorem dX2_wayOf_98 : decode cX2_wayOf 98 = .ok (.ireturn, 1) := by decide +kernel
theorem dX2_wayOf_99 : decode cX2_wayOf 99 = .ok (.iinc 5 1, 3) := by decide +kernel
theorem dX2_wayOf_102 : decode cX2_wayOf 102 = .ok (.goto (-67), 3) := by decide +kernel
theorem dX2_wayOf_105 : decode cX2_wayOf 105 = .ok (.iconst 0, 1) := by decide +kernel
theorem dX2_wayOf_106 : decode cX2_wayOf 106 = .ok (.istore 5, 2) := by decide +kernel
theorem dX2_wayOf_108 : decode cX2_wayOf 108 = .ok (.iload 5, 2) := by decide +kernel
theorem dX2_wayOf_110 : decode cX2_wayOf 110 = .ok (.aload_n 0, 1) := by decide +kernel
theorem dX2_wayOf_111 : decode cX2_wayOf 111 = .ok (.getfield 12, 3) := by decide +kernel
theorem dX2_wayOf_114 : decode cX2_wayOf 114 = .ok (.getfield 51, 3) := by decide +kernel
theorem dX2_wayOf_117 : decode cX2_wayOf 117 = .ok (.if_icmp .ge 65, 3) := by decide +kernel
theorem dX2_wayOf_120 : decode cX2_wayOf 120 = .ok (.aload_n 0, 1) := by decide +kernel
theorem dX2_wayOf_121 : decode cX2_wayOf 121 = .ok (.getfield 12, 3) := by decide +kernel
theorem dX2_wayOf_124 : decode cX2_wayOf 124 = .ok (.iload 5, 2) := by decide +kernel
theorem dX2_wayOf_126 : decode cX2_wayOf 126 = .ok (.invokevirtual 61, 3) := by decide +kernel
theorem dX2_wayOf_129 : decode cX2_wayOf 129 = .ok (.ifCond .eq 47, 3) := by decide +kernel
theorem dX2_wayOf_132 : decode cX2_wayOf 132 = .ok (.aload_n 0, 1) := by decide +kernel
theorem dX2_wayOf_133 : decode cX2_wayOf 133 = .ok (.getfield 18, 3) := by decide +kernel
theorem dX2_wayOf_136 : decode cX2_wayOf 136 = .ok (.iload 5, 2) := by decide +kernel
theorem dX2_wayOf_138 : decode cX2_wayOf 138 = .ok (.iconst 1, 1) := by decide +kernel
theorem dX2_wayOf_139 : decode cX2_wayOf 139 = .ok (.iload_n 3, 1) := by decide +kernel
theorem dX2_wayOf_140 : decode cX2_wayOf 140 = .ok (.invokestatic 65, 3) := by decide +kernel
theorem dX2_wayOf_143 : decode cX2_wayOf 143 = .ok (.iaload, 1) := by decide +kernel
theorem dX2_wayOf_144 : decode cX2_wayOf 144 = .ok (.iload_n 2, 1) := by decide +kernel
theorem dX2_wayOf_145 : decode cX2_wayOf 145 = .ok (.if_icmp .ge 31, 3) := by decide +kernel
theorem dX2_wayOf_148 : decode cX2_wayOf 148 = .ok (.aload_n 0, 1) := by decide +kernel
theorem dX2_wayOf_149 : decode cX2_wayOf 149 = .ok (.getfield 18, 3) := by decide +kernel
theorem dX2_wayOf_152 : decode cX2_wayOf 152 = .ok (.bipush 28, 2) := by decide +kernel
theorem dX2_wayOf_154 : decode cX2_wayOf 154 = .ok (.iload 5, 2) := by decide +kernel
theorem dX2_wayOf_156 : decode cX2_wayOf 156 = .ok (.imul, 1) := by decide +kernel
theorem dX2_wayOf_157 : decode cX2_wayOf 157 = .ok (.iload 4, 2) := by decide +kernel
theorem dX2_wayOf_159 : decode cX2_wayOf 159 = .ok (.iadd, 1) := by decide +kernel
theorem dX2_wayOf_160 : decode cX2_wayOf 160 = .ok (.iaload, 1) := by decide +kernel
theorem dX2_wayOf_161 : decode cX2_wayOf 161 = .ok (.iload_n 2, 1) := by decide +kernel
theorem dX2_wayOf_162 : decode cX2_wayOf 162 = .ok (.if_icmp .ge 14, 3) := by decide +kernel
theorem dX2_wayOf_165 : decode cX2_wayOf 165 = .ok (.bipush 100, 2) := by decide +kernel
theorem dX2_wayOf_167 : decode cX2_wayOf 167 = .ok (.bipush 10, 2) := by decide +kernel
theorem dX2_wayOf_169 : decode cX2_wayOf 169 = .ok (.iload 5, 2) := by decide +kernel
theorem dX2_wayOf_171 : decode cX2_wayOf 171 = .ok (.imul, 1) := by decide +kernel
theorem dX2_wayOf_172 : decode cX2_wayOf 172 = .ok (.iadd, 1) := by decide +kernel
theorem dX2_wayOf_173 : decode cX2_wayOf 173 = .ok (.iload_n 3, 1) := by decide +kernel
theorem dX2_wayOf_174 : decode cX2_wayOf 174 = .ok (.iadd, 1) := by decide +kernel
theorem dX2_wayOf_175 : decode cX2_wayOf 175 = .ok (.ireturn, 1) := by decide +kernel
theorem dX2_wayOf_176 : decode cX2_wayOf 176 = .ok (.iinc 5 1, 3) := by decide +kernel
theorem dX2_wayOf_179 : decode cX2_wayOf 179 = .ok (.goto (-71), 3) := by decide +kernel
theorem dX2_wayOf_182 : decode cX2_wayOf 182 = .ok (.bipush (-9), 2) := by decide +kernel
theorem dX2_wayOf_184 : decode cX2_wayOf 184 = .ok (.ireturn, 1) := by decide +kernel
theorem dX2_prove_0 : decode cX2_prove 0 = .ok (.aload_n 0, 1) := by decide +kernel
theorem dX2_prove_1 : decode cX2_prove 1 = .ok (.iconst 0, 1) := by decide +kernel
theorem dX2_prove_2 : decode cX2_prove 2 = .ok (.putfield 69, 3) := by decide +kernel
theorem dX2_prove_5 : decode cX2_prove 5 = .ok (.iconst 0, 1) := by decide +kernel
theorem dX2_prove_6 : decode cX2_prove 6 = .ok (.istore_n 2, 1) := by decide +kernel
theorem dX2_prove_7 : decode cX2_prove 7 = .ok (.iload_n 2, 1) := by decide +kernel
theorem dX2_prove_8 : decode cX2_prove 8 = .ok (.sipush 196, 3) := by decide +kernel
theorem dX2_prove_11 : decode cX2_prove 11 = .ok (.if_icmp .ge 16, 3) := by decide +kernel
theorem dX2_prove_14 : decode cX2_prove 14 = .ok (.aload_n 0, 1) := by decide +kernel
theorem dX2_prove_15 : decode cX2_prove 15 = .ok (.getfield 28, 3) := by decide +kernel
theorem dX2_prove_18 : decode cX2_prove 18 = .ok (.iload_n 2, 1) := by decide +kernel
theorem dX2_prove_19 : decode cX2_prove 19 = .ok (.iconst 0, 1) := by decide +kernel
theorem dX2_prove_20 : decode cX2_prove 20 = .ok (.bastore, 1) := by decide +kernel
theorem dX2_prove_21 : decode cX2_prove 21 = .ok (.iinc 2 1, 3) := by decide +kernel
theorem dX2_prove_24 : decode cX2_prove 24 = .ok (.goto (-17), 3) := by decide +kernel
theorem dX2_prove_27 : decode cX2_prove 27 = .ok (.aload_n 0, 1) := by decide +kernel
theorem dX2_prove_28 : decode cX2_prove 28 = .ok (.iload_n 1, 1) := by decide +kernel
theorem dX2_prove_29 : decode cX2_prove 29 = .ok (.invokevirtual 72, 3) := by decide +kernel
theorem dX2_prove_32 : decode cX2_prove 32 = .ok (.iconst 0, 1) := by decide +kernel
theorem dX2_prove_33 : decode cX2_prove 33 = .ok (.istore_n 2, 1) := by decide +kernel
theorem dX2_prove_34 : decode cX2_prove 34 = .ok (.iconst 0, 1) := by decide +kernel
theorem dX2_prove_35 : decode cX2_prove 35 = .ok (.istore_n 3, 1) := by decide +kernel
theorem dX2_prove_36 : decode cX2_prove 36 = .ok (.iload_n 3, 1) := by decide +kernel
theorem dX2_prove_37 : decode cX2_prove 37 = .ok (.sipush 196, 3) := by decide +kernel
theorem dX2_prove_40 : decode cX2_prove 40 = .ok (.if_icmp .ge 51, 3) := by decide +kernel
theorem dX2_prove_43 : decode cX2_prove 43 = .ok (.iload_n 3, 1) := by decide +kernel
theorem dX2_prove_44 : decode cX2_prove 44 = .ok (.aload_n 0, 1) := by decide +kernel
theorem dX2_prove_45 : decode cX2_prove 45 = .ok (.getfield 69, 3) := by decide +kernel
theorem dX2_prove_48 : decode cX2_prove 48 = .ok (.if_icmp .ge 43, 3) := by decide +kernel
theorem dX2_prove_51 : decode cX2_prove 51 = .ok (.aload_n 0, 1) := by decide +kernel
theorem dX2_prove_52 : decode cX2_prove 52 = .ok (.aload_n 0, 1) := by decide +kernel
theorem dX2_prove_53 : decode cX2_prove 53 = .ok (.getfield 25, 3) := by decide +kernel
theorem dX2_prove_56 : decode cX2_prove 56 = .ok (.iload_n 3, 1) := by decide +kernel
theorem dX2_prove_57 : decode cX2_prove 57 = .ok (.iaload, 1) := by decide +kernel
theorem dX2_prove_58 : decode cX2_prove 58 = .ok (.invokevirtual 75, 3) := by decide +kernel
theorem dX2_prove_61 : decode cX2_prove 61 = .ok (.istore 4, 2) := by decide +kernel
theorem dX2_prove_63 : decode cX2_prove 63 = .ok (.iload 4, 2) := by decide +kernel
theorem dX2_prove_65 : decode cX2_prove 65 = .ok (.bipush (-9), 2) := by decide +kernel
theorem dX2_prove_67 : decode cX2_prove 67 = .ok (.if_icmp .eq 18, 3) := by decide +kernel
theorem dX2_prove_70 : decode cX2_prove 70 = .ok (.iinc 2 1, 3) := by decide +kernel
theorem dX2_prove_73 : decode cX2_prove 73 = .ok (.aload_n 0, 1) := by decide +kernel
theorem dX2_prove_74 : decode cX2_prove 74 = .ok (.aload_n 0, 1) := by decide +kernel
theorem dX2_prove_75 : decode cX2_prove 75 = .ok (.getfield 25, 3) := by decide +kernel
theorem dX2_prove_78 : decode cX2_prove 78 = .ok (.iload_n 3, 1) := by decide +kernel
theorem dX2_prove_79 : decode cX2_prove 79 = .ok (.iaload, 1) := by decide +kernel
theorem dX2_prove_80 : decode cX2_prove 80 = .ok (.iload 4, 2) := by decide +kernel
theorem dX2_prove_82 : decode cX2_prove 82 = .ok (.invokevirtual 78, 3) := by decide +kernel
theorem dX2_prove_85 : decode cX2_prove 85 = .ok (.iinc 3 1, 3) := by decide +kernel
theorem dX2_prove_88 : decode cX2_prove 88 = .ok (.goto (-52), 3) := by decide +kernel
theorem dX2_prove_91 : decode cX2_prove 91 = .ok (.iload_n 2, 1) := by decide +kernel
theorem dX2_prove_92 : decode cX2_prove 92 = .ok (.ireturn, 1) := by decide +kernel
theorem dX2_addNeeds_0 : decode cX2_addNeeds 0 = .ok (.iload_n 2, 1) := by decide +kernel
theorem dX2_addNeeds_1 : decode cX2_addNeeds 1 = .ok (.bipush 100, 2) := by decide +kernel
theorem dX2_addNeeds_3 : decode cX2_addNeeds 3 = .ok (.if_icmp .lt 7, 3) := by decide +kernel
theorem dX2_addNeeds_6 : decode cX2_addNeeds 6 = .ok (.iconst 1, 1) := by decide +kernel
theorem dX2_addNeeds_7 : decode cX2_addNeeds 7 = .ok (.goto 4, 3) := by decide +kernel
theorem dX2_addNeeds_10 : decode cX2_addNeeds 10 = .ok (.iconst 0, 1) := by decide +kernel
theorem dX2_addNeeds_11 : decode cX2_addNeeds 11 = .ok (.istore_n 3, 1) := by decide +kernel
theorem dX2_addNeeds_12 : decode cX2_addNeeds 12 = .ok (.iload_n 2, 1) := by decide +kernel
theorem dX2_addNeeds_13 : decode cX2_addNeeds 13 = .ok (.bipush 10, 2) := by decide +kernel
theorem dX2_addNeeds_15 : decode cX2_addNeeds 15 = .ok (.idiv, 1) := by decide +kernel
theorem dX2_addNeeds_16 : decode cX2_addNeeds 16 = .ok (.bipush 10, 2) := by decide +kernel
theorem dX2_addNeeds_18 : decode cX2_addNeeds 18 = .ok (.irem, 1) := by decide +kernel
theorem dX2_addNeeds_19 : decode cX2_addNeeds 19 = .ok (.istore 4, 2) := by decide +kernel
theorem dX2_addNeeds_21 : decode cX2_addNeeds 21 = .ok (.iload_n 2, 1) := by decide +kernel
theorem dX2_addNeeds_22 : decode cX2_addNeeds 22 = .ok (.bipush 10, 2) := by decide +kernel
theorem dX2_addNeeds_24 : decode cX2_addNeeds 24 = .ok (.irem, 1) := by decide +kernel
theorem dX2_addNeeds_25 : decode cX2_addNeeds 25 = .ok (.istore 5, 2) := by decide +kernel
theorem dX2_addNeeds_27 : decode cX2_addNeeds 27 = .ok (.aload_n 0, 1) := by decide +kernel
theorem dX2_addNeeds_28 : decode cX2_addNeeds 28 = .ok (.iload 4, 2) := by decide +kernel
theorem dX2_addNeeds_30 : decode cX2_addNeeds 30 = .ok (.iload_n 3, 1) := by decide +kernel
theorem dX2_addNeeds_31 : decode cX2_addNeeds 31 = .ok (.ifCond .eq 7, 3) := by decide +kernel
theorem dX2_addNeeds_34 : decode cX2_addNeeds 34 = .ok (.iconst 1, 1) := by decide +kernel
theorem dX2_addNeeds_35 : decode cX2_addNeeds 35 = .ok (.goto 4, 3) := by decide +kernel
theorem dX2_addNeeds_38 : decode cX2_addNeeds 38 = .ok (.iconst 0, 1) := by decide +kernel
theorem dX2_addNeeds_39 : decode cX2_addNeeds 39 = .ok (.iload 5, 2) := by decide +kernel
theorem dX2_addNeeds_41 : decode cX2_addNeeds 41 = .ok (.invokestatic 65, 3) := by decide +kernel
theorem dX2_addNeeds_44 : decode cX2_addNeeds 44 = .ok (.invokevirtual 72, 3) := by decide +kernel
theorem dX2_addNeeds_47 : decode cX2_addNeeds 47 = .ok (.aload_n 0, 1) := by decide +kernel
theorem dX2_addNeeds_48 : decode cX2_addNeeds 48 = .ok (.bipush 28, 2) := by decide +kernel
theorem dX2_addNeeds_50 : decode cX2_addNeeds 50 = .ok (.iload_n 3, 1) := by decide +kernel
theorem dX2_addNeeds_51 : decode cX2_addNeeds 51 = .ok (.ifCond .eq 8, 3) := by decide +kernel
theorem dX2_addNeeds_54 : decode cX2_addNeeds 54 = .ok (.iload 4, 2) := by decide +kernel
theorem dX2_addNeeds_56 : decode cX2_addNeeds 56 = .ok (.goto 5, 3) := by decide +kernel
theorem dX2_addNeeds_59 : decode cX2_addNeeds 59 = .ok (.iload 5, 2) := by decide +kernel
theorem dX2_addNeeds_61 : decode cX2_addNeeds 61 = .ok (.imul, 1) := by decide +kernel
theorem dX2_addNeeds_62 : decode cX2_addNeeds 62 = .ok (.iload_n 1, 1) := by decide +kernel
theorem dX2_addNeeds_63 : decode cX2_addNeeds 63 = .ok (.bipush 28, 2) := by decide +kernel
theorem dX2_addNeeds_65 : decode cX2_addNeeds 65 = .ok (.irem, 1) := by decide +kernel
theorem dX2_addNeeds_66 : decode cX2_addNeeds 66 = .ok (.iadd, 1) := by decide +kernel
theorem dX2_addNeeds_67 : decode cX2_addNeeds 67 = .ok (.invokevirtual 72, 3) := by decide +kernel
theorem dX2_addNeeds_70 : decode cX2_addNeeds 70 = .ok (.return_, 1) := by decide +kernel
theorem dX2_addToProof_0 : decode cX2_addToProof 0 = .ok (.aload_n 0, 1) := by decide +kernel
theorem dX2_addToProof_1 : decode cX2_addToProof 1 = .ok (.getfield 28, 3) := by decide +kernel
theorem dX2_addToProof_4 : decode cX2_addToProof 4 = .ok (.iload_n 1, 1) := by decide +kernel
theorem dX2_addToProof_5 : decode cX2_addToProof 5 = .ok (.baload, 1) := by decide +kernel
theorem dX2_addToProof_6 : decode cX2_addToProof 6 = .ok (.ifCond .ne 40, 3) := by decide +kernel
theorem dX2_addToProof_9 : decode cX2_addToProof 9 = .ok (.aload_n 0, 1) := by decide +kernel
theorem dX2_addToProof_10 : decode cX2_addToProof 10 = .ok (.getfield 69, 3) := by decide +kernel
theorem dX2_addToProof_13 : decode cX2_addToProof 13 = .ok (.sipush 196, 3) := by decide +kernel
theorem dX2_addToProof_16 : decode cX2_addToProof 16 = .ok (.if_icmp .ge 30, 3) := by decide +kernel
theorem dX2_addToProof_19 : decode cX2_addToProof 19 = .ok (.aload_n 0, 1) := by decide +kernel
theorem dX2_addToProof_20 : decode cX2_addToProof 20 = .ok (.getfield 28, 3) := by decide +kernel
theorem dX2_addToProof_23 : decode cX2_addToProof 23 = .ok (.iload_n 1, 1) := by decide +kernel
theorem dX2_addToProof_24 : decode cX2_addToProof 24 = .ok (.iconst 1, 1) := by decide +kernel
theorem dX2_addToProof_25 : decode cX2_addToProof 25 = .ok (.bastore, 1) := by decide +kernel
theorem dX2_addToProof_26 : decode cX2_addToProof 26 = .ok (.aload_n 0, 1) := by decide +kernel
theorem dX2_addToProof_27 : decode cX2_addToProof 27 = .ok (.getfield 25, 3) := by decide +kernel
theorem dX2_addToProof_30 : decode cX2_addToProof 30 = .ok (.aload_n 0, 1) := by decide +kernel
theorem dX2_addToProof_31 : decode cX2_addToProof 31 = .ok (.getfield 69, 3) := by decide +kernel
theorem dX2_addToProof_34 : decode cX2_addToProof 34 = .ok (.iload_n 1, 1) := by decide +kernel
theorem dX2_addToProof_35 : decode cX2_addToProof 35 = .ok (.iastore, 1) := by decide +kernel
theorem dX2_addToProof_36 : decode cX2_addToProof 36 = .ok (.aload_n 0, 1) := by decide +kernel
theorem dX2_addToProof_37 : decode cX2_addToProof 37 = .ok (.dup, 1) := by decide +kernel
theorem dX2_addToProof_38 : decode cX2_addToProof 38 = .ok (.getfield 69, 3) := by decide +kernel
theorem dX2_addToProof_41 : decode cX2_addToProof 41 = .ok (.iconst 1, 1) := by decide +kernel
theorem dX2_addToProof_42 : decode cX2_addToProof 42 = .ok (.iadd, 1) := by decide +kernel
theorem dX2_addToProof_43 : decode cX2_addToProof 43 = .ok (.putfield 69, 3) := by decide +kernel
theorem dX2_addToProof_46 : decode cX2_addToProof 46 = .ok (.return_, 1) := by decide +kernel
theorem dX2_isUsed_0 : decode cX2_isUsed 0 = .ok (.aload_n 0, 1) := by decide +kernel
theorem dX2_isUsed_1 : decode cX2_isUsed 1 = .ok (.getfield 28, 3) := by decide +kernel
theorem dX2_isUsed_4 : decode cX2_isUsed 4 = .ok (.iload_n 1, 1) := by decide +kernel
theorem dX2_isUsed_5 : decode cX2_isUsed 5 = .ok (.baload, 1) := by decide +kernel
theorem dX2_isUsed_6 : decode cX2_isUsed 6 = .ok (.ireturn, 1) := by decide +kernel
theorem dX3_init_0 : decode cX3_init 0 = .ok (.aload_n 0, 1) := by decide +kernel
theorem dX3_init_1 : decode cX3_init 1 = .ok (.invokespecial 3, 3) := by decide +kernel
theorem dX3_init_4 : decode cX3_init 4 = .ok (.aload_n 0, 1) := by decide +kernel
theorem dX3_init_5 : decode cX3_init 5 = .ok (.bipush 7, 2) := by decide +kernel
theorem dX3_init_7 : decode cX3_init 7 = .ok (.newarray .int, 2) := by decide +kernel
theorem dX3_init_9 : decode cX3_init 9 = .ok (.putfield 9, 3) := by decide +kernel
theorem dX3_init_12 : decode cX3_init 12 = .ok (.return_, 1) := by decide +kernel
theorem dX3_copyFrom_0 : decode cX3_copyFrom 0 = .ok (.aload_n 0, 1) := by decide +kernel
theorem dX3_copyFrom_1 : decode cX3_copyFrom 1 = .ok (.aload_n 1, 1) := by decide +kernel
theorem dX3_copyFrom_2 : decode cX3_copyFrom 2 = .ok (.getfield 15, 3) := by decide +kernel
theorem dX3_copyFrom_5 : decode cX3_copyFrom 5 = .ok (.putfield 15, 3) := by decide +kernel
theorem dX3_copyFrom_8 : decode cX3_copyFrom 8 = .ok (.aload_n 0, 1) := by decide +kernel
theorem dX3_copyFrom_9 : decode cX3_copyFrom 9 = .ok (.aload_n 1, 1) := by decide +kernel
theorem dX3_copyFrom_10 : decode cX3_copyFrom 10 = .ok (.getfield 19, 3) := by decide +kernel
theorem dX3_copyFrom_13 : decode cX3_copyFrom 13 = .ok (.putfield 19, 3) := by decide +kernel
theorem dX3_copyFrom_16 : decode cX3_copyFrom 16 = .ok (.aload_n 0, 1) := by decide +kernel
theorem dX3_copyFrom_17 : decode cX3_copyFrom 17 = .ok (.aload_n 1, 1) := by decide +kernel
theorem dX3_copyFrom_18 : decode cX3_copyFrom 18 = .ok (.getfield 22, 3) := by decide +kernel
theorem dX3_copyFrom_21 : decode cX3_copyFrom 21 = .ok (.putfield 22, 3) := by decide +kernel
theorem dX3_copyFrom_24 : decode cX3_copyFrom 24 = .ok (.iconst 0, 1) := by decide +kernel
theorem dX3_copyFrom_25 : decode cX3_copyFrom 25 = .ok (.istore_n 2, 1) := by decide +kernel
theorem dX3_copyFrom_26 : decode cX3_copyFrom 26 = .ok (.iload_n 2, 1) := by decide +kernel
theorem dX3_copyFrom_27 : decode cX3_copyFrom 27 = .ok (.bipush 7, 2) := by decide +kernel
theorem dX3_copyFrom_29 : decode cX3_copyFrom 29 = .ok (.if_icmp .ge 21, 3) := by decide +kernel
theorem dX3_copyFrom_32 : decode cX3_copyFrom 32 = .ok (.aload_n 0, 1) := by decide +kernel
theorem dX3_copyFrom_33 : decode cX3_copyFrom 33 = .ok (.getfield 9, 3) := by decide +kernel
theorem dX3_copyFrom_36 : decode cX3_copyFrom 36 = .ok (.iload_n 2, 1) := by decide +kernel
theorem dX3_copyFrom_37 : decode cX3_copyFrom 37 = .ok (.aload_n 1, 1) := by decide +kernel
theorem dX3_copyFrom_38 : decode cX3_copyFrom 38 = .ok (.getfield 9, 3) := by decide +kernel
theorem dX3_copyFrom_41 : decode cX3_copyFrom 41 = .ok (.iload_n 2, 1) := by decide +kernel
theorem dX3_copyFrom_42 : decode cX3_copyFrom 42 = .ok (.iaload, 1) := by decide +kernel
theorem dX3_copyFrom_43 : decode cX3_copyFrom 43 = .ok (.iastore, 1) := by decide +kernel
theorem dX3_copyFrom_44 : decode cX3_copyFrom 44 = .ok (.iinc 2 1, 3) := by decide +kernel
theorem dX3_copyFrom_47 : decode cX3_copyFrom 47 = .ok (.goto (-21), 3) := by decide +kernel
theorem dX3_copyFrom_50 : decode cX3_copyFrom 50 = .ok (.return_, 1) := by decide +kernel
theorem dX3_makeEmpty_0 : decode cX3_makeEmpty 0 = .ok (.aload_n 0, 1) := by decide +kernel
theorem dX3_makeEmpty_1 : decode cX3_makeEmpty 1 = .ok (.iconst 0, 1) := by decide +kernel
theorem dX3_makeEmpty_2 : decode cX3_makeEmpty 2 = .ok (.putfield 15, 3) := by decide +kernel
theorem dX3_makeEmpty_5 : decode cX3_makeEmpty 5 = .ok (.aload_n 0, 1) := by decide +kernel
theorem dX3_makeEmpty_6 : decode cX3_makeEmpty 6 = .ok (.iconst 0, 1) := by decide +kernel
theorem dX3_makeEmpty_7 : decode cX3_makeEmpty 7 = .ok (.putfield 19, 3) := by decide +kernel
theorem dX3_makeEmpty_10 : decode cX3_makeEmpty 10 = .ok (.aload_n 0, 1) := by decide +kernel
theorem dX3_makeEmpty_11 : decode cX3_makeEmpty 11 = .ok (.iconst 0, 1) := by decide +kernel
theorem dX3_makeEmpty_12 : decode cX3_makeEmpty 12 = .ok (.putfield 22, 3) := by decide +kernel
theorem dX3_makeEmpty_15 : decode cX3_makeEmpty 15 = .ok (.iconst 0, 1) := by decide +kernel
theorem dX3_makeEmpty_16 : decode cX3_makeEmpty 16 = .ok (.istore_n 1, 1) := by decide +kernel
theorem dX3_makeEmpty_17 : decode cX3_makeEmpty 17 = .ok (.iload_n 1, 1) := by decide +kernel
theorem dX3_makeEmpty_18 : decode cX3_makeEmpty 18 = .ok (.bipush 7, 2) := by decide +kernel
theorem dX3_makeEmpty_20 : decode cX3_makeEmpty 20 = .ok (.if_icmp .ge 16, 3) := by decide +kernel
theorem dX3_makeEmpty_23 : decode cX3_makeEmpty 23 = .ok (.aload_n 0, 1) := by decide +kernel
theorem dX3_makeEmpty_24 : decode cX3_makeEmpty 24 = .ok (.getfield 9, 3) := by decide +kernel
theorem dX3_makeEmpty_27 : decode cX3_makeEmpty 27 = .ok (.iload_n 1, 1) := by decide +kernel
theorem dX3_makeEmpty_28 : decode cX3_makeEmpty 28 = .ok (.iconst 0, 1) := by decide +kernel
theorem dX3_makeEmpty_29 : decode cX3_makeEmpty 29 = .ok (.iastore, 1) := by decide +kernel
theorem dX3_makeEmpty_30 : decode cX3_makeEmpty 30 = .ok (.iinc 1 1, 3) := by decide +kernel
theorem dX3_makeEmpty_33 : decode cX3_makeEmpty 33 = .ok (.goto (-16), 3) := by decide +kernel
theorem dX3_makeEmpty_36 : decode cX3_makeEmpty 36 = .ok (.return_, 1) := by decide +kernel
theorem dX3_exists_0 : decode cX3_exists 0 = .ok (.iload_n 1, 1) := by decide +kernel
theorem dX3_exists_1 : decode cX3_exists 1 = .ok (.ifCond .lt 15, 3) := by decide +kernel
theorem dX3_exists_4 : decode cX3_exists 4 = .ok (.iload_n 1, 1) := by decide +kernel
theorem dX3_exists_5 : decode cX3_exists 5 = .ok (.aload_n 0, 1) := by decide +kernel
theorem dX3_exists_6 : decode cX3_exists 6 = .ok (.getfield 15, 3) := by decide +kernel
theorem dX3_exists_9 : decode cX3_exists 9 = .ok (.if_icmp .ge 7, 3) := by decide +kernel
theorem dX3_exists_12 : decode cX3_exists 12 = .ok (.iconst 1, 1) := by decide +kernel
theorem dX3_exists_13 : decode cX3_exists 13 = .ok (.goto 4, 3) := by decide +kernel
theorem dX3_exists_16 : decode cX3_exists 16 = .ok (.iconst 0, 1) := by decide +kernel
theorem dX3_exists_17 : decode cX3_exists 17 = .ok (.ireturn, 1) := by decide +kernel
theorem dX3_isPerson_0 : decode cX3_isPerson 0 = .ok (.aload_n 0, 1) := by decide +kernel
theorem dX3_isPerson_1 : decode cX3_isPerson 1 = .ok (.getfield 19, 3) := by decide +kernel
theorem dX3_isPerson_4 : decode cX3_isPerson 4 = .ok (.iload_n 1, 1) := by decide +kernel
theorem dX3_isPerson_5 : decode cX3_isPerson 5 = .ok (.ishr, 1) := by decide +kernel
theorem dX3_isPerson_6 : decode cX3_isPerson 6 = .ok (.iconst 1, 1) := by decide +kernel
theorem dX3_isPerson_7 : decode cX3_isPerson 7 = .ok (.iand, 1) := by decide +kernel
theorem dX3_isPerson_8 : decode cX3_isPerson 8 = .ok (.ifCond .eq 7, 3) := by decide +kernel
theorem dX3_isPerson_11 : decode cX3_isPerson 11 = .ok (.iconst 1, 1) := by decide +kernel
theorem dX3_isPerson_12 : decode cX3_isPerson 12 = .ok (.goto 4, 3) := by decide +kernel
theorem dX3_isPerson_15 : decode cX3_isPerson 15 = .ok (.iconst 0, 1) := by decide +kernel
theorem dX3_isPerson_16 : decode cX3_isPerson 16 = .ok (.ireturn, 1) := by decide +kernel
theorem dX3_isAwake_0 : decode cX3_isAwake 0 = .ok (.aload_n 0, 1) := by decide +kernel
theorem dX3_isAwake_1 : decode cX3_isAwake 1 = .ok (.getfield 22, 3) := by decide +kernel
theorem dX3_isAwake_4 : decode cX3_isAwake 4 = .ok (.iload_n 1, 1) := by decide +kernel
theorem dX3_isAwake_5 : decode cX3_isAwake 5 = .ok (.ishr, 1) := by decide +kernel
theorem dX3_isAwake_6 : decode cX3_isAwake 6 = .ok (.iconst 1, 1) := by decide +kernel
theorem dX3_isAwake_7 : decode cX3_isAwake 7 = .ok (.iand, 1) := by decide +kernel
theorem dX3_isAwake_8 : decode cX3_isAwake 8 = .ok (.ifCond .eq 7, 3) := by decide +kernel
theorem dX3_isAwake_11 : decode cX3_isAwake 11 = .ok (.iconst 1, 1) := by decide +kernel
theorem dX3_isAwake_12 : decode cX3_isAwake 12 = .ok (.goto 4, 3) := by decide +kernel
theorem dX3_isAwake_15 : decode cX3_isAwake 15 = .ok (.iconst 0, 1) := by decide +kernel
theorem dX3_isAwake_16 : decode cX3_isAwake 16 = .ok (.ireturn, 1) := by decide +kernel
theorem dX3_isRight_0 : decode cX3_isRight 0 = .ok (.aload_n 0, 1) := by decide +kernel
theorem dX3_isRight_1 : decode cX3_isRight 1 = .ok (.iload_n 1, 1) := by decide +kernel
theorem dX3_isRight_2 : decode cX3_isRight 2 = .ok (.invokevirtual 25, 3) := by decide +kernel
theorem dX3_isRight_5 : decode cX3_isRight 5 = .ok (.ifCond .eq 29, 3) := by decide +kernel
theorem dX3_isRight_8 : decode cX3_isRight 8 = .ok (.aload_n 0, 1) := by decide +kernel
theorem dX3_isRight_9 : decode cX3_isRight 9 = .ok (.iload_n 3, 1) := by decide +kernel
theorem dX3_isRight_10 : decode cX3_isRight 10 = .ok (.invokevirtual 25, 3) := by decide +kernel
theorem dX3_isRight_13 : decode cX3_isRight 13 = .ok (.ifCond .eq 21, 3) := by decide +kernel
theorem dX3_isRight_16 : decode cX3_isRight 16 = .ok (.iload_n 1, 1) := by decide +kernel
theorem dX3_isRight_17 : decode cX3_isRight 17 = .ok (.iload_n 3, 1) := by decide +kernel
theorem dX3_isRight_18 : decode cX3_isRight 18 = .ok (.if_icmp .eq 16, 3) := by decide +kernel
theorem dX3_isRight_21 : decode cX3_isRight 21 = .ok (.iload_n 2, 1) := by decide +kernel
theorem dX3_isRight_22 : decode cX3_isRight 22 = .ok (.ifCond .lt 12, 3) := by decide +kernel
theorem dX3_isRight_25 : decode cX3_isRight 25 = .ok (.iload_n 2, 1) := by decide +kernel
theorem dX3_isRight_26 : decode cX3_isRight 26 = .ok (.iconst 4, 1) := by decide +kernel
theorem dX3_isRight_27 : decode cX3_isRight 27 = .ok (.if_icmp .ge 7, 3) := by decide +kernel
theorem dX3_isRight_30 : decode cX3_isRight 30 = .ok (.iconst 1, 1) := by decide +kernel
theorem dX3_isRight_31 : decode cX3_isRight 31 = .ok (.goto 4, 3) := by decide +kernel
theorem dX3_isRight_34 : decode cX3_isRight 34 = .ok (.iconst 0, 1) := by decide +kernel
theorem dX3_isRight_35 : decode cX3_isRight 35 = .ok (.ireturn, 1) := by decide +kernel
theorem dX3_isRightIndex_0 : decode cX3_isRightIndex 0 = .ok (.aload_n 0, 1) := by decide +kernel
theorem dX3_isRightIndex_1 : decode cX3_isRightIndex 1 = .ok (.iload_n 1, 1) := by decide +kernel
theorem dX3_isRightIndex_2 : decode cX3_isRightIndex 2 = .ok (.invokestatic 29, 3) := by decide +kernel
theorem dX3_isRightIndex_5 : decode cX3_isRightIndex 5 = .ok (.iload_n 1, 1) := by decide +kernel
theorem dX3_isRightIndex_6 : decode cX3_isRightIndex 6 = .ok (.invokestatic 33, 3) := by decide +kernel
theorem dX3_isRightIndex_9 : decode cX3_isRightIndex 9 = .ok (.iload_n 1, 1) := by decide +kernel
theorem dX3_isRightIndex_10 : decode cX3_isRightIndex 10 = .ok (.invokestatic 36, 3) := by decide +kernel
theorem dX3_isRightIndex_13 : decode cX3_isRightIndex 13 = .ok (.invokevirtual 39, 3) := by decide +kernel
theorem dX3_isRightIndex_16 : decode cX3_isRightIndex 16 = .ok (.ireturn, 1) := by decide +kernel
theorem dX3_has_0 : decode cX3_has 0 = .ok (.aload_n 0, 1) := by decide +kernel
theorem dX3_has_1 : decode cX3_has 1 = .ok (.getfield 9, 3) := by decide +kernel
theorem dX3_has_4 : decode cX3_has 4 = .ok (.iload_n 1, 1) := by decide +kernel
theorem dX3_has_5 : decode cX3_has 5 = .ok (.bipush 28, 2) := by decide +kernel
theorem dX3_has_7 : decode cX3_has 7 = .ok (.idiv, 1) := by decide +kernel
theorem dX3_has_8 : decode cX3_has 8 = .ok (.iaload, 1) := by decide +kernel
theorem dX3_has_9 : decode cX3_has 9 = .ok (.iload_n 1, 1) := by decide +kernel
theorem dX3_has_10 : decode cX3_has 10 = .ok (.bipush 28, 2) := by decide +kernel
theorem dX3_has_12 : decode cX3_has 12 = .ok (.irem, 1) := by decide +kernel
theorem dX3_has_13 : decode cX3_has 13 = .ok (.ishr, 1) := by decide +kernel
theorem dX3_has_14 : decode cX3_has 14 = .ok (.iconst 1, 1) := by decide +kernel
theorem dX3_has_15 : decode cX3_has 15 = .ok (.iand, 1) := by decide +kernel
theorem dX3_has_16 : decode cX3_has 16 = .ok (.ifCond .eq 7, 3) := by decide +kernel
theorem dX3_has_19 : decode cX3_has 19 = .ok (.iconst 1, 1) := by decide +kernel
theorem dX3_has_20 : decode cX3_has 20 = .ok (.goto 4, 3) := by decide +kernel
theorem dX3_has_23 : decode cX3_has 23 = .ok (.iconst 0, 1) := by decide +kernel
theorem dX3_has_24 : decode cX3_has 24 = .ok (.ireturn, 1) := by decide +kernel
theorem dX3_put_0 : decode cX3_put 0 = .ok (.iconst 1, 1) := by decide +kernel
theorem dX3_put_1 : decode cX3_put 1 = .ok (.iload_n 1, 1) := by decide +kernel
theorem dX3_put_2 : decode cX3_put 2 = .ok (.bipush 28, 2) := by decide +kernel
theorem dX3_put_4 : decode cX3_put 4 = .ok (.irem, 1) := by decide +kernel
theorem dX3_put_5 : decode cX3_put 5 = .ok (.ishl, 1) := by decide +kernel
theorem dX3_put_6 : decode cX3_put 6 = .ok (.istore_n 3, 1) := by decide +kernel
theorem dX3_put_7 : decode cX3_put 7 = .ok (.aload_n 0, 1) := by decide +kernel
theorem dX3_put_8 : decode cX3_put 8 = .ok (.getfield 9, 3) := by decide +kernel
theorem dX3_put_11 : decode cX3_put 11 = .ok (.iload_n 1, 1) := by decide +kernel
theorem dX3_put_12 : decode cX3_put 12 = .ok (.bipush 28, 2) := by decide +kernel
theorem dX3_put_14 : decode cX3_put 14 = .ok (.idiv, 1) := by decide +kernel
theorem dX3_put_15 : decode cX3_put 15 = .ok (.iaload, 1) := by decide +kernel
theorem dX3_put_16 : decode cX3_put 16 = .ok (.istore 4, 2) := by decide +kernel
theorem dX3_put_18 : decode cX3_put 18 = .ok (.aload_n 0, 1) := by decide +kernel
theorem dX3_put_19 : decode cX3_put 19 = .ok (.getfield 9, 3) := by decide +kernel
theorem dX3_put_22 : decode cX3_put 22 = .ok (.iload_n 1, 1) := by decide +kernel
theorem dX3_put_23 : decode cX3_put 23 = .ok (.bipush 28, 2) := by decide +kernel
theorem dX3_put_25 : decode cX3_put 25 = .ok (.idiv, 1) := by decide +kernel
theorem dX3_put_26 : decode cX3_put 26 = .ok (.iload_n 2, 1) := by decide +kernel
theorem dX3_put_27 : decode cX3_put 27 = .ok (.ifCond .eq 10, 3) := by decide +kernel
theorem dX3_put_30 : decode cX3_put 30 = .ok (.iload 4, 2) := by decide +kernel
theorem dX3_put_32 : decode cX3_put 32 = .ok (.iload_n 3, 1) := by decide +kernel
theorem dX3_put_33 : decode cX3_put 33 = .ok (.ior, 1) := by decide +kernel
theorem dX3_put_34 : decode cX3_put 34 = .ok (.goto 9, 3) := by decide +kernel
theorem dX3_put_37 : decode cX3_put 37 = .ok (.iload 4, 2) := by decide +kernel
theorem dX3_put_39 : decode cX3_put 39 = .ok (.iload_n 3, 1) := by decide +kernel
theorem dX3_put_40 : decode cX3_put 40 = .ok (.iconst (-1), 1) := by decide +kernel
theorem dX3_put_41 : decode cX3_put 41 = .ok (.ixor, 1) := by decide +kernel
theorem dX3_put_42 : decode cX3_put 42 = .ok (.iand, 1) := by decide +kernel
theorem dX3_put_43 : decode cX3_put 43 = .ok (.iastore, 1) := by decide +kernel
theorem dX3_put_44 : decode cX3_put 44 = .ok (.return_, 1) := by decide +kernel
theorem dX3_hasRoomFor_0 : decode cX3_hasRoomFor 0 = .ok (.aload_n 0, 1) := by decide +kernel
theorem dX3_hasRoomFor_1 : decode cX3_hasRoomFor 1 = .ok (.iload_n 1, 1) := by decide +kernel
theorem dX3_hasRoomFor_2 : decode cX3_hasRoomFor 2 = .ok (.invokevirtual 43, 3) := by decide +kernel
theorem dX3_hasRoomFor_5 : decode cX3_hasRoomFor 5 = .ok (.ifCond .ne 12, 3) := by decide +kernel
theorem dX3_hasRoomFor_8 : decode cX3_hasRoomFor 8 = .ok (.aload_n 0, 1) := by decide +kernel
theorem dX3_hasRoomFor_9 : decode cX3_hasRoomFor 9 = .ok (.invokevirtual 46, 3) := by decide +kernel
theorem dX3_hasRoomFor_12 : decode cX3_hasRoomFor 12 = .ok (.bipush 30, 2) := by decide +kernel
theorem dX3_hasRoomFor_14 : decode cX3_hasRoomFor 14 = .ok (.if_icmp .ge 7, 3) := by decide +kernel
theorem dX3_hasRoomFor_17 : decode cX3_hasRoomFor 17 = .ok (.iconst 1, 1) := by decide +kernel
theorem dX3_hasRoomFor_18 : decode cX3_hasRoomFor 18 = .ok (.goto 4, 3) := by decide +kernel
theorem dX3_hasRoomFor_21 : decode cX3_hasRoomFor 21 = .ok (.iconst 0, 1) := by decide +kernel
theorem dX3_hasRoomFor_22 : decode cX3_hasRoomFor 22 = .ok (.ireturn, 1) := by decide +kernel
theorem dX3_countRights_0 : decode cX3_countRights 0 = .ok (.iconst 0, 1) := by decide +kernel
theorem dX3_countRights_1 : decode cX3_countRights 1 = .ok (.istore_n 1, 1) := by decide +kernel
theorem dX3_countRights_2 : decode cX3_countRights 2 = .ok (.iconst 0, 1) := by decide +kernel
theorem dX3_countRights_3 : decode cX3_countRights 3 = .ok (.istore_n 2, 1) := by decide +kernel
theorem dX3_countRights_4 : decode cX3_countRights 4 = .ok (.iload_n 2, 1) := by decide +kernel
theorem dX3_countRights_5 : decode cX3_countRights 5 = .ok (.aload_n 0, 1) := by decide +kernel
theorem dX3_countRights_6 : decode cX3_countRights 6 = .ok (.getfield 15, 3) := by decide +kernel
theorem dX3_countRights_9 : decode cX3_countRights 9 = .ok (.if_icmp .ge 21, 3) := by decide +kernel
theorem dX3_countRights_12 : decode cX3_countRights 12 = .ok (.iload_n 1, 1) := by decide +kernel
theorem dX3_countRights_13 : decode cX3_countRights 13 = .ok (.aload_n 0, 1) := by decide +kernel
theorem dX3_countRights_14 : decode cX3_countRights 14 = .ok (.getfield 9, 3) := by decide +kernel
theorem dX3_countRights_17 : decode cX3_countRights 17 = .ok (.iload_n 2, 1) := by decide +kernel
theorem dX3_countRights_18 : decode cX3_countRights 18 = .ok (.iaload, 1) := by decide +kernel
theorem dX3_countRights_19 : decode cX3_countRights 19 = .ok (.invokestatic 50, 3) := by decide +kernel
theorem dX3_countRights_22 : decode cX3_countRights 22 = .ok (.iadd, 1) := by decide +kernel
theorem dX3_countRights_23 : decode cX3_countRights 23 = .ok (.istore_n 1, 1) := by decide +kernel
theorem dX3_countRights_24 : decode cX3_countRights 24 = .ok (.iinc 2 1, 3) := by decide +kernel
theorem dX3_countRights_27 : decode cX3_countRights 27 = .ok (.goto (-23), 3) := by decide +kernel
theorem dX3_countRights_30 : decode cX3_countRights 30 = .ok (.iload_n 1, 1) := by decide +kernel
theorem dX3_countRights_31 : decode cX3_countRights 31 = .ok (.ireturn, 1) := by decide +kernel
theorem dX3_countRightsOver_0 : decode cX3_countRightsOver 0 = .ok (.iconst 0, 1) := by decide +kernel
theorem dX3_countRightsOver_1 : decode cX3_countRightsOver 1 = .ok (.istore_n 2, 1) := by decide +kernel
theorem dX3_countRightsOver_2 : decode cX3_countRightsOver 2 = .ok (.iconst 0, 1) := by decide +kernel
theorem dX3_countRightsOver_3 : decode cX3_countRightsOver 3 = .ok (.istore_n 3, 1) := by decide +kernel
theorem dX3_countRightsOver_4 : decode cX3_countRightsOver 4 = .ok (.iload_n 3, 1) := by decide +kernel
theorem dX3_countRightsOver_5 : decode cX3_countRightsOver 5 = .ok (.aload_n 0, 1) := by decide +kernel
theorem dX3_countRightsOver_6 : decode cX3_countRightsOver 6 = .ok (.getfield 15, 3) := by decide +kernel
theorem dX3_countRightsOver_9 : decode cX3_countRightsOver 9 = .ok (.if_icmp .ge 26, 3) := by decide +kernel
theorem dX3_countRightsOver_12 : decode cX3_countRightsOver 12 = .ok (.iload_n 2, 1) := by decide +kernel
theorem dX3_countRightsOver_13 : decode cX3_countRightsOver 13 = .ok (.aload_n 0, 1) := by decide +kernel
theorem dX3_countRightsOver_14 : decode cX3_countRightsOver 14 = .ok (.getfield 9, 3) := by decide +kernel
theorem dX3_countRightsOver_17 : decode cX3_countRightsOver 17 = .ok (.iload_n 3, 1) := by decide +kernel
theorem dX3_countRightsOver_18 : decode cX3_countRightsOver 18 = .ok (.iaload, 1) := by decide +kernel
theorem dX3_countRightsOver_19 : decode cX3_countRightsOver 19 = .ok (.ldc 55, 2) := by decide +kernel
theorem dX3_countRightsOver_21 : decode cX3_countRightsOver 21 = .ok (.iload_n 1, 1) := by decide +kernel
theorem dX3_countRightsOver_22 : decode cX3_countRightsOver 22 = .ok (.ishl, 1) := by decide +kernel
theorem dX3_countRightsOver_23 : decode cX3_countRightsOver 23 = .ok (.iand, 1) := by decide +kernel
theorem dX3_countRightsOver_24 : decode cX3_countRightsOver 24 = .ok (.invokestatic 50, 3) := by decide +kernel
theorem dX3_countRightsOver_27 : decode cX3_countRightsOver 27 = .ok (.iadd, 1) := by decide +kernel
theorem dX3_countRightsOver_28 : decode cX3_countRightsOver 28 = .ok (.istore_n 2, 1) := by decide +kernel
theorem dX3_countRightsOver_29 : decode cX3_countRightsOver 29 = .ok (.iinc 3 1, 3) := by decide +kernel
theorem dX3_countRightsOver_32 : decode cX3_countRightsOver 32 = .ok (.goto (-28), 3) := by decide +kernel
theorem dX3_countRightsOver_35 : decode cX3_countRightsOver 35 = .ok (.iload_n 2, 1) := by decide +kernel
theorem dX3_countRightsOver_36 : decode cX3_countRightsOver 36 = .ok (.ireturn, 1) := by decide +kernel
theorem dX3_addOne_0 : decode cX3_addOne 0 = .ok (.iload_n 1, 1) := by decide +kernel
theorem dX3_addOne_1 : decode cX3_addOne 1 = .ok (.ifCond .eq 18, 3) := by decide +kernel
theorem dX3_addOne_4 : decode cX3_addOne 4 = .ok (.aload_n 0, 1) := by decide +kernel
theorem dX3_addOne_5 : decode cX3_addOne 5 = .ok (.dup, 1) := by decide +kernel
theorem dX3_addOne_6 : decode cX3_addOne 6 = .ok (.getfield 19, 3) := by decide +kernel
theorem dX3_addOne_9 : decode cX3_addOne 9 = .ok (.iconst 1, 1) := by decide +kernel
theorem dX3_addOne_10 : decode cX3_addOne 10 = .ok (.aload_n 0, 1) := by decide +kernel
theorem dX3_addOne_11 : decode cX3_addOne 11 = .ok (.getfield 15, 3) := by decide +kernel
theorem dX3_addOne_14 : decode cX3_addOne 14 = .ok (.ishl, 1) := by decide +kernel
theorem dX3_addOne_15 : decode cX3_addOne 15 = .ok (.ior, 1) := by decide +kernel
theorem dX3_addOne_16 : decode cX3_addOne 16 = .ok (.putfield 19, 3) := by decide +kernel
theorem dX3_addOne_19 : decode cX3_addOne 19 = .ok (.iload_n 2, 1) := by decide +kernel
theorem dX3_addOne_20 : decode cX3_addOne 20 = .ok (.ifCond .eq 18, 3) := by decide +kernel
theorem dX3_addOne_23 : decode cX3_addOne 23 = .ok (.aload_n 0, 1) := by decide +kernel
theorem dX3_addOne_24 : decode cX3_addOne 24 = .ok (.dup, 1) := by decide +kernel
theorem dX3_addOne_25 : decode cX3_addOne 25 = .ok (.getfield 22, 3) := by decide +kernel
theorem dX3_addOne_28 : decode cX3_addOne 28 = .ok (.iconst 1, 1) := by decide +kernel
theorem dX3_addOne_29 : decode cX3_addOne 29 = .ok (.aload_n 0, 1) := by decide +kernel
theorem dX3_addOne_30 : decode cX3_addOne 30 = .ok (.getfield 15, 3) := by decide +kernel
theorem dX3_addOne_33 : decode cX3_addOne 33 = .ok (.ishl, 1) := by decide +kernel
theorem dX3_addOne_34 : decode cX3_addOne 34 = .ok (.ior, 1) := by decide +kernel
theorem dX3_addOne_35 : decode cX3_addOne 35 = .ok (.putfield 22, 3) := by decide +kernel
theorem dX3_addOne_38 : decode cX3_addOne 38 = .ok (.aload_n 0, 1) := by decide +kernel
theorem dX3_addOne_39 : decode cX3_addOne 39 = .ok (.dup, 1) := by decide +kernel
theorem dX3_addOne_40 : decode cX3_addOne 40 = .ok (.getfield 15, 3) := by decide +kernel
theorem dX3_addOne_43 : decode cX3_addOne 43 = .ok (.iconst 1, 1) := by decide +kernel
theorem dX3_addOne_44 : decode cX3_addOne 44 = .ok (.iadd, 1) := by decide +kernel
theorem dX3_addOne_45 : decode cX3_addOne 45 = .ok (.putfield 15, 3) := by decide +kernel
theorem dX3_addOne_48 : decode cX3_addOne 48 = .ok (.return_, 1) := by decide +kernel
theorem dX3_setAwake_0 : decode cX3_setAwake 0 = .ok (.aload_n 0, 1) := by decide +kernel
theorem dX3_setAwake_1 : decode cX3_setAwake 1 = .ok (.iload_n 2, 1) := by decide +kernel
theorem dX3_setAwake_2 : decode cX3_setAwake 2 = .ok (.ifCond .eq 14, 3) := by decide +kernel
theorem dX3_setAwake_5 : decode cX3_setAwake 5 = .ok (.aload_n 0, 1) := by decide +kernel
theorem dX3_setAwake_6 : decode cX3_setAwake 6 = .ok (.getfield 22, 3) := by decide +kernel
theorem dX3_setAwake_9 : decode cX3_setAwake 9 = .ok (.iconst 1, 1) := by decide +kernel
theorem dX3_setAwake_10 : decode cX3_setAwake 10 = .ok (.iload_n 1, 1) := by decide +kernel
theorem dX3_setAwake_11 : decode cX3_setAwake 11 = .ok (.ishl, 1) := by decide +kernel
theorem dX3_setAwake_12 : decode cX3_setAwake 12 = .ok (.ior, 1) := by decide +kernel
theorem dX3_setAwake_13 : decode cX3_setAwake 13 = .ok (.goto 13, 3) := by decide +kernel
theorem dX3_setAwake_16 : decode cX3_setAwake 16 = .ok (.aload_n 0, 1) := by decide +kernel
theorem dX3_setAwake_17 : decode cX3_setAwake 17 = .ok (.getfield 22, 3) := by decide +kernel
theorem dX3_setAwake_20 : decode cX3_setAwake 20 = .ok (.iconst 1, 1) := by decide +kernel
theorem dX3_setAwake_21 : decode cX3_setAwake 21 = .ok (.iload_n 1, 1) := by decide +kernel
theorem dX3_setAwake_22 : decode cX3_setAwake 22 = .ok (.ishl, 1) := by decide +kernel
theorem dX3_setAwake_23 : decode cX3_setAwake 23 = .ok (.iconst (-1), 1) := by decide +kernel
theorem dX3_setAwake_24 : decode cX3_setAwake 24 = .ok (.ixor, 1) := by decide +kernel
theorem dX3_setAwake_25 : decode cX3_setAwake 25 = .ok (.iand, 1) := by decide +kernel
theorem dX3_setAwake_26 : decode cX3_setAwake 26 = .ok (.putfield 22, 3) := by decide +kernel
theorem dX3_setAwake_29 : decode cX3_setAwake 29 = .ok (.return_, 1) := by decide +kernel
theorem dX3_doSteps_0 : decode cX3_doSteps 0 = .ok (.iconst 0, 1) := by decide +kernel
theorem dX3_doSteps_1 : decode cX3_doSteps 1 = .ok (.istore_n 2, 1) := by decide +kernel
theorem dX3_doSteps_2 : decode cX3_doSteps 2 = .ok (.iconst 0, 1) := by decide +kernel
theorem dX3_doSteps_3 : decode cX3_doSteps 3 = .ok (.istore_n 3, 1) := by decide +kernel
theorem dX3_doSteps_4 : decode cX3_doSteps 4 = .ok (.iload_n 3, 1) := by decide +kernel
theorem dX3_doSteps_5 : decode cX3_doSteps 5 = .ok (.aload_n 0, 1) := by decide +kernel
theorem dX3_doSteps_6 : decode cX3_doSteps 6 = .ok (.getfield 15, 3) := by decide +kernel
theorem dX3_doSteps_9 : decode cX3_doSteps 9 = .ok (.if_icmp .ge 28, 3) := by decide +kernel
theorem dX3_doSteps_12 : decode cX3_doSteps 12 = .ok (.aload_n 0, 1) := by decide +kernel
theorem dX3_doSteps_13 : decode cX3_doSteps 13 = .ok (.iload_n 3, 1) := by decide +kernel
theorem dX3_doSteps_14 : decode cX3_doSteps 14 = .ok (.invokevirtual 66, 3) := by decide +kernel
theorem dX3_doSteps_17 : decode cX3_doSteps 17 = .ok (.ifCond .eq 14, 3) := by decide +kernel
theorem dX3_doSteps_20 : decode cX3_doSteps 20 = .ok (.aload_n 0, 1) := by decide +kernel
theorem dX3_doSteps_21 : decode cX3_doSteps 21 = .ok (.iload_n 3, 1) := by decide +kernel
theorem dX3_doSteps_22 : decode cX3_doSteps 22 = .ok (.aload_n 1, 1) := by decide +kernel
theorem dX3_doSteps_23 : decode cX3_doSteps 23 = .ok (.invokevirtual 80, 3) := by decide +kernel
theorem dX3_doSteps_26 : decode cX3_doSteps 26 = .ok (.ifCond .eq 5, 3) := by decide +kernel
theorem dX3_doSteps_29 : decode cX3_doSteps 29 = .ok (.iconst 1, 1) := by decide +kernel
theorem dX3_doSteps_30 : decode cX3_doSteps 30 = .ok (.istore_n 2, 1) := by decide +kernel
theorem dX3_doSteps_31 : decode cX3_doSteps 31 = .ok (.iinc 3 1, 3) := by decide +kernel
theorem dX3_doSteps_34 : decode cX3_doSteps 34 = .ok (.goto (-30), 3) := by decide +kernel
theorem dX3_doSteps_37 : decode cX3_doSteps 37 = .ok (.iload_n 2, 1) := by decide +kernel
theorem dX3_doSteps_38 : decode cX3_doSteps 38 = .ok (.ireturn, 1) := by decide +kernel
theorem dX3_doStepsOf_0 : decode cX3_doStepsOf 0 = .ok (.aload_n 2, 1) := by decide +kernel
theorem dX3_doStepsOf_1 : decode cX3_doStepsOf 1 = .ok (.getfield 9, 3) := by decide +kernel
theorem dX3_doStepsOf_4 : decode cX3_doStepsOf 4 = .ok (.iload_n 1, 1) := by decide +kernel
theorem dX3_doStepsOf_5 : decode cX3_doStepsOf 5 = .ok (.iaload, 1) := by decide +kernel
theorem dX3_doStepsOf_6 : decode cX3_doStepsOf 6 = .ok (.istore_n 3, 1) := by decide +kernel
theorem dX3_doStepsOf_7 : decode cX3_doStepsOf 7 = .ok (.iconst 0, 1) := by decide +kernel
theorem dX3_doStepsOf_8 : decode cX3_doStepsOf 8 = .ok (.istore 4, 2) := by decide +kernel
theorem dX3_doStepsOf_10 : decode cX3_doStepsOf 10 = .ok (.iconst 0, 1) := by decide +kernel
theorem dX3_doStepsOf_11 : decode cX3_doStepsOf 11 = .ok (.istore 5, 2) := by decide +kernel
theorem dX3_doStepsOf_13 : decode cX3_doStepsOf 13 = .ok (.iload 5, 2) := by decide +kernel
theorem dX3_doStepsOf_15 : decode cX3_doStepsOf 15 = .ok (.aload_n 0, 1) := by decide +kernel
theorem dX3_doStepsOf_16 : decode cX3_doStepsOf 16 = .ok (.getfield 15, 3) := by decide +kernel
theorem dX3_doStepsOf_19 : decode cX3_doStepsOf 19 = .ok (.if_icmp .ge 63, 3) := by decide +kernel
theorem dX3_doStepsOf_22 : decode cX3_doStepsOf 22 = .ok (.iload_n 3, 1) := by decide +kernel
theorem dX3_doStepsOf_23 : decode cX3_doStepsOf 23 = .ok (.iconst 0, 1) := by decide +kernel
theorem dX3_doStepsOf_24 : decode cX3_doStepsOf 24 = .ok (.iload 5, 2) := by decide +kernel
theorem dX3_doStepsOf_26 : decode cX3_doStepsOf 26 = .ok (.iadd, 1) := by decide +kernel
theorem dX3_doStepsOf_27 : decode cX3_doStepsOf 27 = .ok (.ishr, 1) := by decide +kernel
theorem dX3_doStepsOf_28 : decode cX3_doStepsOf 28 = .ok (.iconst 1, 1) := by decide +kernel
theorem dX3_doStepsOf_29 : decode cX3_doStepsOf 29 = .ok (.iand, 1) := by decide +kernel
theorem dX3_doStepsOf_30 : decode cX3_doStepsOf 30 = .ok (.ifCond .eq 21, 3) := by decide +kernel
theorem dX3_doStepsOf_33 : decode cX3_doStepsOf 33 = .ok (.aload_n 0, 1) := by decide +kernel
theorem dX3_doStepsOf_34 : decode cX3_doStepsOf 34 = .ok (.iload_n 1, 1) := by decide +kernel
theorem dX3_doStepsOf_35 : decode cX3_doStepsOf 35 = .ok (.aload_n 2, 1) := by decide +kernel
theorem dX3_doStepsOf_36 : decode cX3_doStepsOf 36 = .ok (.getfield 9, 3) := by decide +kernel
theorem dX3_doStepsOf_39 : decode cX3_doStepsOf 39 = .ok (.iload 5, 2) := by decide +kernel
theorem dX3_doStepsOf_41 : decode cX3_doStepsOf 41 = .ok (.iaload, 1) := by decide +kernel
theorem dX3_doStepsOf_42 : decode cX3_doStepsOf 42 = .ok (.invokevirtual 84, 3) := by decide +kernel
theorem dX3_doStepsOf_45 : decode cX3_doStepsOf 45 = .ok (.ifCond .eq 6, 3) := by decide +kernel
theorem dX3_doStepsOf_48 : decode cX3_doStepsOf 48 = .ok (.iconst 1, 1) := by decide +kernel
theorem dX3_doStepsOf_49 : decode cX3_doStepsOf 49 = .ok (.istore 4, 2) := by decide +kernel
theorem dX3_doStepsOf_51 : decode cX3_doStepsOf 51 = .ok (.iload_n 3, 1) := by decide +kernel
theorem dX3_doStepsOf_52 : decode cX3_doStepsOf 52 = .ok (.bipush 7, 2) := by decide +kernel
theorem dX3_doStepsOf_54 : decode cX3_doStepsOf 54 = .ok (.iload 5, 2) := by decide +kernel
theorem dX3_doStepsOf_56 : decode cX3_doStepsOf 56 = .ok (.iadd, 1) := by decide +kernel
theorem dX3_doStepsOf_57 : decode cX3_doStepsOf 57 = .ok (.ishr, 1) := by decide +kernel
theorem dX3_doStepsOf_58 : decode cX3_doStepsOf 58 = .ok (.iconst 1, 1) := by decide +kernel
theorem dX3_doStepsOf_59 : decode cX3_doStepsOf 59 = .ok (.iand, 1) := by decide +kernel
theorem dX3_doStepsOf_60 : decode cX3_doStepsOf 60 = .ok (.ifCond .eq 16, 3) := by decide +kernel
theorem dX3_doStepsOf_63 : decode cX3_doStepsOf 63 = .ok (.aload_n 0, 1) := by decide +kernel
theorem dX3_doStepsOf_64 : decode cX3_doStepsOf 64 = .ok (.iload 5, 2) := by decide +kernel
theorem dX3_doStepsOf_66 : decode cX3_doStepsOf 66 = .ok (.iload_n 3, 1) := by decide +kernel
theorem dX3_doStepsOf_67 : decode cX3_doStepsOf 67 = .ok (.invokevirtual 84, 3) := by decide +kernel
theorem dX3_doStepsOf_70 : decode cX3_doStepsOf 70 = .ok (.ifCond .eq 6, 3) := by decide +kernel
theorem dX3_doStepsOf_73 : decode cX3_doStepsOf 73 = .ok (.iconst 1, 1) := by decide +kernel
theorem dX3_doStepsOf_74 : decode cX3_doStepsOf 74 = .ok (.istore 4, 2) := by decide +kernel
theorem dX3_doStepsOf_76 : decode cX3_doStepsOf 76 = .ok (.iinc 5 1, 3) := by decide +kernel
theorem dX3_doStepsOf_79 : decode cX3_doStepsOf 79 = .ok (.goto (-66), 3) := by decide +kernel
theorem dX3_doStepsOf_82 : decode cX3_doStepsOf 82 = .ok (.iload 4, 2) := by decide +kernel
theorem dX3_doStepsOf_84 : decode cX3_doStepsOf 84 = .ok (.ireturn, 1) := by decide +kernel
theorem dX3_addRights_0 : decode cX3_addRights 0 = .ok (.aload_n 0, 1) := by decide +kernel
theorem dX3_addRights_1 : decode cX3_addRights 1 = .ok (.getfield 9, 3) := by decide +kernel
theorem dX3_addRights_4 : decode cX3_addRights 4 = .ok (.iload_n 1, 1) := by decide +kernel
theorem dX3_addRights_5 : decode cX3_addRights 5 = .ok (.iaload, 1) := by decide +kernel
theorem dX3_addRights_6 : decode cX3_addRights 6 = .ok (.istore_n 3, 1) := by decide +kernel
theorem dX3_addRights_7 : decode cX3_addRights 7 = .ok (.aload_n 0, 1) := by decide +kernel
theorem dX3_addRights_8 : decode cX3_addRights 8 = .ok (.getfield 9, 3) := by decide +kernel
theorem dX3_addRights_11 : decode cX3_addRights 11 = .ok (.iload_n 1, 1) := by decide +kernel
theorem dX3_addRights_12 : decode cX3_addRights 12 = .ok (.iload_n 3, 1) := by decide +kernel
theorem dX3_addRights_13 : decode cX3_addRights 13 = .ok (.iload_n 2, 1) := by decide +kernel
theorem dX3_addRights_14 : decode cX3_addRights 14 = .ok (.ldc 55, 2) := by decide +kernel
theorem dX3_addRights_16 : decode cX3_addRights 16 = .ok (.iload_n 1, 1) := by decide +kernel
theorem dX3_addRights_17 : decode cX3_addRights 17 = .ok (.ishl, 1) := by decide +kernel
theorem dX3_addRights_18 : decode cX3_addRights 18 = .ok (.iconst (-1), 1) := by decide +kernel
theorem dX3_addRights_19 : decode cX3_addRights 19 = .ok (.ixor, 1) := by decide +kernel
theorem dX3_addRights_20 : decode cX3_addRights 20 = .ok (.iand, 1) := by decide +kernel
theorem dX3_addRights_21 : decode cX3_addRights 21 = .ok (.ior, 1) := by decide +kernel
theorem dX3_addRights_22 : decode cX3_addRights 22 = .ok (.iastore, 1) := by decide +kernel
theorem dX3_addRights_23 : decode cX3_addRights 23 = .ok (.aload_n 0, 1) := by decide +kernel
theorem dX3_addRights_24 : decode cX3_addRights 24 = .ok (.getfield 9, 3) := by decide +kernel
theorem dX3_addRights_27 : decode cX3_addRights 27 = .ok (.iload_n 1, 1) := by decide +kernel
theorem dX3_addRights_28 : decode cX3_addRights 28 = .ok (.iaload, 1) := by decide +kernel
theorem dX3_addRights_29 : decode cX3_addRights 29 = .ok (.iload_n 3, 1) := by decide +kernel
theorem dX3_addRights_30 : decode cX3_addRights 30 = .ok (.if_icmp .eq 7, 3) := by decide +kernel
theorem dX3_addRights_33 : decode cX3_addRights 33 = .ok (.iconst 1, 1) := by decide +kernel
theorem dX3_addRights_34 : decode cX3_addRights 34 = .ok (.goto 4, 3) := by decide +kernel
theorem dX3_addRights_37 : decode cX3_addRights 37 = .ok (.iconst 0, 1) := by decide +kernel
theorem dX3_addRights_38 : decode cX3_addRights 38 = .ok (.ireturn, 1) := by decide +kernel
theorem dX3_spreadOut_0 : decode cX3_spreadOut 0 = .ok (.iconst 1, 1) := by decide +kernel
theorem dX3_spreadOut_1 : decode cX3_spreadOut 1 = .ok (.istore_n 1, 1) := by decide +kernel
theorem dX3_spreadOut_2 : decode cX3_spreadOut 2 = .ok (.iconst 0, 1) := by decide +kernel
theorem dX3_spreadOut_3 : decode cX3_spreadOut 3 = .ok (.istore_n 2, 1) := by decide +kernel
theorem dX3_spreadOut_4 : decode cX3_spreadOut 4 = .ok (.iload_n 2, 1) := by decide +kernel
theorem dX3_spreadOut_5 : decode cX3_spreadOut 5 = .ok (.sipush 196, 3) := by decide +kernel
theorem dX3_spreadOut_8 : decode cX3_spreadOut 8 = .ok (.if_icmp .ge 19, 3) := by decide +kernel
theorem dX3_spreadOut_11 : decode cX3_spreadOut 11 = .ok (.iload_n 1, 1) := by decide +kernel
theorem dX3_spreadOut_12 : decode cX3_spreadOut 12 = .ok (.ifCond .eq 15, 3) := by decide +kernel
theorem dX3_spreadOut_15 : decode cX3_spreadOut 15 = .ok (.aload_n 0, 1) := by decide +kernel
theorem dX3_spreadOut_16 : decode cX3_spreadOut 16 = .ok (.aload_n 0, 1) := by decide +kernel
theorem dX3_spreadOut_17 : decode cX3_spreadOut 17 = .ok (.invokevirtual 88, 3) := by decide +kernel
theorem dX3_spreadOut_20 : decode cX3_spreadOut 20 = .ok (.istore_n 1, 1) := by decide +kernel
theorem dX3_spreadOut_21 : decode cX3_spreadOut 21 = .ok (.iinc 2 1, 3) := by decide +kernel
theorem dX3_spreadOut_24 : decode cX3_spreadOut 24 = .ok (.goto (-20), 3) := by decide +kernel
theorem dX3_spreadOut_27 : decode cX3_spreadOut 27 = .ok (.return_, 1) := by decide +kernel
theorem dX3_spreadUntil_0 : decode cX3_spreadUntil 0 = .ok (.iconst 1, 1) := by decide +kernel
theorem dX3_spreadUntil_1 : decode cX3_spreadUntil 1 = .ok (.istore_n 2, 1) := by decide +kernel
theorem dX3_spreadUntil_2 : decode cX3_spreadUntil 2 = .ok (.iconst 0, 1) := by decide +kernel
theorem dX3_spreadUntil_3 : decode cX3_spreadUntil 3 = .ok (.istore_n 3, 1) := by decide +kernel
theorem dX3_spreadUntil_4 : decode cX3_spreadUntil 4 = .ok (.iload_n 3, 1) := by decide +kernel
theorem dX3_spreadUntil_5 : decode cX3_spreadUntil 5 = .ok (.sipush 196, 3) := by decide +kernel
theorem dX3_spreadUntil_8 : decode cX3_spreadUntil 8 = .ok (.if_icmp .ge 27, 3) := by decide +kernel
theorem dX3_spreadUntil_11 : decode cX3_spreadUntil 11 = .ok (.iload_n 2, 1) := by decide +kernel
theorem dX3_spreadUntil_12 : decode cX3_spreadUntil 12 = .ok (.ifCond .eq 23, 3) := by decide +kernel
theorem dX3_spreadUntil_15 : decode cX3_spreadUntil 15 = .ok (.aload_n 0, 1) := by decide +kernel
theorem dX3_spreadUntil_16 : decode cX3_spreadUntil 16 = .ok (.iload_n 1, 1) := by decide +kernel
theorem dX3_spreadUntil_17 : decode cX3_spreadUntil 17 = .ok (.invokevirtual 43, 3) := by decide +kernel
theorem dX3_spreadUntil_20 : decode cX3_spreadUntil 20 = .ok (.ifCond .ne 15, 3) := by decide +kernel
theorem dX3_spreadUntil_23 : decode cX3_spreadUntil 23 = .ok (.aload_n 0, 1) := by decide +kernel
theorem dX3_spreadUntil_24 : decode cX3_spreadUntil 24 = .ok (.aload_n 0, 1) := by decide +kernel
theorem dX3_spreadUntil_25 : decode cX3_spreadUntil 25 = .ok (.invokevirtual 88, 3) := by decide +kernel
theorem dX3_spreadUntil_28 : decode cX3_spreadUntil 28 = .ok (.istore_n 2, 1) := by decide +kernel
theorem dX3_spreadUntil_29 : decode cX3_spreadUntil 29 = .ok (.iinc 3 1, 3) := by decide +kernel
theorem dX3_spreadUntil_32 : decode cX3_spreadUntil 32 = .ok (.goto (-28), 3) := by decide +kernel
theorem dX3_spreadUntil_35 : decode cX3_spreadUntil 35 = .ok (.aload_n 0, 1) := by decide +kernel
theorem dX3_spreadUntil_36 : decode cX3_spreadUntil 36 = .ok (.iload_n 1, 1) := by decide +kernel
theorem dX3_spreadUntil_37 : decode cX3_spreadUntil 37 = .ok (.invokevirtual 43, 3) := by decide +kernel
theorem dX3_spreadUntil_40 : decode cX3_spreadUntil 40 = .ok (.ireturn, 1) := by decide +kernel
theorem dX4_init_0 : decode cX4_init 0 = .ok (.aload_n 0, 1) := by decide +kernel
theorem dX4_init_1 : decode cX4_init 1 = .ok (.invokespecial 3, 3) := by decide +kernel
theorem dX4_init_4 : decode cX4_init 4 = .ok (.aload_n 0, 1) := by decide +kernel
theorem dX4_init_5 : decode cX4_init 5 = .ok (.bipush 110, 2) := by decide +kernel
theorem dX4_init_7 : decode cX4_init 7 = .ok (.newarray .char, 2) := by decide +kernel
theorem dX4_init_9 : decode cX4_init 9 = .ok (.putfield 9, 3) := by decide +kernel
theorem dX4_init_12 : decode cX4_init 12 = .ok (.return_, 1) := by decide +kernel
theorem dX5_init_0 : decode cX5_init 0 = .ok (.aload_n 0, 1) := by decide +kernel
theorem dX5_init_1 : decode cX5_init 1 = .ok (.invokespecial 3, 3) := by decide +kernel
theorem dX5_init_4 : decode cX5_init 4 = .ok (.aload_n 0, 1) := by decide +kernel
theorem dX5_init_5 : decode cX5_init 5 = .ok (.new 9, 3) := by decide +kernel
theorem dX5_init_8 : decode cX5_init 8 = .ok (.dup, 1) := by decide +kernel
theorem dX5_init_9 : decode cX5_init 9 = .ok (.invokespecial 11, 3) := by decide +kernel
theorem dX5_init_12 : decode cX5_init 12 = .ok (.putfield 12, 3) := by decide +kernel
theorem dX5_init_15 : decode cX5_init 15 = .ok (.aload_n 0, 1) := by decide +kernel
theorem dX5_init_16 : decode cX5_init 16 = .ok (.new 16, 3) := by decide +kernel
theorem dX5_init_19 : decode cX5_init 19 = .ok (.dup, 1) := by decide +kernel
theorem dX5_init_20 : decode cX5_init 20 = .ok (.invokespecial 18, 3) := by decide +kernel
theorem dX5_init_23 : decode cX5_init 23 = .ok (.putfield 19, 3) := by decide +kernel
theorem dX5_init_26 : decode cX5_init 26 = .ok (.aload_n 0, 1) := by decide +kernel
theorem dX5_init_27 : decode cX5_init 27 = .ok (.bipush 14, 2) := by decide +kernel
theorem dX5_init_29 : decode cX5_init 29 = .ok (.anewarray 16, 3) := by decide +kernel
theorem dX5_init_32 : decode cX5_init 32 = .ok (.putfield 23, 3) := by decide +kernel
theorem dX5_init_35 : decode cX5_init 35 = .ok (.iconst 0, 1) := by decide +kernel
theorem dX5_init_36 : decode cX5_init 36 = .ok (.istore_n 1, 1) := by decide +kernel
theorem dX5_init_37 : decode cX5_init 37 = .ok (.iload_n 1, 1) := by decide +kernel
theorem dX5_init_38 : decode cX5_init 38 = .ok (.bipush 14, 2) := by decide +kernel
theorem dX5_init_40 : decode cX5_init 40 = .ok (.if_icmp .ge 22, 3) := by decide +kernel
theorem dX5_init_43 : decode cX5_init 43 = .ok (.aload_n 0, 1) := by decide +kernel
theorem dX5_init_44 : decode cX5_init 44 = .ok (.getfield 23, 3) := by decide +kernel
theorem dX5_init_47 : decode cX5_init 47 = .ok (.iload_n 1, 1) := by decide +kernel
theorem dX5_init_48 : decode cX5_init 48 = .ok (.new 16, 3) := by decide +kernel
theorem dX5_init_51 : decode cX5_init 51 = .ok (.dup, 1) := by decide +kernel
theorem dX5_init_52 : decode cX5_init 52 = .ok (.invokespecial 18, 3) := by decide +kernel
theorem dX5_init_55 : decode cX5_init 55 = .ok (.aastore, 1) := by decide +kernel
theorem dX5_init_56 : decode cX5_init 56 = .ok (.iinc 1 1, 3) := by decide +kernel
theorem dX5_init_59 : decode cX5_init 59 = .ok (.goto (-22), 3) := by decide +kernel
theorem dX5_init_62 : decode cX5_init 62 = .ok (.aload_n 0, 1) := by decide +kernel
theorem dX5_init_63 : decode cX5_init 63 = .ok (.iconst 2, 1) := by decide +kernel
theorem dX5_init_64 : decode cX5_init 64 = .ok (.anewarray 16, 3) := by decide +kernel
theorem dX5_init_67 : decode cX5_init 67 = .ok (.putfield 27, 3) := by decide +kernel
theorem dX5_init_70 : decode cX5_init 70 = .ok (.iconst 0, 1) := by decide +kernel
theorem dX5_init_71 : decode cX5_init 71 = .ok (.istore_n 1, 1) := by decide +kernel
theorem dX5_init_72 : decode cX5_init 72 = .ok (.iload_n 1, 1) := by decide +kernel
theorem dX5_init_73 : decode cX5_init 73 = .ok (.iconst 2, 1) := by decide +kernel
theorem dX5_init_74 : decode cX5_init 74 = .ok (.if_icmp .ge 22, 3) := by decide +kernel
theorem dX5_init_77 : decode cX5_init 77 = .ok (.aload_n 0, 1) := by decide +kernel
theorem dX5_init_78 : decode cX5_init 78 = .ok (.getfield 27, 3) := by decide +kernel
theorem dX5_init_81 : decode cX5_init 81 = .ok (.iload_n 1, 1) := by decide +kernel
theorem dX5_init_82 : decode cX5_init 82 = .ok (.new 16, 3) := by decide +kernel
theorem dX5_init_85 : decode cX5_init 85 = .ok (.dup, 1) := by decide +kernel
theorem dX5_init_86 : decode cX5_init 86 = .ok (.invokespecial 18, 3) := by decide +kernel
theorem dX5_init_89 : decode cX5_init 89 = .ok (.aastore, 1) := by decide +kernel
theorem dX5_init_90 : decode cX5_init 90 = .ok (.iinc 1 1, 3) := by decide +kernel
theorem dX5_init_93 : decode cX5_init 93 = .ok (.goto (-21), 3) := by decide +kernel
theorem dX5_init_96 : decode cX5_init 96 = .ok (.aload_n 0, 1) := by decide +kernel
theorem dX5_init_97 : decode cX5_init 97 = .ok (.iconst 2, 1) := by decide +kernel
theorem dX5_init_98 : decode cX5_init 98 = .ok (.newarray .boolean, 2) := by decide +kernel
theorem dX5_init_100 : decode cX5_init 100 = .ok (.putfield 30, 3) := by decide +kernel
theorem dX5_init_103 : decode cX5_init 103 = .ok (.aload_n 0, 1) := by decide +kernel
theorem dX5_init_104 : decode cX5_init 104 = .ok (.new 16, 3) := by decide +kernel
theorem dX5_init_107 : decode cX5_init 107 = .ok (.dup, 1) := by decide +kernel
theorem dX5_init_108 : decode cX5_init 108 = .ok (.invokespecial 18, 3) := by decide +kernel
theorem dX5_init_111 : decode cX5_init 111 = .ok (.putfield 34, 3) := by decide +kernel
theorem dX5_init_114 : decode cX5_init 114 = .ok (.aload_n 0, 1) := by decide +kernel
theorem dX5_init_115 : decode cX5_init 115 = .ok (.new 16, 3) := by decide +kernel
theorem dX5_init_118 : decode cX5_init 118 = .ok (.dup, 1) := by decide +kernel
theorem dX5_init_119 : decode cX5_init 119 = .ok (.invokespecial 18, 3) := by decide +kernel
theorem dX5_init_122 : decode cX5_init 122 = .ok (.putfield 37, 3) := by decide +kernel
theorem dX5_init_125 : decode cX5_init 125 = .ok (.aload_n 0, 1) := by decide +kernel
theorem dX5_init_126 : decode cX5_init 126 = .ok (.new 40, 3) := by decide +kernel
theorem dX5_init_129 : decode cX5_init 129 = .ok (.dup, 1) := by decide +kernel
theorem dX5_init_130 : decode cX5_init 130 = .ok (.invokespecial 42, 3) := by decide +kernel
theorem dX5_init_133 : decode cX5_init 133 = .ok (.putfield 43, 3) := by decide +kernel
theorem dX5_init_136 : decode cX5_init 136 = .ok (.aload_n 0, 1) := by decide +kernel
theorem dX5_init_137 : decode cX5_init 137 = .ok (.new 47, 3) := by decide +kernel
theorem dX5_init_140 : decode cX5_init 140 = .ok (.dup, 1) := by decide +kernel
theorem dX5_init_141 : decode cX5_init 141 = .ok (.invokespecial 49, 3) := by decide +kernel
theorem dX5_init_144 : decode cX5_init 144 = .ok (.putfield 50, 3) := by decide +kernel
theorem dX5_init_147 : decode cX5_init 147 = .ok (.aload_n 0, 1) := by decide +kernel
theorem dX5_init_148 : decode cX5_init 148 = .ok (.new 54, 3) := by decide +kernel
theorem dX5_init_151 : decode cX5_init 151 = .ok (.dup, 1) := by decide +kernel
theorem dX5_init_152 : decode cX5_init 152 = .ok (.invokespecial 56, 3) := by decide +kernel
theorem dX5_init_155 : decode cX5_init 155 = .ok (.putfield 57, 3) := by decide +kernel
theorem dX5_init_158 : decode cX5_init 158 = .ok (.return_, 1) := by decide +kernel
theorem dX5_about_0 : decode cX5_about 0 = .ok (.iload_n 1, 1) := by decide +kernel
theorem dX5_about_1 : decode cX5_about 1 = .ok (.tableswitch 158 0 7 #[47, 55, 66, 77, 85, 97, 116, 135], 47) := by decide +kernel
theorem dX5_about_48 : decode cX5_about 48 = .ok (.aload_n 0, 1) := by decide +kernel
theorem dX5_about_49 : decode cX5_about 49 = .ok (.getfield 19, 3) := by decide +kernel
theorem dX5_about_52 : decode cX5_about 52 = .ok (.getfield 94, 3) := by decide +kernel
theorem dX5_about_55 : decode cX5_about 55 = .ok (.ireturn, 1) := by decide +kernel
theorem dX5_about_56 : decode cX5_about 56 = .ok (.aload_n 0, 1) := by decide +kernel
theorem dX5_about_57 : decode cX5_about 57 = .ok (.getfield 19, 3) := by decide +kernel
theorem dX5_about_60 : decode cX5_about 60 = .ok (.getfield 97, 3) := by decide +kernel
theorem dX5_about_63 : decode cX5_about 63 = .ok (.invokestatic 100, 3) := by decide +kernel
theorem dX5_about_66 : decode cX5_about 66 = .ok (.ireturn, 1) := by decide +kernel
theorem dX5_about_67 : decode cX5_about 67 = .ok (.aload_n 0, 1) := by decide +kernel
theorem dX5_about_68 : decode cX5_about 68 = .ok (.getfield 19, 3) := by decide +kernel
theorem dX5_about_71 : decode cX5_about 71 = .ok (.getfield 106, 3) := by decide +kernel
theorem dX5_about_74 : decode cX5_about 74 = .ok (.invokestatic 100, 3) := by decide +kernel
theorem dX5_about_77 : decode cX5_about 77 = .ok (.ireturn, 1) := by decide +kernel
theorem dX5_about_78 : decode cX5_about 78 = .ok (.aload_n 0, 1) := by decide +kernel
theorem dX5_about_79 : decode cX5_about 79 = .ok (.getfield 19, 3) := by decide +kernel
theorem dX5_about_82 : decode cX5_about 82 = .ok (.invokevirtual 109, 3) := by decide +kernel
theorem dX5_about_85 : decode cX5_about 85 = .ok (.ireturn, 1) := by decide +kernel
theorem dX5_about_86 : decode cX5_about 86 = .ok (.aload_n 0, 1) := by decide +kernel
theorem dX5_about_87 : decode cX5_about 87 = .ok (.aload_n 0, 1) := by decide +kernel
theorem dX5_about_88 : decode cX5_about 88 = .ok (.getfield 19, 3) := by decide +kernel
theorem dX5_about_91 : decode cX5_about 91 = .ok (.invokevirtual 113, 3) := by decide +kernel
theorem dX5_about_94 : decode cX5_about 94 = .ok (.invokevirtual 109, 3) := by decide +kernel
theorem dX5_about_97 : decode cX5_about 97 = .ok (.ireturn, 1) := by decide +kernel
theorem dX5_about_98 : decode cX5_about 98 = .ok (.aload_n 0, 1) := by decide +kernel
theorem dX5_about_99 : decode cX5_about 99 = .ok (.getfield 43, 3) := by decide +kernel
theorem dX5_about_102 : decode cX5_about 102 = .ok (.aload_n 0, 1) := by decide +kernel
theorem dX5_about_103 : decode cX5_about 103 = .ok (.getfield 19, 3) := by decide +kernel
theorem dX5_about_106 : decode cX5_about 106 = .ok (.invokevirtual 117, 3) := by decide +kernel
theorem dX5_about_109 : decode cX5_about 109 = .ok (.aload_n 0, 1) := by decide +kernel
theorem dX5_about_110 : decode cX5_about 110 = .ok (.getfield 43, 3) := by decide +kernel
theorem dX5_about_113 : decode cX5_about 113 = .ok (.getfield 120, 3) := by decide +kernel
theorem dX5_about_116 : decode cX5_about 116 = .ok (.ireturn, 1) := by decide +kernel
theorem dX5_about_117 : decode cX5_about 117 = .ok (.aload_n 0, 1) := by decide +kernel
theorem dX5_about_118 : decode cX5_about 118 = .ok (.getfield 50, 3) := by decide +kernel
theorem dX5_about_121 : decode cX5_about 121 = .ok (.aload_n 0, 1) := by decide +kernel
theorem dX5_about_122 : decode cX5_about 122 = .ok (.getfield 19, 3) := by decide +kernel
theorem dX5_about_125 : decode cX5_about 125 = .ok (.invokevirtual 123, 3) := by decide +kernel
theorem dX5_about_128 : decode cX5_about 128 = .ok (.aload_n 0, 1) := by decide +kernel
theorem dX5_about_129 : decode cX5_about 129 = .ok (.getfield 50, 3) := by decide +kernel
theorem dX5_about_132 : decode cX5_about 132 = .ok (.invokevirtual 124, 3) := by decide +kernel
theorem dX5_about_135 : decode cX5_about 135 = .ok (.ireturn, 1) := by decide +kernel
theorem dX5_about_136 : decode cX5_about 136 = .ok (.aload_n 0, 1) := by decide +kernel
theorem dX5_about_137 : decode cX5_about 137 = .ok (.getfield 50, 3) := by decide +kernel
theorem dX5_about_140 : decode cX5_about 140 = .ok (.aload_n 0, 1) := by decide +kernel
theorem dX5_about_141 : decode cX5_about 141 = .ok (.aload_n 0, 1) := by decide +kernel
theorem dX5_about_142 : decode cX5_about 142 = .ok (.getfield 19, 3) := by decide +kernel
theorem dX5_about_145 : decode cX5_about 145 = .ok (.invokevirtual 113, 3) := by decide +kernel
theorem dX5_about_148 : decode cX5_about 148 = .ok (.invokevirtual 123, 3) := by decide +kernel
theorem dX5_about_151 : decode cX5_about 151 = .ok (.aload_n 0, 1) := by decide +kernel
theorem dX5_about_152 : decode cX5_about 152 = .ok (.getfield 50, 3) := by decide +kernel
theorem dX5_about_155 : decode cX5_about 155 = .ok (.invokevirtual 124, 3) := by decide +kernel
theorem dX5_about_158 : decode cX5_about 158 = .ok (.ireturn, 1) := by decide +kernel
theorem dX5_about_159 : decode cX5_about 159 = .ok (.new 61, 3) := by decide +kernel
theorem dX5_about_162 : decode cX5_about 162 = .ok (.dup, 1) := by decide +kernel
theorem dX5_about_163 : decode cX5_about 163 = .ok (.ldc 127, 2) := by decide +kernel
theorem dX5_about_165 : decode cX5_about 165 = .ok (.invokespecial 65, 3) := by decide +kernel
theorem dX5_about_168 : decode cX5_about 168 = .ok (.athrow, 1) := by decide +kernel
theorem dX5_thing_0 : decode cX5_thing 0 = .ok (.aload_n 0, 1) := by decide +kernel
theorem dX5_thing_1 : decode cX5_thing 1 = .ok (.iload_n 1, 1) := by decide +kernel
theorem dX5_thing_2 : decode cX5_thing 2 = .ok (.invokevirtual 129, 3) := by decide +kernel
theorem dX5_thing_5 : decode cX5_thing 5 = .ok (.iload_n 2, 1) := by decide +kernel
theorem dX5_thing_6 : decode cX5_thing 6 = .ok (.tableswitch 161 0 6 #[42, 59, 76, 89, 98, 119, 144], 42) := by decide +kernel
theorem dX5_thing_48 : decode cX5_thing 48 = .ok (.aload_n 0, 1) := by decide +kernel
theorem dX5_thing_49 : decode cX5_thing 49 = .ok (.getfield 19, 3) := by decide +kernel
theorem dX5_thing_52 : decode cX5_thing 52 = .ok (.iload_n 1, 1) := by decide +kernel
theorem dX5_thing_53 : decode cX5_thing 53 = .ok (.invokevirtual 133, 3) := by decide +kernel
theorem dX5_thing_56 : decode cX5_thing 56 = .ok (.ifCond .eq 7, 3) := by decide +kernel
theorem dX5_thing_59 : decode cX5_thing 59 = .ok (.iconst 1, 1) := by decide +kernel
theorem dX5_thing_60 : decode cX5_thing 60 = .ok (.goto 4, 3) := by decide +kernel
theorem dX5_thing_63 : decode cX5_thing 63 = .ok (.iconst 0, 1) := by decide +kernel
theorem dX5_thing_64 : decode cX5_thing 64 = .ok (.ireturn, 1) := by decide +kernel
theorem dX5_thing_65 : decode cX5_thing 65 = .ok (.aload_n 0, 1) := by decide +kernel
theorem dX5_thing_66 : decode cX5_thing 66 = .ok (.getfield 19, 3) := by decide +kernel
theorem dX5_thing_69 : decode cX5_thing 69 = .ok (.iload_n 1, 1) := by decide +kernel
theorem dX5_thing_70 : decode cX5_thing 70 = .ok (.invokevirtual 137, 3) := by decide +kernel
theorem dX5_thing_73 : decode cX5_thing 73 = .ok (.ifCond .eq 7, 3) := by decide +kernel
theorem dX5_thing_76 : decode cX5_thing 76 = .ok (.iconst 1, 1) := by decide +kernel
theorem dX5_thing_77 : decode cX5_thing 77 = .ok (.goto 4, 3) := by decide +kernel
theorem dX5_thing_80 : decode cX5_thing 80 = .ok (.iconst 0, 1) := by decide +kernel
theorem dX5_thing_81 : decode cX5_thing 81 = .ok (.ireturn, 1) := by decide +kernel
theorem dX5_thing_82 : decode cX5_thing 82 = .ok (.aload_n 0, 1) := by decide +kernel
theorem dX5_thing_83 : decode cX5_thing 83 = .ok (.getfield 19, 3) := by decide +kernel
theorem dX5_thing_86 : decode cX5_thing 86 = .ok (.getfield 140, 3) := by decide +kernel
theorem dX5_thing_89 : decode cX5_thing 89 = .ok (.iload_n 1, 1) := by decide +kernel
theorem dX5_thing_90 : decode cX5_thing 90 = .ok (.iaload, 1) := by decide +kernel
theorem dX5_thing_91 : decode cX5_thing 91 = .ok (.invokestatic 100, 3) := by decide +kernel
theorem dX5_thing_94 : decode cX5_thing 94 = .ok (.ireturn, 1) := by decide +kernel
theorem dX5_thing_95 : decode cX5_thing 95 = .ok (.aload_n 0, 1) := by decide +kernel
theorem dX5_thing_96 : decode cX5_thing 96 = .ok (.getfield 19, 3) := by decide +kernel
theorem dX5_thing_99 : decode cX5_thing 99 = .ok (.iload_n 1, 1) := by decide +kernel
theorem dX5_thing_100 : decode cX5_thing 100 = .ok (.invokevirtual 144, 3) := by decide +kernel
theorem dX5_thing_103 : decode cX5_thing 103 = .ok (.ireturn, 1) := by decide +kernel
theorem dX5_thing_104 : decode cX5_thing 104 = .ok (.aload_n 0, 1) := by decide +kernel
theorem dX5_thing_105 : decode cX5_thing 105 = .ok (.getfield 50, 3) := by decide +kernel
theorem dX5_thing_108 : decode cX5_thing 108 = .ok (.aload_n 0, 1) := by decide +kernel
theorem dX5_thing_109 : decode cX5_thing 109 = .ok (.getfield 19, 3) := by decide +kernel
theorem dX5_thing_112 : decode cX5_thing 112 = .ok (.invokevirtual 123, 3) := by decide +kernel
theorem dX5_thing_115 : decode cX5_thing 115 = .ok (.aload_n 0, 1) := by decide +kernel
theorem dX5_thing_116 : decode cX5_thing 116 = .ok (.getfield 50, 3) := by decide +kernel
theorem dX5_thing_119 : decode cX5_thing 119 = .ok (.getfield 147, 3) := by decide +kernel
theorem dX5_thing_122 : decode cX5_thing 122 = .ok (.iload_n 1, 1) := by decide +kernel
theorem dX5_thing_123 : decode cX5_thing 123 = .ok (.iaload, 1) := by decide +kernel
theorem dX5_thing_124 : decode cX5_thing 124 = .ok (.ireturn, 1) := by decide +kernel
theorem dX5_thing_125 : decode cX5_thing 125 = .ok (.aload_n 0, 1) := by decide +kernel
theorem dX5_thing_126 : decode cX5_thing 126 = .ok (.getfield 50, 3) := by decide +kernel
theorem dX5_thing_129 : decode cX5_thing 129 = .ok (.aload_n 0, 1) := by decide +kernel
theorem dX5_thing_130 : decode cX5_thing 130 = .ok (.aload_n 0, 1) := by decide +kernel
theorem dX5_thing_131 : decode cX5_thing 131 = .ok (.getfield 19, 3) := by decide +kernel
theorem dX5_thing_134 : decode cX5_thing 134 = .ok (.invokevirtual 113, 3) := by decide +kernel
theorem dX5_thing_137 : decode cX5_thing 137 = .ok (.invokevirtual 123, 3) := by decide +kernel
theorem dX5_thing_140 : decode cX5_thing 140 = .ok (.aload_n 0, 1) := by decide +kernel
theorem dX5_thing_141 : decode cX5_thing 141 = .ok (.getfield 50, 3) := by decide +kernel
theorem dX5_thing_144 : decode cX5_thing 144 = .ok (.getfield 147, 3) := by decide +kernel
theorem dX5_thing_147 : decode cX5_thing 147 = .ok (.iload_n 1, 1) := by decide +kernel
theorem dX5_thing_148 : decode cX5_thing 148 = .ok (.iaload, 1) := by decide +kernel
theorem dX5_thing_149 : decode cX5_thing 149 = .ok (.ireturn, 1) := by decide +kernel
theorem dX5_thing_150 : decode cX5_thing 150 = .ok (.aload_n 0, 1) := by decide +kernel
theorem dX5_thing_151 : decode cX5_thing 151 = .ok (.aload_n 0, 1) := by decide +kernel
theorem dX5_thing_152 : decode cX5_thing 152 = .ok (.getfield 19, 3) := by decide +kernel
theorem dX5_thing_155 : decode cX5_thing 155 = .ok (.invokevirtual 113, 3) := by decide +kernel
theorem dX5_thing_158 : decode cX5_thing 158 = .ok (.getfield 140, 3) := by decide +kernel
theorem dX5_thing_161 : decode cX5_thing 161 = .ok (.iload_n 1, 1) := by decide +kernel
theorem dX5_thing_162 : decode cX5_thing 162 = .ok (.iaload, 1) := by decide +kernel
theorem dX5_thing_163 : decode cX5_thing 163 = .ok (.invokestatic 100, 3) := by decide +kernel
theorem dX5_thing_166 : decode cX5_thing 166 = .ok (.ireturn, 1) := by decide +kernel
theorem dX5_thing_167 : decode cX5_thing 167 = .ok (.new 61, 3) := by decide +kernel
theorem dX5_thing_170 : decode cX5_thing 170 = .ok (.dup, 1) := by decide +kernel
theorem dX5_thing_171 : decode cX5_thing 171 = .ok (.ldc 127, 2) := by decide +kernel
theorem dX5_thing_173 : decode cX5_thing 173 = .ok (.invokespecial 65, 3) := by decide +kernel
theorem dX5_thing_176 : decode cX5_thing 176 = .ok (.athrow, 1) := by decide +kernel
theorem dX5_rights_0 : decode cX5_rights 0 = .ok (.aload_n 0, 1) := by decide +kernel
theorem dX5_rights_1 : decode cX5_rights 1 = .ok (.iload_n 1, 1) := by decide +kernel
theorem dX5_rights_2 : decode cX5_rights 2 = .ok (.iconst 0, 1) := by decide +kernel
theorem dX5_rights_3 : decode cX5_rights 3 = .ok (.iload_n 2, 1) := by decide +kernel
theorem dX5_rights_4 : decode cX5_rights 4 = .ok (.invokevirtual 150, 3) := by decide +kernel
theorem dX5_rights_7 : decode cX5_rights 7 = .ok (.iload_n 3, 1) := by decide +kernel
theorem dX5_rights_8 : decode cX5_rights 8 = .ok (.ifCond .eq 14, 3) := by decide +kernel
theorem dX5_rights_11 : decode cX5_rights 11 = .ok (.aload_n 0, 1) := by decide +kernel
theorem dX5_rights_12 : decode cX5_rights 12 = .ok (.aload_n 0, 1) := by decide +kernel
theorem dX5_rights_13 : decode cX5_rights 13 = .ok (.getfield 19, 3) := by decide +kernel
theorem dX5_rights_16 : decode cX5_rights 16 = .ok (.invokevirtual 113, 3) := by decide +kernel
theorem dX5_rights_19 : decode cX5_rights 19 = .ok (.goto 7, 3) := by decide +kernel
theorem dX5_rights_22 : decode cX5_rights 22 = .ok (.aload_n 0, 1) := by decide +kernel
theorem dX5_rights_23 : decode cX5_rights 23 = .ok (.getfield 19, 3) := by decide +kernel
theorem dX5_rights_26 : decode cX5_rights 26 = .ok (.astore 4, 2) := by decide +kernel
theorem dX5_rights_28 : decode cX5_rights 28 = .ok (.iconst 0, 1) := by decide +kernel
theorem dX5_rights_29 : decode cX5_rights 29 = .ok (.istore 5, 2) := by decide +kernel
theorem dX5_rights_31 : decode cX5_rights 31 = .ok (.iconst 0, 1) := by decide +kernel
theorem dX5_rights_32 : decode cX5_rights 32 = .ok (.istore 6, 2) := by decide +kernel
theorem dX5_rights_34 : decode cX5_rights 34 = .ok (.iload 6, 2) := by decide +kernel
theorem dX5_rights_36 : decode cX5_rights 36 = .ok (.iconst 4, 1) := by decide +kernel
theorem dX5_rights_37 : decode cX5_rights 37 = .ok (.if_icmp .ge 33, 3) := by decide +kernel
theorem dX5_rights_40 : decode cX5_rights 40 = .ok (.aload 4, 2) := by decide +kernel
theorem dX5_rights_42 : decode cX5_rights 42 = .ok (.iload_n 1, 1) := by decide +kernel
theorem dX5_rights_43 : decode cX5_rights 43 = .ok (.iload 6, 2) := by decide +kernel
theorem dX5_rights_45 : decode cX5_rights 45 = .ok (.iload_n 2, 1) := by decide +kernel
theorem dX5_rights_46 : decode cX5_rights 46 = .ok (.invokestatic 154, 3) := by decide +kernel
theorem dX5_rights_49 : decode cX5_rights 49 = .ok (.invokevirtual 158, 3) := by decide +kernel
theorem dX5_rights_52 : decode cX5_rights 52 = .ok (.ifCond .eq 12, 3) := by decide +kernel
theorem dX5_rights_55 : decode cX5_rights 55 = .ok (.iload 5, 2) := by decide +kernel
theorem dX5_rights_57 : decode cX5_rights 57 = .ok (.iconst 1, 1) := by decide +kernel
theorem dX5_rights_58 : decode cX5_rights 58 = .ok (.iload 6, 2) := by decide +kernel
theorem dX5_rights_60 : decode cX5_rights 60 = .ok (.ishl, 1) := by decide +kernel
theorem dX5_rights_61 : decode cX5_rights 61 = .ok (.ior, 1) := by decide +kernel
theorem dX5_rights_62 : decode cX5_rights 62 = .ok (.istore 5, 2) := by decide +kernel
theorem dX5_rights_64 : decode cX5_rights 64 = .ok (.iinc 6 1, 3) := by decide +kernel
theorem dX5_rights_67 : decode cX5_rights 67 = .ok (.goto (-33), 3) := by decide +kernel
theorem dX5_rights_70 : decode cX5_rights 70 = .ok (.iload 5, 2) := by decide +kernel
theorem dX5_rights_72 : decode cX5_rights 72 = .ok (.ireturn, 1) := by decide +kernel
theorem dX5_round_0 : decode cX5_round 0 = .ok (.aload_n 0, 1) := by decide +kernel
theorem dX5_round_1 : decode cX5_round 1 = .ok (.iload_n 1, 1) := by decide +kernel
theorem dX5_round_2 : decode cX5_round 2 = .ok (.iload_n 2, 1) := by decide +kernel
theorem dX5_round_3 : decode cX5_round 3 = .ok (.iload_n 3, 1) := by decide +kernel
theorem dX5_round_4 : decode cX5_round 4 = .ok (.invokevirtual 150, 3) := by decide +kernel
theorem dX5_round_7 : decode cX5_round 7 = .ok (.aload_n 0, 1) := by decide +kernel
theorem dX5_round_8 : decode cX5_round 8 = .ok (.getfield 43, 3) := by decide +kernel
theorem dX5_round_11 : decode cX5_round 11 = .ok (.aload_n 0, 1) := by decide +kernel
theorem dX5_round_12 : decode cX5_round 12 = .ok (.getfield 19, 3) := by decide +kernel
theorem dX5_round_15 : decode cX5_round 15 = .ok (.invokevirtual 117, 3) := by decide +kernel
theorem dX5_round_18 : decode cX5_round 18 = .ok (.iload_n 1, 1) := by decide +kernel
theorem dX5_round_19 : decode cX5_round 19 = .ok (.iload_n 2, 1) := by decide +kernel
theorem dX5_round_20 : decode cX5_round 20 = .ok (.iload_n 3, 1) := by decide +kernel
theorem dX5_round_21 : decode cX5_round 21 = .ok (.invokestatic 154, 3) := by decide +kernel
theorem dX5_round_24 : decode cX5_round 24 = .ok (.istore 4, 2) := by decide +kernel
theorem dX5_round_26 : decode cX5_round 26 = .ok (.aload_n 0, 1) := by decide +kernel
theorem dX5_round_27 : decode cX5_round 27 = .ok (.getfield 43, 3) := by decide +kernel
theorem dX5_round_30 : decode cX5_round 30 = .ok (.iload 4, 2) := by decide +kernel
theorem dX5_round_32 : decode cX5_round 32 = .ok (.invokevirtual 161, 3) := by decide +kernel
theorem dX5_round_35 : decode cX5_round 35 = .ok (.ifCond .eq 16, 3) := by decide +kernel
theorem dX5_round_38 : decode cX5_round 38 = .ok (.aload_n 0, 1) := by decide +kernel
theorem dX5_round_39 : decode cX5_round 39 = .ok (.getfield 43, 3) := by decide +kernel
theorem dX5_round_42 : decode cX5_round 42 = .ok (.getfield 164, 3) := by decide +kernel
theorem dX5_round_45 : decode cX5_round 45 = .ok (.iload 4, 2) := by decide +kernel
theorem dX5_round_47 : decode cX5_round 47 = .ok (.iaload, 1) := by decide +kernel
theorem dX5_round_48 : decode cX5_round 48 = .ok (.goto 5, 3) := by decide +kernel
theorem dX5_round_51 : decode cX5_round 51 = .ok (.bipush (-9), 2) := by decide +kernel
theorem dX5_round_53 : decode cX5_round 53 = .ok (.ireturn, 1) := by decide +kernel
theorem dX5_way_0 : decode cX5_way 0 = .ok (.aload_n 0, 1) := by decide +kernel
theorem dX5_way_1 : decode cX5_way 1 = .ok (.iload_n 1, 1) := by decide +kernel
theorem dX5_way_2 : decode cX5_way 2 = .ok (.iload_n 2, 1) := by decide +kernel
theorem dX5_way_3 : decode cX5_way 3 = .ok (.iload_n 3, 1) := by decide +kernel
theorem dX5_way_4 : decode cX5_way 4 = .ok (.invokevirtual 150, 3) := by decide +kernel
theorem dX5_way_7 : decode cX5_way 7 = .ok (.aload_n 0, 1) := by decide +kernel
theorem dX5_way_8 : decode cX5_way 8 = .ok (.getfield 43, 3) := by decide +kernel
theorem dX5_way_11 : decode cX5_way 11 = .ok (.aload_n 0, 1) := by decide +kernel
theorem dX5_way_12 : decode cX5_way 12 = .ok (.getfield 19, 3) := by decide +kernel
theorem dX5_way_15 : decode cX5_way 15 = .ok (.invokevirtual 117, 3) := by decide +kernel
theorem dX5_way_18 : decode cX5_way 18 = .ok (.aload_n 0, 1) := by decide +kernel
theorem dX5_way_19 : decode cX5_way 19 = .ok (.getfield 43, 3) := by decide +kernel
theorem dX5_way_22 : decode cX5_way 22 = .ok (.iload_n 1, 1) := by decide +kernel
theorem dX5_way_23 : decode cX5_way 23 = .ok (.iload_n 2, 1) := by decide +kernel
theorem dX5_way_24 : decode cX5_way 24 = .ok (.iload_n 3, 1) := by decide +kernel
theorem dX5_way_25 : decode cX5_way 25 = .ok (.invokestatic 154, 3) := by decide +kernel
theorem dX5_way_28 : decode cX5_way 28 = .ok (.invokevirtual 167, 3) := by decide +kernel
theorem dX5_way_31 : decode cX5_way 31 = .ok (.ireturn, 1) := by decide +kernel
theorem dX5_proof_0 : decode cX5_proof 0 = .ok (.aload_n 0, 1) := by decide +kernel
theorem dX5_proof_1 : decode cX5_proof 1 = .ok (.iload_n 1, 1) := by decide +kernel
theorem dX5_proof_2 : decode cX5_proof 2 = .ok (.iload_n 2, 1) := by decide +kernel
theorem dX5_proof_3 : decode cX5_proof 3 = .ok (.iload_n 3, 1) := by decide +kernel
theorem dX5_proof_4 : decode cX5_proof 4 = .ok (.invokevirtual 150, 3) := by decide +kernel
theorem dX5_proof_7 : decode cX5_proof 7 = .ok (.aload_n 0, 1) := by decide +kernel
theorem dX5_proof_8 : decode cX5_proof 8 = .ok (.getfield 43, 3) := by decide +kernel
theorem dX5_proof_11 : decode cX5_proof 11 = .ok (.aload_n 0, 1) := by decide +kernel
theorem dX5_proof_12 : decode cX5_proof 12 = .ok (.getfield 19, 3) := by decide +kernel
theorem dX5_proof_15 : decode cX5_proof 15 = .ok (.invokevirtual 117, 3) := by decide +kernel
theorem dX5_proof_18 : decode cX5_proof 18 = .ok (.iload_n 1, 1) := by decide +kernel
theorem dX5_proof_19 : decode cX5_proof 19 = .ok (.iload_n 2, 1) := by decide +kernel
theorem dX5_proof_20 : decode cX5_proof 20 = .ok (.iload_n 3, 1) := by decide +kernel
theorem dX5_proof_21 : decode cX5_proof 21 = .ok (.invokestatic 154, 3) := by decide +kernel
theorem dX5_proof_24 : decode cX5_proof 24 = .ok (.istore 4, 2) := by decide +kernel
theorem dX5_proof_26 : decode cX5_proof 26 = .ok (.aload_n 0, 1) := by decide +kernel
theorem dX5_proof_27 : decode cX5_proof 27 = .ok (.getfield 43, 3) := by decide +kernel
theorem dX5_proof_30 : decode cX5_proof 30 = .ok (.iload 4, 2) := by decide +kernel
theorem dX5_proof_32 : decode cX5_proof 32 = .ok (.invokevirtual 161, 3) := by decide +kernel
theorem dX5_proof_35 : decode cX5_proof 35 = .ok (.ifCond .eq 15, 3) := by decide +kernel
theorem dX5_proof_38 : decode cX5_proof 38 = .ok (.aload_n 0, 1) := by decide +kernel
theorem dX5_proof_39 : decode cX5_proof 39 = .ok (.getfield 43, 3) := by decide +kernel
theorem dX5_proof_42 : decode cX5_proof 42 = .ok (.iload 4, 2) := by decide +kernel
theorem dX5_proof_44 : decode cX5_proof 44 = .ok (.invokevirtual 170, 3) := by decide +kernel
theorem dX5_proof_47 : decode cX5_proof 47 = .ok (.goto 5, 3) := by decide +kernel
theorem dX5_proof_50 : decode cX5_proof 50 = .ok (.bipush (-9), 2) := by decide +kernel
theorem dX5_proof_52 : decode cX5_proof 52 = .ok (.ireturn, 1) := by decide +kernel
theorem dX5_addThing_0 : decode cX5_addThing 0 = .ok (.aload_n 0, 1) := by decide +kernel
theorem dX5_addThing_1 : decode cX5_addThing 1 = .ok (.getfield 19, 3) := by decide +kernel
theorem dX5_addThing_4 : decode cX5_addThing 4 = .ok (.getfield 94, 3) := by decide +kernel
theorem dX5_addThing_7 : decode cX5_addThing 7 = .ok (.bipush 7, 2) := by decide +kernel
theorem dX5_addThing_9 : decode cX5_addThing 9 = .ok (.if_icmp .lt 13, 3) := by decide +kernel
theorem dX5_addThing_12 : decode cX5_addThing 12 = .ok (.new 72, 3) := by decide +kernel
theorem dX5_addThing_15 : decode cX5_addThing 15 = .ok (.dup, 1) := by decide +kernel
theorem dX5_addThing_16 : decode cX5_addThing 16 = .ok (.ldc 173, 2) := by decide +kernel
theorem dX5_addThing_18 : decode cX5_addThing 18 = .ok (.invokespecial 76, 3) := by decide +kernel
theorem dX5_addThing_21 : decode cX5_addThing 21 = .ok (.athrow, 1) := by decide +kernel
theorem dX5_addThing_22 : decode cX5_addThing 22 = .ok (.aload_n 0, 1) := by decide +kernel
theorem dX5_addThing_23 : decode cX5_addThing 23 = .ok (.invokevirtual 175, 3) := by decide +kernel
theorem dX5_addThing_26 : decode cX5_addThing 26 = .ok (.aload_n 0, 1) := by decide +kernel
theorem dX5_addThing_27 : decode cX5_addThing 27 = .ok (.getfield 19, 3) := by decide +kernel
theorem dX5_addThing_30 : decode cX5_addThing 30 = .ok (.iload_n 1, 1) := by decide +kernel
theorem dX5_addThing_31 : decode cX5_addThing 31 = .ok (.iload_n 1, 1) := by decide +kernel
theorem dX5_addThing_32 : decode cX5_addThing 32 = .ok (.invokevirtual 178, 3) := by decide +kernel
theorem dX5_addThing_35 : decode cX5_addThing 35 = .ok (.aload_n 0, 1) := by decide +kernel
theorem dX5_addThing_36 : decode cX5_addThing 36 = .ok (.getfield 19, 3) := by decide +kernel
theorem dX5_addThing_39 : decode cX5_addThing 39 = .ok (.getfield 94, 3) := by decide +kernel
theorem dX5_addThing_42 : decode cX5_addThing 42 = .ok (.iconst 1, 1) := by decide +kernel
theorem dX5_addThing_43 : decode cX5_addThing 43 = .ok (.isub, 1) := by decide +kernel
theorem dX5_addThing_44 : decode cX5_addThing 44 = .ok (.ireturn, 1) := by decide +kernel
theorem dX5_wake_0 : decode cX5_wake 0 = .ok (.aload_n 0, 1) := by decide +kernel
theorem dX5_wake_1 : decode cX5_wake 1 = .ok (.iload_n 1, 1) := by decide +kernel
theorem dX5_wake_2 : decode cX5_wake 2 = .ok (.invokevirtual 129, 3) := by decide +kernel
theorem dX5_wake_5 : decode cX5_wake 5 = .ok (.aload_n 0, 1) := by decide +kernel
theorem dX5_wake_6 : decode cX5_wake 6 = .ok (.getfield 19, 3) := by decide +kernel
theorem dX5_wake_9 : decode cX5_wake 9 = .ok (.iload_n 1, 1) := by decide +kernel
theorem dX5_wake_10 : decode cX5_wake 10 = .ok (.invokevirtual 133, 3) := by decide +kernel
theorem dX5_wake_13 : decode cX5_wake 13 = .ok (.ifCond .ne 13, 3) := by decide +kernel
theorem dX5_wake_16 : decode cX5_wake 16 = .ok (.new 72, 3) := by decide +kernel
theorem dX5_wake_19 : decode cX5_wake 19 = .ok (.dup, 1) := by decide +kernel
theorem dX5_wake_20 : decode cX5_wake 20 = .ok (.ldc 185, 2) := by decide +kernel
theorem dX5_wake_22 : decode cX5_wake 22 = .ok (.invokespecial 76, 3) := by decide +kernel
theorem dX5_wake_25 : decode cX5_wake 25 = .ok (.athrow, 1) := by decide +kernel
theorem dX5_wake_26 : decode cX5_wake 26 = .ok (.aload_n 0, 1) := by decide +kernel
theorem dX5_wake_27 : decode cX5_wake 27 = .ok (.invokevirtual 175, 3) := by decide +kernel
theorem dX5_wake_30 : decode cX5_wake 30 = .ok (.aload_n 0, 1) := by decide +kernel
theorem dX5_wake_31 : decode cX5_wake 31 = .ok (.getfield 19, 3) := by decide +kernel
theorem dX5_wake_34 : decode cX5_wake 34 = .ok (.iload_n 1, 1) := by decide +kernel
theorem dX5_wake_35 : decode cX5_wake 35 = .ok (.iload_n 2, 1) := by decide +kernel
theorem dX5_wake_36 : decode cX5_wake 36 = .ok (.invokevirtual 187, 3) := by decide +kernel
theorem dX5_wake_39 : decode cX5_wake 39 = .ok (.aload_n 0, 1) := by decide +kernel
theorem dX5_wake_40 : decode cX5_wake 40 = .ok (.aload_n 0, 1) := by decide +kernel
theorem dX5_wake_41 : decode cX5_wake 41 = .ok (.getfield 19, 3) := by decide +kernel
theorem dX5_wake_44 : decode cX5_wake 44 = .ok (.invokevirtual 113, 3) := by decide +kernel
theorem dX5_wake_47 : decode cX5_wake 47 = .ok (.invokevirtual 109, 3) := by decide +kernel
theorem dX5_wake_50 : decode cX5_wake 50 = .ok (.ireturn, 1) := by decide +kernel
theorem dX5_set_0 : decode cX5_set 0 = .ok (.aload_n 0, 1) := by decide +kernel
theorem dX5_set_1 : decode cX5_set 1 = .ok (.iload_n 1, 1) := by decide +kernel
theorem dX5_set_2 : decode cX5_set 2 = .ok (.iload_n 2, 1) := by decide +kernel
theorem dX5_set_3 : decode cX5_set 3 = .ok (.iload_n 3, 1) := by decide +kernel
theorem dX5_set_4 : decode cX5_set 4 = .ok (.invokevirtual 150, 3) := by decide +kernel
theorem dX5_set_7 : decode cX5_set 7 = .ok (.iload_n 1, 1) := by decide +kernel
theorem dX5_set_8 : decode cX5_set 8 = .ok (.iload_n 2, 1) := by decide +kernel
theorem dX5_set_9 : decode cX5_set 9 = .ok (.iload_n 3, 1) := by decide +kernel
theorem dX5_set_10 : decode cX5_set 10 = .ok (.invokestatic 154, 3) := by decide +kernel
theorem dX5_set_13 : decode cX5_set 13 = .ok (.istore 5, 2) := by decide +kernel
theorem dX5_set_15 : decode cX5_set 15 = .ok (.iload 4, 2) := by decide +kernel
theorem dX5_set_17 : decode cX5_set 17 = .ok (.ifCond .eq 25, 3) := by decide +kernel
theorem dX5_set_20 : decode cX5_set 20 = .ok (.aload_n 0, 1) := by decide +kernel
theorem dX5_set_21 : decode cX5_set 21 = .ok (.getfield 19, 3) := by decide +kernel
theorem dX5_set_24 : decode cX5_set 24 = .ok (.iload 5, 2) := by decide +kernel
theorem dX5_set_26 : decode cX5_set 26 = .ok (.invokevirtual 191, 3) := by decide +kernel
theorem dX5_set_29 : decode cX5_set 29 = .ok (.ifCond .ne 13, 3) := by decide +kernel
theorem dX5_set_32 : decode cX5_set 32 = .ok (.new 72, 3) := by decide +kernel
theorem dX5_set_35 : decode cX5_set 35 = .ok (.dup, 1) := by decide +kernel
theorem dX5_set_36 : decode cX5_set 36 = .ok (.ldc 194, 2) := by decide +kernel
theorem dX5_set_38 : decode cX5_set 38 = .ok (.invokespecial 76, 3) := by decide +kernel
theorem dX5_set_41 : decode cX5_set 41 = .ok (.athrow, 1) := by decide +kernel
theorem dX5_set_42 : decode cX5_set 42 = .ok (.aload_n 0, 1) := by decide +kernel
theorem dX5_set_43 : decode cX5_set 43 = .ok (.getfield 19, 3) := by decide +kernel
theorem dX5_set_46 : decode cX5_set 46 = .ok (.iload 5, 2) := by decide +kernel
theorem dX5_set_48 : decode cX5_set 48 = .ok (.invokevirtual 158, 3) := by decide +kernel
theorem dX5_set_51 : decode cX5_set 51 = .ok (.istore 6, 2) := by decide +kernel
theorem dX5_set_53 : decode cX5_set 53 = .ok (.aload_n 0, 1) := by decide +kernel
theorem dX5_set_54 : decode cX5_set 54 = .ok (.invokevirtual 175, 3) := by decide +kernel
theorem dX5_set_57 : decode cX5_set 57 = .ok (.aload_n 0, 1) := by decide +kernel
theorem dX5_set_58 : decode cX5_set 58 = .ok (.getfield 19, 3) := by decide +kernel
theorem dX5_set_61 : decode cX5_set 61 = .ok (.iload 5, 2) := by decide +kernel
theorem dX5_set_63 : decode cX5_set 63 = .ok (.iload 4, 2) := by decide +kernel
theorem dX5_set_65 : decode cX5_set 65 = .ok (.invokevirtual 196, 3) := by decide +kernel
theorem dX5_set_68 : decode cX5_set 68 = .ok (.iload 6, 2) := by decide +kernel
theorem dX5_set_70 : decode cX5_set 70 = .ok (.ireturn, 1) := by decide +kernel
theorem dX5_undo_0 : decode cX5_undo 0 = .ok (.aload_n 0, 1) := by decide +kernel
theorem dX5_undo_1 : decode cX5_undo 1 = .ok (.getfield 91, 3) := by decide +kernel
theorem dX5_undo_4 : decode cX5_undo 4 = .ok (.ifCond .ne 13, 3) := by decide +kernel
theorem dX5_undo_7 : decode cX5_undo 7 = .ok (.new 72, 3) := by decide +kernel
theorem dX5_undo_10 : decode cX5_undo 10 = .ok (.dup, 1) := by decide +kernel
theorem dX5_undo_11 : decode cX5_undo 11 = .ok (.ldc 203, 2) := by decide +kernel
theorem dX5_undo_13 : decode cX5_undo 13 = .ok (.invokespecial 76, 3) := by decide +kernel
theorem dX5_undo_16 : decode cX5_undo 16 = .ok (.athrow, 1) := by decide +kernel
theorem dX5_undo_17 : decode cX5_undo 17 = .ok (.aload_n 0, 1) := by decide +kernel
theorem dX5_undo_18 : decode cX5_undo 18 = .ok (.dup, 1) := by decide +kernel
theorem dX5_undo_19 : decode cX5_undo 19 = .ok (.getfield 91, 3) := by decide +kernel
theorem dX5_undo_22 : decode cX5_undo 22 = .ok (.iconst 1, 1) := by decide +kernel
theorem dX5_undo_23 : decode cX5_undo 23 = .ok (.isub, 1) := by decide +kernel
theorem dX5_undo_24 : decode cX5_undo 24 = .ok (.putfield 91, 3) := by decide +kernel
theorem dX5_undo_27 : decode cX5_undo 27 = .ok (.aload_n 0, 1) := by decide +kernel
theorem dX5_undo_28 : decode cX5_undo 28 = .ok (.getfield 19, 3) := by decide +kernel
theorem dX5_undo_31 : decode cX5_undo 31 = .ok (.aload_n 0, 1) := by decide +kernel
theorem dX5_undo_32 : decode cX5_undo 32 = .ok (.getfield 23, 3) := by decide +kernel
theorem dX5_undo_35 : decode cX5_undo 35 = .ok (.aload_n 0, 1) := by decide +kernel
theorem dX5_undo_36 : decode cX5_undo 36 = .ok (.getfield 91, 3) := by decide +kernel
theorem dX5_undo_39 : decode cX5_undo 39 = .ok (.aaload, 1) := by decide +kernel
theorem dX5_undo_40 : decode cX5_undo 40 = .ok (.invokevirtual 87, 3) := by decide +kernel
theorem dX5_undo_43 : decode cX5_undo 43 = .ok (.aload_n 0, 1) := by decide +kernel
theorem dX5_undo_44 : decode cX5_undo 44 = .ok (.getfield 91, 3) := by decide +kernel
theorem dX5_undo_47 : decode cX5_undo 47 = .ok (.ireturn, 1) := by decide +kernel
theorem dX5_needed_0 : decode cX5_needed 0 = .ok (.aload_n 0, 1) := by decide +kernel
theorem dX5_needed_1 : decode cX5_needed 1 = .ok (.iload_n 1, 1) := by decide +kernel
theorem dX5_needed_2 : decode cX5_needed 2 = .ok (.iload_n 2, 1) := by decide +kernel
theorem dX5_needed_3 : decode cX5_needed 3 = .ok (.iload_n 3, 1) := by decide +kernel
theorem dX5_needed_4 : decode cX5_needed 4 = .ok (.invokevirtual 150, 3) := by decide +kernel
theorem dX5_needed_7 : decode cX5_needed 7 = .ok (.iload_n 1, 1) := by decide +kernel
theorem dX5_needed_8 : decode cX5_needed 8 = .ok (.iload_n 2, 1) := by decide +kernel
theorem dX5_needed_9 : decode cX5_needed 9 = .ok (.iload_n 3, 1) := by decide +kernel
theorem dX5_needed_10 : decode cX5_needed 10 = .ok (.invokestatic 154, 3) := by decide +kernel
theorem dX5_needed_13 : decode cX5_needed 13 = .ok (.istore 4, 2) := by decide +kernel
theorem dX5_needed_15 : decode cX5_needed 15 = .ok (.aload_n 0, 1) := by decide +kernel
theorem dX5_needed_16 : decode cX5_needed 16 = .ok (.aload_n 0, 1) := by decide +kernel
theorem dX5_needed_17 : decode cX5_needed 17 = .ok (.getfield 19, 3) := by decide +kernel
theorem dX5_needed_20 : decode cX5_needed 20 = .ok (.getfield 106, 3) := by decide +kernel
theorem dX5_needed_23 : decode cX5_needed 23 = .ok (.iload 4, 2) := by decide +kernel
theorem dX5_needed_25 : decode cX5_needed 25 = .ok (.invokevirtual 212, 3) := by decide +kernel
theorem dX5_needed_28 : decode cX5_needed 28 = .ok (.ifCond .ne 6, 3) := by decide +kernel
theorem dX5_needed_31 : decode cX5_needed 31 = .ok (.bipush (-9), 2) := by decide +kernel
theorem dX5_needed_33 : decode cX5_needed 33 = .ok (.ireturn, 1) := by decide +kernel
theorem dX5_needed_34 : decode cX5_needed 34 = .ok (.aload_n 0, 1) := by decide +kernel
theorem dX5_needed_35 : decode cX5_needed 35 = .ok (.getfield 19, 3) := by decide +kernel
theorem dX5_needed_38 : decode cX5_needed 38 = .ok (.getfield 106, 3) := by decide +kernel
theorem dX5_needed_41 : decode cX5_needed 41 = .ok (.istore 5, 2) := by decide +kernel
theorem dX5_needed_43 : decode cX5_needed 43 = .ok (.iconst 0, 1) := by decide +kernel
theorem dX5_needed_44 : decode cX5_needed 44 = .ok (.istore 6, 2) := by decide +kernel
theorem dX5_needed_46 : decode cX5_needed 46 = .ok (.iload 6, 2) := by decide +kernel
theorem dX5_needed_48 : decode cX5_needed 48 = .ok (.sipush 128, 3) := by decide +kernel
theorem dX5_needed_51 : decode cX5_needed 51 = .ok (.if_icmp .ge 64, 3) := by decide +kernel
theorem dX5_needed_54 : decode cX5_needed 54 = .ok (.iload 6, 2) := by decide +kernel
theorem dX5_needed_56 : decode cX5_needed 56 = .ok (.aload_n 0, 1) := by decide +kernel
theorem dX5_needed_57 : decode cX5_needed 57 = .ok (.getfield 19, 3) := by decide +kernel
theorem dX5_needed_60 : decode cX5_needed 60 = .ok (.getfield 106, 3) := by decide +kernel
theorem dX5_needed_63 : decode cX5_needed 63 = .ok (.iconst (-1), 1) := by decide +kernel
theorem dX5_needed_64 : decode cX5_needed 64 = .ok (.ixor, 1) := by decide +kernel
theorem dX5_needed_65 : decode cX5_needed 65 = .ok (.iand, 1) := by decide +kernel
theorem dX5_needed_66 : decode cX5_needed 66 = .ok (.ifCond .ne 7, 3) := by decide +kernel
theorem dX5_needed_69 : decode cX5_needed 69 = .ok (.iconst 1, 1) := by decide +kernel
theorem dX5_needed_70 : decode cX5_needed 70 = .ok (.goto 4, 3) := by decide +kernel
theorem dX5_needed_73 : decode cX5_needed 73 = .ok (.iconst 0, 1) := by decide +kernel
theorem dX5_needed_74 : decode cX5_needed 74 = .ok (.istore 7, 2) := by decide +kernel
theorem dX5_needed_76 : decode cX5_needed 76 = .ok (.iload 7, 2) := by decide +kernel
theorem dX5_needed_78 : decode cX5_needed 78 = .ok (.ifCond .eq 31, 3) := by decide +kernel
theorem dX5_needed_81 : decode cX5_needed 81 = .ok (.iload 6, 2) := by decide +kernel
theorem dX5_needed_83 : decode cX5_needed 83 = .ok (.invokestatic 100, 3) := by decide +kernel
theorem dX5_needed_86 : decode cX5_needed 86 = .ok (.iload 5, 2) := by decide +kernel
theorem dX5_needed_88 : decode cX5_needed 88 = .ok (.invokestatic 100, 3) := by decide +kernel
theorem dX5_needed_91 : decode cX5_needed 91 = .ok (.if_icmp .ge 18, 3) := by decide +kernel
theorem dX5_needed_94 : decode cX5_needed 94 = .ok (.aload_n 0, 1) := by decide +kernel
theorem dX5_needed_95 : decode cX5_needed 95 = .ok (.iload 6, 2) := by decide +kernel
theorem dX5_needed_97 : decode cX5_needed 97 = .ok (.iload 4, 2) := by decide +kernel
theorem dX5_needed_99 : decode cX5_needed 99 = .ok (.invokevirtual 212, 3) := by decide +kernel
theorem dX5_needed_102 : decode cX5_needed 102 = .ok (.ifCond .eq 7, 3) := by decide +kernel
theorem dX5_needed_105 : decode cX5_needed 105 = .ok (.iload 6, 2) := by decide +kernel
theorem dX5_needed_107 : decode cX5_needed 107 = .ok (.istore 5, 2) := by decide +kernel
theorem dX5_needed_109 : decode cX5_needed 109 = .ok (.iinc 6 1, 3) := by decide +kernel
theorem dX5_needed_112 : decode cX5_needed 112 = .ok (.goto (-66), 3) := by decide +kernel
theorem dX5_needed_115 : decode cX5_needed 115 = .ok (.iload 5, 2) := by decide +kernel
theorem dX5_needed_117 : decode cX5_needed 117 = .ok (.ireturn, 1) := by decide +kernel
theorem dX5_cut_0 : decode cX5_cut 0 = .ok (.aload_n 0, 1) := by decide +kernel
theorem dX5_cut_1 : decode cX5_cut 1 = .ok (.iload_n 1, 1) := by decide +kernel
theorem dX5_cut_2 : decode cX5_cut 2 = .ok (.iload_n 2, 1) := by decide +kernel
theorem dX5_cut_3 : decode cX5_cut 3 = .ok (.iload_n 3, 1) := by decide +kernel
theorem dX5_cut_4 : decode cX5_cut 4 = .ok (.invokevirtual 150, 3) := by decide +kernel
theorem dX5_cut_7 : decode cX5_cut 7 = .ok (.aload_n 0, 1) := by decide +kernel
theorem dX5_cut_8 : decode cX5_cut 8 = .ok (.getfield 57, 3) := by decide +kernel
theorem dX5_cut_11 : decode cX5_cut 11 = .ok (.aload_n 0, 1) := by decide +kernel
theorem dX5_cut_12 : decode cX5_cut 12 = .ok (.getfield 19, 3) := by decide +kernel
theorem dX5_cut_15 : decode cX5_cut 15 = .ok (.aload_n 0, 1) := by decide +kernel
theorem dX5_cut_16 : decode cX5_cut 16 = .ok (.getfield 43, 3) := by decide +kernel
theorem dX5_cut_19 : decode cX5_cut 19 = .ok (.iload_n 1, 1) := by decide +kernel
theorem dX5_cut_20 : decode cX5_cut 20 = .ok (.iload_n 2, 1) := by decide +kernel
theorem dX5_cut_21 : decode cX5_cut 21 = .ok (.iload_n 3, 1) := by decide +kernel
theorem dX5_cut_22 : decode cX5_cut 22 = .ok (.invokestatic 154, 3) := by decide +kernel
theorem dX5_cut_25 : decode cX5_cut 25 = .ok (.invokevirtual 216, 3) := by decide +kernel
theorem dX5_cut_28 : decode cX5_cut 28 = .ok (.ireturn, 1) := by decide +kernel
theorem dX5_cutAt_0 : decode cX5_cutAt 0 = .ok (.aload_n 0, 1) := by decide +kernel
theorem dX5_cutAt_1 : decode cX5_cutAt 1 = .ok (.iload_n 1, 1) := by decide +kernel
theorem dX5_cutAt_2 : decode cX5_cutAt 2 = .ok (.iload_n 2, 1) := by decide +kernel
theorem dX5_cutAt_3 : decode cX5_cutAt 3 = .ok (.iload_n 3, 1) := by decide +kernel
theorem dX5_cutAt_4 : decode cX5_cutAt 4 = .ok (.invokevirtual 150, 3) := by decide +kernel
theorem dX5_cutAt_7 : decode cX5_cutAt 7 = .ok (.iload 4, 2) := by decide +kernel
theorem dX5_cutAt_9 : decode cX5_cutAt 9 = .ok (.ifCond .lt 9, 3) := by decide +kernel
theorem dX5_cutAt_12 : decode cX5_cutAt 12 = .ok (.iload 4, 2) := by decide +kernel
theorem dX5_cutAt_14 : decode cX5_cutAt 14 = .ok (.iconst 1, 1) := by decide +kernel
theorem dX5_cutAt_15 : decode cX5_cutAt 15 = .ok (.if_icmp .le 13, 3) := by decide +kernel
theorem dX5_cutAt_18 : decode cX5_cutAt 18 = .ok (.new 61, 3) := by decide +kernel
theorem dX5_cutAt_21 : decode cX5_cutAt 21 = .ok (.dup, 1) := by decide +kernel
theorem dX5_cutAt_22 : decode cX5_cutAt 22 = .ok (.ldc 220, 2) := by decide +kernel
theorem dX5_cutAt_24 : decode cX5_cutAt 24 = .ok (.invokespecial 65, 3) := by decide +kernel
theorem dX5_cutAt_27 : decode cX5_cutAt 27 = .ok (.athrow, 1) := by decide +kernel
theorem dX5_cutAt_28 : decode cX5_cutAt 28 = .ok (.aload_n 0, 1) := by decide +kernel
theorem dX5_cutAt_29 : decode cX5_cutAt 29 = .ok (.getfield 57, 3) := by decide +kernel
theorem dX5_cutAt_32 : decode cX5_cutAt 32 = .ok (.aload_n 0, 1) := by decide +kernel
theorem dX5_cutAt_33 : decode cX5_cutAt 33 = .ok (.getfield 19, 3) := by decide +kernel
theorem dX5_cutAt_36 : decode cX5_cutAt 36 = .ok (.aload_n 0, 1) := by decide +kernel
theorem dX5_cutAt_37 : decode cX5_cutAt 37 = .ok (.getfield 43, 3) := by decide +kernel
theorem dX5_cutAt_40 : decode cX5_cutAt 40 = .ok (.iload_n 1, 1) := by decide +kernel
theorem dX5_cutAt_41 : decode cX5_cutAt 41 = .ok (.iload_n 2, 1) := by decide +kernel
theorem dX5_cutAt_42 : decode cX5_cutAt 42 = .ok (.iload_n 3, 1) := by decide +kernel
theorem dX5_cutAt_43 : decode cX5_cutAt 43 = .ok (.invokestatic 154, 3) := by decide +kernel
theorem dX5_cutAt_46 : decode cX5_cutAt 46 = .ok (.invokevirtual 216, 3) := by decide +kernel
theorem dX5_cutAt_49 : decode cX5_cutAt 49 = .ok (.istore 5, 2) := by decide +kernel
theorem dX5_cutAt_51 : decode cX5_cutAt 51 = .ok (.iload 4, 2) := by decide +kernel
theorem dX5_cutAt_53 : decode cX5_cutAt 53 = .ok (.iload 5, 2) := by decide +kernel
theorem dX5_cutAt_55 : decode cX5_cutAt 55 = .ok (.if_icmp .lt 6, 3) := by decide +kernel
theorem dX5_cutAt_58 : decode cX5_cutAt 58 = .ok (.bipush (-9), 2) := by decide +kernel
theorem dX5_cutAt_60 : decode cX5_cutAt 60 = .ok (.ireturn, 1) := by decide +kernel
theorem dX5_cutAt_61 : decode cX5_cutAt 61 = .ok (.iload 4, 2) := by decide +kernel
theorem dX5_cutAt_63 : decode cX5_cutAt 63 = .ok (.ifCond .ne 13, 3) := by decide +kernel
theorem dX5_cutAt_66 : decode cX5_cutAt 66 = .ok (.aload_n 0, 1) := by decide +kernel
theorem dX5_cutAt_67 : decode cX5_cutAt 67 = .ok (.getfield 57, 3) := by decide +kernel
theorem dX5_cutAt_70 : decode cX5_cutAt 70 = .ok (.getfield 222, 3) := by decide +kernel
theorem dX5_cutAt_73 : decode cX5_cutAt 73 = .ok (.goto 10, 3) := by decide +kernel
theorem dX5_cutAt_76 : decode cX5_cutAt 76 = .ok (.aload_n 0, 1) := by decide +kernel
theorem dX5_cutAt_77 : decode cX5_cutAt 77 = .ok (.getfield 57, 3) := by decide +kernel
theorem dX5_cutAt_80 : decode cX5_cutAt 80 = .ok (.getfield 225, 3) := by decide +kernel
theorem dX5_cutAt_83 : decode cX5_cutAt 83 = .ok (.invokestatic 228, 3) := by decide +kernel
theorem dX5_cutAt_86 : decode cX5_cutAt 86 = .ok (.ireturn, 1) := by decide +kernel
theorem dX5_sleeper_0 : decode cX5_sleeper 0 = .ok (.bipush (-9), 2) := by decide +kernel
theorem dX5_sleeper_2 : decode cX5_sleeper 2 = .ok (.istore_n 1, 1) := by decide +kernel
theorem dX5_sleeper_3 : decode cX5_sleeper 3 = .ok (.sipush 196, 3) := by decide +kernel
theorem dX5_sleeper_6 : decode cX5_sleeper 6 = .ok (.istore_n 2, 1) := by decide +kernel
theorem dX5_sleeper_7 : decode cX5_sleeper 7 = .ok (.iconst 0, 1) := by decide +kernel
theorem dX5_sleeper_8 : decode cX5_sleeper 8 = .ok (.istore_n 3, 1) := by decide +kernel
theorem dX5_sleeper_9 : decode cX5_sleeper 9 = .ok (.iload_n 3, 1) := by decide +kernel
theorem dX5_sleeper_10 : decode cX5_sleeper 10 = .ok (.aload_n 0, 1) := by decide +kernel
theorem dX5_sleeper_11 : decode cX5_sleeper 11 = .ok (.getfield 19, 3) := by decide +kernel
theorem dX5_sleeper_14 : decode cX5_sleeper 14 = .ok (.getfield 94, 3) := by decide +kernel
theorem dX5_sleeper_17 : decode cX5_sleeper 17 = .ok (.if_icmp .ge 68, 3) := by decide +kernel
theorem dX5_sleeper_20 : decode cX5_sleeper 20 = .ok (.aload_n 0, 1) := by decide +kernel
theorem dX5_sleeper_21 : decode cX5_sleeper 21 = .ok (.getfield 19, 3) := by decide +kernel
theorem dX5_sleeper_24 : decode cX5_sleeper 24 = .ok (.iload_n 3, 1) := by decide +kernel
theorem dX5_sleeper_25 : decode cX5_sleeper 25 = .ok (.invokevirtual 137, 3) := by decide +kernel
theorem dX5_sleeper_28 : decode cX5_sleeper 28 = .ok (.ifCond .eq 51, 3) := by decide +kernel
theorem dX5_sleeper_31 : decode cX5_sleeper 31 = .ok (.aload_n 0, 1) := by decide +kernel
theorem dX5_sleeper_32 : decode cX5_sleeper 32 = .ok (.getfield 37, 3) := by decide +kernel
theorem dX5_sleeper_35 : decode cX5_sleeper 35 = .ok (.aload_n 0, 1) := by decide +kernel
theorem dX5_sleeper_36 : decode cX5_sleeper 36 = .ok (.getfield 19, 3) := by decide +kernel
theorem dX5_sleeper_39 : decode cX5_sleeper 39 = .ok (.invokevirtual 87, 3) := by decide +kernel
theorem dX5_sleeper_42 : decode cX5_sleeper 42 = .ok (.aload_n 0, 1) := by decide +kernel
theorem dX5_sleeper_43 : decode cX5_sleeper 43 = .ok (.getfield 37, 3) := by decide +kernel
theorem dX5_sleeper_46 : decode cX5_sleeper 46 = .ok (.iload_n 3, 1) := by decide +kernel
theorem dX5_sleeper_47 : decode cX5_sleeper 47 = .ok (.iconst 0, 1) := by decide +kernel
theorem dX5_sleeper_48 : decode cX5_sleeper 48 = .ok (.invokevirtual 187, 3) := by decide +kernel
theorem dX5_sleeper_51 : decode cX5_sleeper 51 = .ok (.aload_n 0, 1) := by decide +kernel
theorem dX5_sleeper_52 : decode cX5_sleeper 52 = .ok (.getfield 37, 3) := by decide +kernel
theorem dX5_sleeper_55 : decode cX5_sleeper 55 = .ok (.invokevirtual 231, 3) := by decide +kernel
theorem dX5_sleeper_58 : decode cX5_sleeper 58 = .ok (.aload_n 0, 1) := by decide +kernel
theorem dX5_sleeper_59 : decode cX5_sleeper 59 = .ok (.getfield 37, 3) := by decide +kernel
theorem dX5_sleeper_62 : decode cX5_sleeper 62 = .ok (.invokevirtual 109, 3) := by decide +kernel
theorem dX5_sleeper_65 : decode cX5_sleeper 65 = .ok (.iload_n 2, 1) := by decide +kernel
theorem dX5_sleeper_66 : decode cX5_sleeper 66 = .ok (.if_icmp .ge 13, 3) := by decide +kernel
theorem dX5_sleeper_69 : decode cX5_sleeper 69 = .ok (.aload_n 0, 1) := by decide +kernel
theorem dX5_sleeper_70 : decode cX5_sleeper 70 = .ok (.getfield 37, 3) := by decide +kernel
theorem dX5_sleeper_73 : decode cX5_sleeper 73 = .ok (.invokevirtual 109, 3) := by decide +kernel
theorem dX5_sleeper_76 : decode cX5_sleeper 76 = .ok (.istore_n 2, 1) := by decide +kernel
theorem dX5_sleeper_77 : decode cX5_sleeper 77 = .ok (.iload_n 3, 1) := by decide +kernel
theorem dX5_sleeper_78 : decode cX5_sleeper 78 = .ok (.istore_n 1, 1) := by decide +kernel
theorem dX5_sleeper_79 : decode cX5_sleeper 79 = .ok (.iinc 3 1, 3) := by decide +kernel
theorem dX5_sleeper_82 : decode cX5_sleeper 82 = .ok (.goto (-73), 3) := by decide +kernel
theorem dX5_sleeper_85 : decode cX5_sleeper 85 = .ok (.iload_n 1, 1) := by decide +kernel
theorem dX5_sleeper_86 : decode cX5_sleeper 86 = .ok (.ireturn, 1) := by decide +kernel
theorem dX5_danger_0 : decode cX5_danger 0 = .ok (.aload_n 0, 1) := by decide +kernel
theorem dX5_danger_1 : decode cX5_danger 1 = .ok (.getfield 43, 3) := by decide +kernel
theorem dX5_danger_4 : decode cX5_danger 4 = .ok (.aload_n 0, 1) := by decide +kernel
theorem dX5_danger_5 : decode cX5_danger 5 = .ok (.getfield 19, 3) := by decide +kernel
theorem dX5_danger_8 : decode cX5_danger 8 = .ok (.invokevirtual 117, 3) := by decide +kernel
theorem dX5_danger_11 : decode cX5_danger 11 = .ok (.bipush (-9), 2) := by decide +kernel
theorem dX5_danger_13 : decode cX5_danger 13 = .ok (.istore_n 1, 1) := by decide +kernel
theorem dX5_danger_14 : decode cX5_danger 14 = .ok (.iconst (-1), 1) := by decide +kernel
theorem dX5_danger_15 : decode cX5_danger 15 = .ok (.istore_n 2, 1) := by decide +kernel
theorem dX5_danger_16 : decode cX5_danger 16 = .ok (.iconst 0, 1) := by decide +kernel
theorem dX5_danger_17 : decode cX5_danger 17 = .ok (.istore_n 3, 1) := by decide +kernel
theorem dX5_danger_18 : decode cX5_danger 18 = .ok (.iload_n 3, 1) := by decide +kernel
theorem dX5_danger_19 : decode cX5_danger 19 = .ok (.sipush 196, 3) := by decide +kernel
theorem dX5_danger_22 : decode cX5_danger 22 = .ok (.if_icmp .ge 52, 3) := by decide +kernel
theorem dX5_danger_25 : decode cX5_danger 25 = .ok (.aload_n 0, 1) := by decide +kernel
theorem dX5_danger_26 : decode cX5_danger 26 = .ok (.getfield 19, 3) := by decide +kernel
theorem dX5_danger_29 : decode cX5_danger 29 = .ok (.iload_n 3, 1) := by decide +kernel
theorem dX5_danger_30 : decode cX5_danger 30 = .ok (.invokevirtual 234, 3) := by decide +kernel
theorem dX5_danger_33 : decode cX5_danger 33 = .ok (.ifCond .eq 35, 3) := by decide +kernel
theorem dX5_danger_36 : decode cX5_danger 36 = .ok (.aload_n 0, 1) := by decide +kernel
theorem dX5_danger_37 : decode cX5_danger 37 = .ok (.getfield 19, 3) := by decide +kernel
theorem dX5_danger_40 : decode cX5_danger 40 = .ok (.iload_n 3, 1) := by decide +kernel
theorem dX5_danger_41 : decode cX5_danger 41 = .ok (.invokevirtual 158, 3) := by decide +kernel
theorem dX5_danger_44 : decode cX5_danger 44 = .ok (.ifCond .ne 24, 3) := by decide +kernel
theorem dX5_danger_47 : decode cX5_danger 47 = .ok (.aload_n 0, 1) := by decide +kernel
theorem dX5_danger_48 : decode cX5_danger 48 = .ok (.iload_n 3, 1) := by decide +kernel
theorem dX5_danger_49 : decode cX5_danger 49 = .ok (.invokevirtual 237, 3) := by decide +kernel
theorem dX5_danger_52 : decode cX5_danger 52 = .ok (.istore 4, 2) := by decide +kernel
theorem dX5_danger_54 : decode cX5_danger 54 = .ok (.iload 4, 2) := by decide +kernel
theorem dX5_danger_56 : decode cX5_danger 56 = .ok (.iload_n 2, 1) := by decide +kernel
theorem dX5_danger_57 : decode cX5_danger 57 = .ok (.if_icmp .le 11, 3) := by decide +kernel
theorem dX5_danger_60 : decode cX5_danger 60 = .ok (.iload 4, 2) := by decide +kernel
theorem dX5_danger_62 : decode cX5_danger 62 = .ok (.istore_n 2, 1) := by decide +kernel
theorem dX5_danger_63 : decode cX5_danger 63 = .ok (.iload_n 3, 1) := by decide +kernel
theorem dX5_danger_64 : decode cX5_danger 64 = .ok (.invokestatic 228, 3) := by decide +kernel
theorem dX5_danger_67 : decode cX5_danger 67 = .ok (.istore_n 1, 1) := by decide +kernel
theorem dX5_danger_68 : decode cX5_danger 68 = .ok (.iinc 3 1, 3) := by decide +kernel
theorem dX5_danger_71 : decode cX5_danger 71 = .ok (.goto (-53), 3) := by decide +kernel
theorem dX5_danger_74 : decode cX5_danger 74 = .ok (.iload_n 1, 1) := by decide +kernel
theorem dX5_danger_75 : decode cX5_danger 75 = .ok (.ireturn, 1) := by decide +kernel
theorem dX5_rightOf_0 : decode cX5_rightOf 0 = .ok (.bipush 28, 2) := by decide +kernel
theorem dX5_rightOf_2 : decode cX5_rightOf 2 = .ok (.iload_n 0, 1) := by decide +kernel
theorem dX5_rightOf_3 : decode cX5_rightOf 3 = .ok (.imul, 1) := by decide +kernel
theorem dX5_rightOf_4 : decode cX5_rightOf 4 = .ok (.bipush 7, 2) := by decide +kernel
theorem dX5_rightOf_6 : decode cX5_rightOf 6 = .ok (.iload_n 1, 1) := by decide +kernel
theorem dX5_rightOf_7 : decode cX5_rightOf 7 = .ok (.imul, 1) := by decide +kernel
theorem dX5_rightOf_8 : decode cX5_rightOf 8 = .ok (.iadd, 1) := by decide +kernel
theorem dX5_rightOf_9 : decode cX5_rightOf 9 = .ok (.iload_n 2, 1) := by decide +kernel
theorem dX5_rightOf_10 : decode cX5_rightOf 10 = .ok (.iadd, 1) := by decide +kernel
theorem dX5_rightOf_11 : decode cX5_rightOf 11 = .ok (.ireturn, 1) := by decide +kernel
theorem dX5_ownerOf_0 : decode cX5_ownerOf 0 = .ok (.iload_n 0, 1) := by decide +kernel
theorem dX5_ownerOf_1 : decode cX5_ownerOf 1 = .ok (.bipush 28, 2) := by decide +kernel
theorem dX5_ownerOf_3 : decode cX5_ownerOf 3 = .ok (.idiv, 1) := by decide +kernel
theorem dX5_ownerOf_4 : decode cX5_ownerOf 4 = .ok (.ireturn, 1) := by decide +kernel
theorem dX5_kindOf_0 : decode cX5_kindOf 0 = .ok (.iload_n 0, 1) := by decide +kernel
theorem dX5_kindOf_1 : decode cX5_kindOf 1 = .ok (.bipush 7, 2) := by decide +kernel
theorem dX5_kindOf_3 : decode cX5_kindOf 3 = .ok (.idiv, 1) := by decide +kernel
theorem dX5_kindOf_4 : decode cX5_kindOf 4 = .ok (.iconst 4, 1) := by decide +kernel
theorem dX5_kindOf_5 : decode cX5_kindOf 5 = .ok (.irem, 1) := by decide +kernel
theorem dX5_kindOf_6 : decode cX5_kindOf 6 = .ok (.ireturn, 1) := by decide +kernel
theorem dX5_objectOf_0 : decode cX5_objectOf 0 = .ok (.iload_n 0, 1) := by decide +kernel
theorem dX5_objectOf_1 : decode cX5_objectOf 1 = .ok (.bipush 7, 2) := by decide +kernel
theorem dX5_objectOf_3 : decode cX5_objectOf 3 = .ok (.irem, 1) := by decide +kernel
theorem dX5_objectOf_4 : decode cX5_objectOf 4 = .ok (.ireturn, 1) := by decide +kernel
theorem dX5_numberOf_0 : decode cX5_numberOf 0 = .ok (.bipush 100, 2) := by decide +kernel
theorem dX5_numberOf_2 : decode cX5_numberOf 2 = .ok (.iload_n 0, 1) := by decide +kernel
theorem dX5_numberOf_3 : decode cX5_numberOf 3 = .ok (.invokestatic 265, 3) := by decide +kernel
theorem dX5_numberOf_6 : decode cX5_numberOf 6 = .ok (.imul, 1) := by decide +kernel
theorem dX5_numberOf_7 : decode cX5_numberOf 7 = .ok (.bipush 10, 2) := by decide +kernel
theorem dX5_numberOf_9 : decode cX5_numberOf 9 = .ok (.iload_n 0, 1) := by decide +kernel
theorem dX5_numberOf_10 : decode cX5_numberOf 10 = .ok (.invokestatic 268, 3) := by decide +kernel
theorem dX5_numberOf_13 : decode cX5_numberOf 13 = .ok (.imul, 1) := by decide +kernel
theorem dX5_numberOf_14 : decode cX5_numberOf 14 = .ok (.iadd, 1) := by decide +kernel
theorem dX5_numberOf_15 : decode cX5_numberOf 15 = .ok (.iload_n 0, 1) := by decide +kernel
theorem dX5_numberOf_16 : decode cX5_numberOf 16 = .ok (.invokestatic 271, 3) := by decide +kernel
theorem dX5_numberOf_19 : decode cX5_numberOf 19 = .ok (.iadd, 1) := by decide +kernel
theorem dX5_numberOf_20 : decode cX5_numberOf 20 = .ok (.ireturn, 1) := by decide +kernel
theorem dX5_checkThing_0 : decode cX5_checkThing 0 = .ok (.aload_n 0, 1) := by decide +kernel
theorem dX5_checkThing_1 : decode cX5_checkThing 1 = .ok (.getfield 19, 3) := by decide +kernel
theorem dX5_checkThing_4 : decode cX5_checkThing 4 = .ok (.iload_n 1, 1) := by decide +kernel
theorem dX5_checkThing_5 : decode cX5_checkThing 5 = .ok (.invokevirtual 274, 3) := by decide +kernel
theorem dX5_checkThing_8 : decode cX5_checkThing 8 = .ok (.ifCond .ne 14, 3) := by decide +kernel
theorem dX5_checkThing_11 : decode cX5_checkThing 11 = .ok (.new 277, 3) := by decide +kernel
theorem dX5_checkThing_14 : decode cX5_checkThing 14 = .ok (.dup, 1) := by decide +kernel
theorem dX5_checkThing_15 : decode cX5_checkThing 15 = .ok (.ldc_w 279, 3) := by decide +kernel
theorem dX5_checkThing_18 : decode cX5_checkThing 18 = .ok (.invokespecial 281, 3) := by decide +kernel
theorem dX5_checkThing_21 : decode cX5_checkThing 21 = .ok (.athrow, 1) := by decide +kernel
theorem dX5_checkThing_22 : decode cX5_checkThing 22 = .ok (.return_, 1) := by decide +kernel
theorem dX5_checkRight_0 : decode cX5_checkRight 0 = .ok (.aload_n 0, 1) := by decide +kernel
theorem dX5_checkRight_1 : decode cX5_checkRight 1 = .ok (.iload_n 1, 1) := by decide +kernel
theorem dX5_checkRight_2 : decode cX5_checkRight 2 = .ok (.invokevirtual 129, 3) := by decide +kernel
theorem dX5_checkRight_5 : decode cX5_checkRight 5 = .ok (.aload_n 0, 1) := by decide +kernel
theorem dX5_checkRight_6 : decode cX5_checkRight 6 = .ok (.iload_n 3, 1) := by decide +kernel
theorem dX5_checkRight_7 : decode cX5_checkRight 7 = .ok (.invokevirtual 129, 3) := by decide +kernel
theorem dX5_checkRight_10 : decode cX5_checkRight 10 = .ok (.aload_n 0, 1) := by decide +kernel
theorem dX5_checkRight_11 : decode cX5_checkRight 11 = .ok (.getfield 19, 3) := by decide +kernel
theorem dX5_checkRight_14 : decode cX5_checkRight 14 = .ok (.iload_n 1, 1) := by decide +kernel
theorem dX5_checkRight_15 : decode cX5_checkRight 15 = .ok (.iload_n 2, 1) := by decide +kernel
theorem dX5_checkRight_16 : decode cX5_checkRight 16 = .ok (.iload_n 3, 1) := by decide +kernel
theorem dX5_checkRight_17 : decode cX5_checkRight 17 = .ok (.invokevirtual 282, 3) := by decide +kernel
theorem dX5_checkRight_20 : decode cX5_checkRight 20 = .ok (.ifCond .ne 14, 3) := by decide +kernel
theorem dX5_checkRight_23 : decode cX5_checkRight 23 = .ok (.new 61, 3) := by decide +kernel
theorem dX5_checkRight_26 : decode cX5_checkRight 26 = .ok (.dup, 1) := by decide +kernel
theorem dX5_checkRight_27 : decode cX5_checkRight 27 = .ok (.ldc_w 286, 3) := by decide +kernel
theorem dX5_checkRight_30 : decode cX5_checkRight 30 = .ok (.invokespecial 65, 3) := by decide +kernel
theorem dX5_checkRight_33 : decode cX5_checkRight 33 = .ok (.athrow, 1) := by decide +kernel
theorem dX5_checkRight_34 : decode cX5_checkRight 34 = .ok (.return_, 1) := by decide +kernel
theorem dX5_remember_0 : decode cX5_remember 0 = .ok (.aload_n 0, 1) := by decide +kernel
theorem dX5_remember_1 : decode cX5_remember 1 = .ok (.getfield 91, 3) := by decide +kernel
theorem dX5_remember_4 : decode cX5_remember 4 = .ok (.bipush 14, 2) := by decide +kernel
theorem dX5_remember_6 : decode cX5_remember 6 = .ok (.if_icmp .lt 7, 3) := by decide +kernel
theorem dX5_remember_9 : decode cX5_remember 9 = .ok (.aload_n 0, 1) := by decide +kernel
theorem dX5_remember_10 : decode cX5_remember 10 = .ok (.invokevirtual 296, 3) := by decide +kernel
theorem dX5_remember_13 : decode cX5_remember 13 = .ok (.aload_n 0, 1) := by decide +kernel
theorem dX5_remember_14 : decode cX5_remember 14 = .ok (.getfield 23, 3) := by decide +kernel
theorem dX5_remember_17 : decode cX5_remember 17 = .ok (.aload_n 0, 1) := by decide +kernel
theorem dX5_remember_18 : decode cX5_remember 18 = .ok (.getfield 91, 3) := by decide +kernel
theorem dX5_remember_21 : decode cX5_remember 21 = .ok (.aaload, 1) := by decide +kernel
theorem dX5_remember_22 : decode cX5_remember 22 = .ok (.aload_n 0, 1) := by decide +kernel
theorem dX5_remember_23 : decode cX5_remember 23 = .ok (.getfield 19, 3) := by decide +kernel
theorem dX5_remember_26 : decode cX5_remember 26 = .ok (.invokevirtual 87, 3) := by decide +kernel
theorem dX5_remember_29 : decode cX5_remember 29 = .ok (.aload_n 0, 1) := by decide +kernel
theorem dX5_remember_30 : decode cX5_remember 30 = .ok (.dup, 1) := by decide +kernel
theorem dX5_remember_31 : decode cX5_remember 31 = .ok (.getfield 91, 3) := by decide +kernel
theorem dX5_remember_34 : decode cX5_remember 34 = .ok (.iconst 1, 1) := by decide +kernel
theorem dX5_remember_35 : decode cX5_remember 35 = .ok (.iadd, 1) := by decide +kernel
theorem dX5_remember_36 : decode cX5_remember 36 = .ok (.putfield 91, 3) := by decide +kernel
theorem dX5_remember_39 : decode cX5_remember 39 = .ok (.return_, 1) := by decide +kernel
theorem dX5_forgetOldest_0 : decode cX5_forgetOldest 0 = .ok (.aload_n 0, 1) := by decide +kernel
theorem dX5_forgetOldest_1 : decode cX5_forgetOldest 1 = .ok (.getfield 23, 3) := by decide +kernel
theorem dX5_forgetOldest_4 : decode cX5_forgetOldest 4 = .ok (.iconst 0, 1) := by decide +kernel
theorem dX5_forgetOldest_5 : decode cX5_forgetOldest 5 = .ok (.aaload, 1) := by decide +kernel
theorem dX5_forgetOldest_6 : decode cX5_forgetOldest 6 = .ok (.astore_n 1, 1) := by decide +kernel
theorem dX5_forgetOldest_7 : decode cX5_forgetOldest 7 = .ok (.iconst 1, 1) := by decide +kernel
theorem dX5_forgetOldest_8 : decode cX5_forgetOldest 8 = .ok (.istore_n 2, 1) := by decide +kernel
theorem dX5_forgetOldest_9 : decode cX5_forgetOldest 9 = .ok (.iload_n 2, 1) := by decide +kernel
theorem dX5_forgetOldest_10 : decode cX5_forgetOldest 10 = .ok (.bipush 14, 2) := by decide +kernel
theorem dX5_forgetOldest_12 : decode cX5_forgetOldest 12 = .ok (.if_icmp .ge 23, 3) := by decide +kernel
theorem dX5_forgetOldest_15 : decode cX5_forgetOldest 15 = .ok (.aload_n 0, 1) := by decide +kernel
theorem dX5_forgetOldest_16 : decode cX5_forgetOldest 16 = .ok (.getfield 23, 3) := by decide +kernel
theorem dX5_forgetOldest_19 : decode cX5_forgetOldest 19 = .ok (.iload_n 2, 1) := by decide +kernel
theorem dX5_forgetOldest_20 : decode cX5_forgetOldest 20 = .ok (.iconst 1, 1) := by decide +kernel
theorem dX5_forgetOldest_21 : decode cX5_forgetOldest 21 = .ok (.isub, 1) := by decide +kernel
theorem dX5_forgetOldest_22 : decode cX5_forgetOldest 22 = .ok (.aload_n 0, 1) := by decide +kernel
theorem dX5_forgetOldest_23 : decode cX5_forgetOldest 23 = .ok (.getfield 23, 3) := by decide +kernel
theorem dX5_forgetOldest_26 : decode cX5_forgetOldest 26 = .ok (.iload_n 2, 1) := by decide +kernel
theorem dX5_forgetOldest_27 : decode cX5_forgetOldest 27 = .ok (.aaload, 1) := by decide +kernel
theorem dX5_forgetOldest_28 : decode cX5_forgetOldest 28 = .ok (.aastore, 1) := by decide +kernel
theorem dX5_forgetOldest_29 : decode cX5_forgetOldest 29 = .ok (.iinc 2 1, 3) := by decide +kernel
theorem dX5_forgetOldest_32 : decode cX5_forgetOldest 32 = .ok (.goto (-23), 3) := by decide +kernel
theorem dX5_forgetOldest_35 : decode cX5_forgetOldest 35 = .ok (.aload_n 0, 1) := by decide +kernel
theorem dX5_forgetOldest_36 : decode cX5_forgetOldest 36 = .ok (.getfield 23, 3) := by decide +kernel
theorem dX5_forgetOldest_39 : decode cX5_forgetOldest 39 = .ok (.bipush 13, 2) := by decide +kernel
theorem dX5_forgetOldest_41 : decode cX5_forgetOldest 41 = .ok (.aload_n 1, 1) := by decide +kernel
theorem dX5_forgetOldest_42 : decode cX5_forgetOldest 42 = .ok (.aastore, 1) := by decide +kernel
theorem dX5_forgetOldest_43 : decode cX5_forgetOldest 43 = .ok (.aload_n 0, 1) := by decide +kernel
theorem dX5_forgetOldest_44 : decode cX5_forgetOldest 44 = .ok (.dup, 1) := by decide +kernel
theorem dX5_forgetOldest_45 : decode cX5_forgetOldest 45 = .ok (.getfield 91, 3) := by decide +kernel
theorem dX5_forgetOldest_48 : decode cX5_forgetOldest 48 = .ok (.iconst 1, 1) := by decide +kernel
theorem dX5_forgetOldest_49 : decode cX5_forgetOldest 49 = .ok (.isub, 1) := by decide +kernel
theorem dX5_forgetOldest_50 : decode cX5_forgetOldest 50 = .ok (.putfield 91, 3) := by decide +kernel
theorem dX5_forgetOldest_53 : decode cX5_forgetOldest 53 = .ok (.return_, 1) := by decide +kernel
theorem dX5_endOf_0 : decode cX5_endOf 0 = .ok (.aload_n 0, 1) := by decide +kernel
theorem dX5_endOf_1 : decode cX5_endOf 1 = .ok (.getfield 37, 3) := by decide +kernel
theorem dX5_endOf_4 : decode cX5_endOf 4 = .ok (.aload_n 1, 1) := by decide +kernel
theorem dX5_endOf_5 : decode cX5_endOf 5 = .ok (.invokevirtual 87, 3) := by decide +kernel
theorem dX5_endOf_8 : decode cX5_endOf 8 = .ok (.aload_n 0, 1) := by decide +kernel
theorem dX5_endOf_9 : decode cX5_endOf 9 = .ok (.getfield 37, 3) := by decide +kernel
theorem dX5_endOf_12 : decode cX5_endOf 12 = .ok (.invokevirtual 231, 3) := by decide +kernel
theorem dX5_endOf_15 : decode cX5_endOf 15 = .ok (.aload_n 0, 1) := by decide +kernel
theorem dX5_endOf_16 : decode cX5_endOf 16 = .ok (.getfield 37, 3) := by decide +kernel
theorem dX5_endOf_19 : decode cX5_endOf 19 = .ok (.areturn, 1) := by decide +kernel
theorem dX5_comesWith_0 : decode cX5_comesWith 0 = .ok (.aload_n 0, 1) := by decide +kernel
theorem dX5_comesWith_1 : decode cX5_comesWith 1 = .ok (.getfield 37, 3) := by decide +kernel
theorem dX5_comesWith_4 : decode cX5_comesWith 4 = .ok (.aload_n 0, 1) := by decide +kernel
theorem dX5_comesWith_5 : decode cX5_comesWith 5 = .ok (.getfield 19, 3) := by decide +kernel
theorem dX5_comesWith_8 : decode cX5_comesWith 8 = .ok (.invokevirtual 87, 3) := by decide +kernel
theorem dX5_comesWith_11 : decode cX5_comesWith 11 = .ok (.aload_n 0, 1) := by decide +kernel
theorem dX5_comesWith_12 : decode cX5_comesWith 12 = .ok (.getfield 37, 3) := by decide +kernel
theorem dX5_comesWith_15 : decode cX5_comesWith 15 = .ok (.iload_n 1, 1) := by decide +kernel
theorem dX5_comesWith_16 : decode cX5_comesWith 16 = .ok (.putfield 106, 3) := by decide +kernel
theorem dX5_comesWith_19 : decode cX5_comesWith 19 = .ok (.aload_n 0, 1) := by decide +kernel
theorem dX5_comesWith_20 : decode cX5_comesWith 20 = .ok (.getfield 37, 3) := by decide +kernel
theorem dX5_comesWith_23 : decode cX5_comesWith 23 = .ok (.iload_n 2, 1) := by decide +kernel
theorem dX5_comesWith_24 : decode cX5_comesWith 24 = .ok (.invokevirtual 305, 3) := by decide +kernel
theorem dX5_comesWith_27 : decode cX5_comesWith 27 = .ok (.ireturn, 1) := by decide +kernel
theorem dX5_countAtEndWith_0 : decode cX5_countAtEndWith 0 = .ok (.aload_n 0, 1) := by decide +kernel
theorem dX5_countAtEndWith_1 : decode cX5_countAtEndWith 1 = .ok (.getfield 43, 3) := by decide +kernel
theorem dX5_countAtEndWith_4 : decode cX5_countAtEndWith 4 = .ok (.iload_n 1, 1) := by decide +kernel
theorem dX5_countAtEndWith_5 : decode cX5_countAtEndWith 5 = .ok (.invokevirtual 161, 3) := by decide +kernel
theorem dX5_countAtEndWith_8 : decode cX5_countAtEndWith 8 = .ok (.ifCond .eq 14, 3) := by decide +kernel
theorem dX5_countAtEndWith_11 : decode cX5_countAtEndWith 11 = .ok (.aload_n 0, 1) := by decide +kernel
theorem dX5_countAtEndWith_12 : decode cX5_countAtEndWith 12 = .ok (.getfield 43, 3) := by decide +kernel
theorem dX5_countAtEndWith_15 : decode cX5_countAtEndWith 15 = .ok (.getfield 308, 3) := by decide +kernel
theorem dX5_countAtEndWith_18 : decode cX5_countAtEndWith 18 = .ok (.invokevirtual 109, 3) := by decide +kernel
theorem dX5_countAtEndWith_21 : decode cX5_countAtEndWith 21 = .ok (.ireturn, 1) := by decide +kernel
theorem dX5_countAtEndWith_22 : decode cX5_countAtEndWith 22 = .ok (.aload_n 0, 1) := by decide +kernel
theorem dX5_countAtEndWith_23 : decode cX5_countAtEndWith 23 = .ok (.getfield 37, 3) := by decide +kernel
theorem dX5_countAtEndWith_26 : decode cX5_countAtEndWith 26 = .ok (.aload_n 0, 1) := by decide +kernel
theorem dX5_countAtEndWith_27 : decode cX5_countAtEndWith 27 = .ok (.getfield 43, 3) := by decide +kernel
theorem dX5_countAtEndWith_30 : decode cX5_countAtEndWith 30 = .ok (.getfield 308, 3) := by decide +kernel
theorem dX5_countAtEndWith_33 : decode cX5_countAtEndWith 33 = .ok (.invokevirtual 87, 3) := by decide +kernel
theorem dX5_countAtEndWith_36 : decode cX5_countAtEndWith 36 = .ok (.aload_n 0, 1) := by decide +kernel
theorem dX5_countAtEndWith_37 : decode cX5_countAtEndWith 37 = .ok (.getfield 37, 3) := by decide +kernel
theorem dX5_countAtEndWith_40 : decode cX5_countAtEndWith 40 = .ok (.iload_n 1, 1) := by decide +kernel
theorem dX5_countAtEndWith_41 : decode cX5_countAtEndWith 41 = .ok (.iconst 1, 1) := by decide +kernel
theorem dX5_countAtEndWith_42 : decode cX5_countAtEndWith 42 = .ok (.invokevirtual 196, 3) := by decide +kernel
theorem dX5_countAtEndWith_45 : decode cX5_countAtEndWith 45 = .ok (.aload_n 0, 1) := by decide +kernel
theorem dX5_countAtEndWith_46 : decode cX5_countAtEndWith 46 = .ok (.getfield 37, 3) := by decide +kernel
theorem dX5_countAtEndWith_49 : decode cX5_countAtEndWith 49 = .ok (.invokevirtual 231, 3) := by decide +kernel
theorem dX5_countAtEndWith_52 : decode cX5_countAtEndWith 52 = .ok (.aload_n 0, 1) := by decide +kernel
theorem dX5_countAtEndWith_53 : decode cX5_countAtEndWith 53 = .ok (.getfield 37, 3) := by decide +kernel
theorem dX5_countAtEndWith_56 : decode cX5_countAtEndWith 56 = .ok (.invokevirtual 109, 3) := by decide +kernel
theorem dX5_countAtEndWith_59 : decode cX5_countAtEndWith 59 = .ok (.ireturn, 1) := by decide +kernel
