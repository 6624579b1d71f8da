theorem dX6_init_0 : decode cX6_init 0 = .ok (.aload_n 0, 1) := by decide +kernel
theorem dX6_init_1 : decode cX6_init 1 = .ok (.invokespecial 1, 3) := by decide +kernel
theorem dX6_init_4 : decode cX6_init 4 = .ok (.aload_n 0, 1) := by decide +kernel
theorem dX6_init_5 : decode cX6_init 5 = .ok (.bipush 57, 2) := by decide +kernel
theorem dX6_init_7 : decode cX6_init 7 = .ok (.newarray .int, 2) := by decide +kernel
theorem dX6_init_9 : decode cX6_init 9 = .ok (.putfield 7, 3) := by decide +kernel
theorem dX6_init_12 : decode cX6_init 12 = .ok (.aload_n 0, 1) := by decide +kernel
theorem dX6_init_13 : decode cX6_init 13 = .ok (.sipush 798, 3) := by decide +kernel
theorem dX6_init_16 : decode cX6_init 16 = .ok (.newarray .int, 2) := by decide +kernel
theorem dX6_init_18 : decode cX6_init 18 = .ok (.putfield 13, 3) := by decide +kernel
theorem dX6_init_21 : decode cX6_init 21 = .ok (.aload_n 0, 1) := by decide +kernel
theorem dX6_init_22 : decode cX6_init 22 = .ok (.bipush 114, 2) := by decide +kernel
theorem dX6_init_24 : decode cX6_init 24 = .ok (.newarray .int, 2) := by decide +kernel
theorem dX6_init_26 : decode cX6_init 26 = .ok (.putfield 16, 3) := by decide +kernel
theorem dX6_init_29 : decode cX6_init 29 = .ok (.aload_n 0, 1) := by decide +kernel
theorem dX6_init_30 : decode cX6_init 30 = .ok (.iconst 2, 1) := by decide +kernel
theorem dX6_init_31 : decode cX6_init 31 = .ok (.newarray .boolean, 2) := by decide +kernel
theorem dX6_init_33 : decode cX6_init 33 = .ok (.putfield 19, 3) := by decide +kernel
theorem dX6_init_36 : decode cX6_init 36 = .ok (.aload_n 0, 1) := by decide +kernel
theorem dX6_init_37 : decode cX6_init 37 = .ok (.bipush 57, 2) := by decide +kernel
theorem dX6_init_39 : decode cX6_init 39 = .ok (.newarray .int, 2) := by decide +kernel
theorem dX6_init_41 : decode cX6_init 41 = .ok (.putfield 23, 3) := by decide +kernel
theorem dX6_init_44 : decode cX6_init 44 = .ok (.aload_n 0, 1) := by decide +kernel
theorem dX6_init_45 : decode cX6_init 45 = .ok (.bipush 110, 2) := by decide +kernel
theorem dX6_init_47 : decode cX6_init 47 = .ok (.newarray .int, 2) := by decide +kernel
theorem dX6_init_49 : decode cX6_init 49 = .ok (.putfield 26, 3) := by decide +kernel
theorem dX6_init_52 : decode cX6_init 52 = .ok (.aload_n 0, 1) := by decide +kernel
theorem dX6_init_53 : decode cX6_init 53 = .ok (.bipush 49, 2) := by decide +kernel
theorem dX6_init_55 : decode cX6_init 55 = .ok (.newarray .int, 2) := by decide +kernel
theorem dX6_init_57 : decode cX6_init 57 = .ok (.putfield 29, 3) := by decide +kernel
theorem dX6_init_60 : decode cX6_init 60 = .ok (.aload_n 0, 1) := by decide +kernel
theorem dX6_init_61 : decode cX6_init 61 = .ok (.bipush 49, 2) := by decide +kernel
theorem dX6_init_63 : decode cX6_init 63 = .ok (.newarray .int, 2) := by decide +kernel
theorem dX6_init_65 : decode cX6_init 65 = .ok (.putfield 32, 3) := by decide +kernel
theorem dX6_init_68 : decode cX6_init 68 = .ok (.aload_n 0, 1) := by decide +kernel
theorem dX6_init_69 : decode cX6_init 69 = .ok (.sipush 196, 3) := by decide +kernel
theorem dX6_init_72 : decode cX6_init 72 = .ok (.newarray .int, 2) := by decide +kernel
theorem dX6_init_74 : decode cX6_init 74 = .ok (.putfield 35, 3) := by decide +kernel
theorem dX6_init_77 : decode cX6_init 77 = .ok (.aload_n 0, 1) := by decide +kernel
theorem dX6_init_78 : decode cX6_init 78 = .ok (.sipush 196, 3) := by decide +kernel
theorem dX6_init_81 : decode cX6_init 81 = .ok (.newarray .int, 2) := by decide +kernel
theorem dX6_init_83 : decode cX6_init 83 = .ok (.putfield 38, 3) := by decide +kernel
theorem dX6_init_86 : decode cX6_init 86 = .ok (.aload_n 0, 1) := by decide +kernel
theorem dX6_init_87 : decode cX6_init 87 = .ok (.bipush 7, 2) := by decide +kernel
theorem dX6_init_89 : decode cX6_init 89 = .ok (.newarray .int, 2) := by decide +kernel
theorem dX6_init_91 : decode cX6_init 91 = .ok (.putfield 41, 3) := by decide +kernel
theorem dX6_init_94 : decode cX6_init 94 = .ok (.aload_n 0, 1) := by decide +kernel
theorem dX6_init_95 : decode cX6_init 95 = .ok (.bipush 57, 2) := by decide +kernel
theorem dX6_init_97 : decode cX6_init 97 = .ok (.newarray .int, 2) := by decide +kernel
theorem dX6_init_99 : decode cX6_init 99 = .ok (.putfield 44, 3) := by decide +kernel
theorem dX6_init_102 : decode cX6_init 102 = .ok (.aload_n 0, 1) := by decide +kernel
theorem dX6_init_103 : decode cX6_init 103 = .ok (.sipush 196, 3) := by decide +kernel
theorem dX6_init_106 : decode cX6_init 106 = .ok (.newarray .boolean, 2) := by decide +kernel
theorem dX6_init_108 : decode cX6_init 108 = .ok (.putfield 47, 3) := by decide +kernel
theorem dX6_init_111 : decode cX6_init 111 = .ok (.aload_n 0, 1) := by decide +kernel
theorem dX6_init_112 : decode cX6_init 112 = .ok (.bipush 30, 2) := by decide +kernel
theorem dX6_init_114 : decode cX6_init 114 = .ok (.newarray .int, 2) := by decide +kernel
theorem dX6_init_116 : decode cX6_init 116 = .ok (.putfield 50, 3) := by decide +kernel
theorem dX6_init_119 : decode cX6_init 119 = .ok (.return_, 1) := by decide +kernel
theorem dX6_thrown_0 : decode cX6_thrown 0 = .ok (.aload_n 0, 1) := by decide +kernel
theorem dX6_thrown_1 : decode cX6_thrown 1 = .ok (.getfield 53, 3) := by decide +kernel
theorem dX6_thrown_4 : decode cX6_thrown 4 = .ok (.ireturn, 1) := by decide +kernel
theorem dX6_in_0 : decode cX6_in 0 = .ok (.iload_n 0, 1) := by decide +kernel
theorem dX6_in_1 : decode cX6_in 1 = .ok (.iload_n 1, 1) := by decide +kernel
theorem dX6_in_2 : decode cX6_in 2 = .ok (.if_icmp .lt 12, 3) := by decide +kernel
theorem dX6_in_5 : decode cX6_in 5 = .ok (.iload_n 0, 1) := by decide +kernel
theorem dX6_in_6 : decode cX6_in 6 = .ok (.iload_n 2, 1) := by decide +kernel
theorem dX6_in_7 : decode cX6_in 7 = .ok (.if_icmp .gt 7, 3) := by decide +kernel
theorem dX6_in_10 : decode cX6_in 10 = .ok (.iconst 1, 1) := by decide +kernel
theorem dX6_in_11 : decode cX6_in 11 = .ok (.goto 4, 3) := by decide +kernel
theorem dX6_in_14 : decode cX6_in 14 = .ok (.iconst 0, 1) := by decide +kernel
theorem dX6_in_15 : decode cX6_in 15 = .ok (.ireturn, 1) := by decide +kernel
theorem dX6_remember_0 : decode cX6_remember 0 = .ok (.aload_n 0, 1) := by decide +kernel
theorem dX6_remember_1 : decode cX6_remember 1 = .ok (.getfield 57, 3) := by decide +kernel
theorem dX6_remember_4 : decode cX6_remember 4 = .ok (.bipush 14, 2) := by decide +kernel
theorem dX6_remember_6 : decode cX6_remember 6 = .ok (.if_icmp .ne 43, 3) := by decide +kernel
theorem dX6_remember_9 : decode cX6_remember 9 = .ok (.iconst 0, 1) := by decide +kernel
theorem dX6_remember_10 : decode cX6_remember 10 = .ok (.istore_n 1, 1) := by decide +kernel
theorem dX6_remember_11 : decode cX6_remember 11 = .ok (.iload_n 1, 1) := by decide +kernel
theorem dX6_remember_12 : decode cX6_remember 12 = .ok (.sipush 741, 3) := by decide +kernel
theorem dX6_remember_15 : decode cX6_remember 15 = .ok (.if_icmp .ge 24, 3) := by decide +kernel
theorem dX6_remember_18 : decode cX6_remember 18 = .ok (.aload_n 0, 1) := by decide +kernel
theorem dX6_remember_19 : decode cX6_remember 19 = .ok (.getfield 13, 3) := by decide +kernel
theorem dX6_remember_22 : decode cX6_remember 22 = .ok (.iload_n 1, 1) := by decide +kernel
theorem dX6_remember_23 : decode cX6_remember 23 = .ok (.aload_n 0, 1) := by decide +kernel
theorem dX6_remember_24 : decode cX6_remember 24 = .ok (.getfield 13, 3) := by decide +kernel
theorem dX6_remember_27 : decode cX6_remember 27 = .ok (.iload_n 1, 1) := by decide +kernel
theorem dX6_remember_28 : decode cX6_remember 28 = .ok (.bipush 57, 2) := by decide +kernel
theorem dX6_remember_30 : decode cX6_remember 30 = .ok (.iadd, 1) := by decide +kernel
theorem dX6_remember_31 : decode cX6_remember 31 = .ok (.iaload, 1) := by decide +kernel
theorem dX6_remember_32 : decode cX6_remember 32 = .ok (.iastore, 1) := by decide +kernel
theorem dX6_remember_33 : decode cX6_remember 33 = .ok (.iinc 1 1, 3) := by decide +kernel
theorem dX6_remember_36 : decode cX6_remember 36 = .ok (.goto (-25), 3) := by decide +kernel
theorem dX6_remember_39 : decode cX6_remember 39 = .ok (.aload_n 0, 1) := by decide +kernel
theorem dX6_remember_40 : decode cX6_remember 40 = .ok (.dup, 1) := by decide +kernel
theorem dX6_remember_41 : decode cX6_remember 41 = .ok (.getfield 57, 3) := by decide +kernel
theorem dX6_remember_44 : decode cX6_remember 44 = .ok (.iconst 1, 1) := by decide +kernel
theorem dX6_remember_45 : decode cX6_remember 45 = .ok (.isub, 1) := by decide +kernel
theorem dX6_remember_46 : decode cX6_remember 46 = .ok (.putfield 57, 3) := by decide +kernel
theorem dX6_remember_49 : decode cX6_remember 49 = .ok (.iconst 0, 1) := by decide +kernel
theorem dX6_remember_50 : decode cX6_remember 50 = .ok (.istore_n 1, 1) := by decide +kernel
theorem dX6_remember_51 : decode cX6_remember 51 = .ok (.iload_n 1, 1) := by decide +kernel
theorem dX6_remember_52 : decode cX6_remember 52 = .ok (.bipush 57, 2) := by decide +kernel
theorem dX6_remember_54 : decode cX6_remember 54 = .ok (.if_icmp .ge 29, 3) := by decide +kernel
theorem dX6_remember_57 : decode cX6_remember 57 = .ok (.aload_n 0, 1) := by decide +kernel
theorem dX6_remember_58 : decode cX6_remember 58 = .ok (.getfield 13, 3) := by decide +kernel
theorem dX6_remember_61 : decode cX6_remember 61 = .ok (.aload_n 0, 1) := by decide +kernel
theorem dX6_remember_62 : decode cX6_remember 62 = .ok (.getfield 57, 3) := by decide +kernel
theorem dX6_remember_65 : decode cX6_remember 65 = .ok (.bipush 57, 2) := by decide +kernel
theorem dX6_remember_67 : decode cX6_remember 67 = .ok (.imul, 1) := by decide +kernel
theorem dX6_remember_68 : decode cX6_remember 68 = .ok (.iload_n 1, 1) := by decide +kernel
theorem dX6_remember_69 : decode cX6_remember 69 = .ok (.iadd, 1) := by decide +kernel
theorem dX6_remember_70 : decode cX6_remember 70 = .ok (.aload_n 0, 1) := by decide +kernel
theorem dX6_remember_71 : decode cX6_remember 71 = .ok (.getfield 7, 3) := by decide +kernel
theorem dX6_remember_74 : decode cX6_remember 74 = .ok (.iload_n 1, 1) := by decide +kernel
theorem dX6_remember_75 : decode cX6_remember 75 = .ok (.iaload, 1) := by decide +kernel
theorem dX6_remember_76 : decode cX6_remember 76 = .ok (.iastore, 1) := by decide +kernel
theorem dX6_remember_77 : decode cX6_remember 77 = .ok (.iinc 1 1, 3) := by decide +kernel
theorem dX6_remember_80 : decode cX6_remember 80 = .ok (.goto (-29), 3) := by decide +kernel
theorem dX6_remember_83 : decode cX6_remember 83 = .ok (.aload_n 0, 1) := by decide +kernel
theorem dX6_remember_84 : decode cX6_remember 84 = .ok (.dup, 1) := by decide +kernel
theorem dX6_remember_85 : decode cX6_remember 85 = .ok (.getfield 57, 3) := by decide +kernel
theorem dX6_remember_88 : decode cX6_remember 88 = .ok (.iconst 1, 1) := by decide +kernel
theorem dX6_remember_89 : decode cX6_remember 89 = .ok (.iadd, 1) := by decide +kernel
theorem dX6_remember_90 : decode cX6_remember 90 = .ok (.putfield 57, 3) := by decide +kernel
theorem dX6_remember_93 : decode cX6_remember 93 = .ok (.return_, 1) := by decide +kernel
theorem dX6_undo_0 : decode cX6_undo 0 = .ok (.aload_n 0, 1) := by decide +kernel
theorem dX6_undo_1 : decode cX6_undo 1 = .ok (.aload_n 0, 1) := by decide +kernel
theorem dX6_undo_2 : decode cX6_undo 2 = .ok (.getfield 57, 3) := by decide +kernel
theorem dX6_undo_5 : decode cX6_undo 5 = .ok (.ifCond .ne 7, 3) := by decide +kernel
theorem dX6_undo_8 : decode cX6_undo 8 = .ok (.iconst 1, 1) := by decide +kernel
theorem dX6_undo_9 : decode cX6_undo 9 = .ok (.goto 4, 3) := by decide +kernel
theorem dX6_undo_12 : decode cX6_undo 12 = .ok (.iconst 0, 1) := by decide +kernel
theorem dX6_undo_13 : decode cX6_undo 13 = .ok (.putfield 53, 3) := by decide +kernel
theorem dX6_undo_16 : decode cX6_undo 16 = .ok (.aload_n 0, 1) := by decide +kernel
theorem dX6_undo_17 : decode cX6_undo 17 = .ok (.getfield 53, 3) := by decide +kernel
theorem dX6_undo_20 : decode cX6_undo 20 = .ok (.ifCond .le 5, 3) := by decide +kernel
theorem dX6_undo_23 : decode cX6_undo 23 = .ok (.iconst 0, 1) := by decide +kernel
theorem dX6_undo_24 : decode cX6_undo 24 = .ok (.ireturn, 1) := by decide +kernel
theorem dX6_undo_25 : decode cX6_undo 25 = .ok (.aload_n 0, 1) := by decide +kernel
theorem dX6_undo_26 : decode cX6_undo 26 = .ok (.dup, 1) := by decide +kernel
theorem dX6_undo_27 : decode cX6_undo 27 = .ok (.getfield 57, 3) := by decide +kernel
theorem dX6_undo_30 : decode cX6_undo 30 = .ok (.iconst 1, 1) := by decide +kernel
theorem dX6_undo_31 : decode cX6_undo 31 = .ok (.isub, 1) := by decide +kernel
theorem dX6_undo_32 : decode cX6_undo 32 = .ok (.putfield 57, 3) := by decide +kernel
theorem dX6_undo_35 : decode cX6_undo 35 = .ok (.iconst 0, 1) := by decide +kernel
theorem dX6_undo_36 : decode cX6_undo 36 = .ok (.istore_n 1, 1) := by decide +kernel
theorem dX6_undo_37 : decode cX6_undo 37 = .ok (.iload_n 1, 1) := by decide +kernel
theorem dX6_undo_38 : decode cX6_undo 38 = .ok (.bipush 57, 2) := by decide +kernel
theorem dX6_undo_40 : decode cX6_undo 40 = .ok (.if_icmp .ge 29, 3) := by decide +kernel
theorem dX6_undo_43 : decode cX6_undo 43 = .ok (.aload_n 0, 1) := by decide +kernel
theorem dX6_undo_44 : decode cX6_undo 44 = .ok (.getfield 7, 3) := by decide +kernel
theorem dX6_undo_47 : decode cX6_undo 47 = .ok (.iload_n 1, 1) := by decide +kernel
theorem dX6_undo_48 : decode cX6_undo 48 = .ok (.aload_n 0, 1) := by decide +kernel
theorem dX6_undo_49 : decode cX6_undo 49 = .ok (.getfield 13, 3) := by decide +kernel
theorem dX6_undo_52 : decode cX6_undo 52 = .ok (.aload_n 0, 1) := by decide +kernel
theorem dX6_undo_53 : decode cX6_undo 53 = .ok (.getfield 57, 3) := by decide +kernel
theorem dX6_undo_56 : decode cX6_undo 56 = .ok (.bipush 57, 2) := by decide +kernel
theorem dX6_undo_58 : decode cX6_undo 58 = .ok (.imul, 1) := by decide +kernel
theorem dX6_undo_59 : decode cX6_undo 59 = .ok (.iload_n 1, 1) := by decide +kernel
theorem dX6_undo_60 : decode cX6_undo 60 = .ok (.iadd, 1) := by decide +kernel
theorem dX6_undo_61 : decode cX6_undo 61 = .ok (.iaload, 1) := by decide +kernel
theorem dX6_undo_62 : decode cX6_undo 62 = .ok (.iastore, 1) := by decide +kernel
theorem dX6_undo_63 : decode cX6_undo 63 = .ok (.iinc 1 1, 3) := by decide +kernel
theorem dX6_undo_66 : decode cX6_undo 66 = .ok (.goto (-29), 3) := by decide +kernel
theorem dX6_undo_69 : decode cX6_undo 69 = .ok (.aload_n 0, 1) := by decide +kernel
theorem dX6_undo_70 : decode cX6_undo 70 = .ok (.getfield 57, 3) := by decide +kernel
theorem dX6_undo_73 : decode cX6_undo 73 = .ok (.ireturn, 1) := by decide +kernel
theorem dX6_save_0 : decode cX6_save 0 = .ok (.aload_n 0, 1) := by decide +kernel
theorem dX6_save_1 : decode cX6_save 1 = .ok (.iload_n 1, 1) := by decide +kernel
theorem dX6_save_2 : decode cX6_save 2 = .ok (.iconst 0, 1) := by decide +kernel
theorem dX6_save_3 : decode cX6_save 3 = .ok (.iconst 1, 1) := by decide +kernel
theorem dX6_save_4 : decode cX6_save 4 = .ok (.invokestatic 60, 3) := by decide +kernel
theorem dX6_save_7 : decode cX6_save 7 = .ok (.ifCond .eq 7, 3) := by decide +kernel
theorem dX6_save_10 : decode cX6_save 10 = .ok (.iconst 0, 1) := by decide +kernel
theorem dX6_save_11 : decode cX6_save 11 = .ok (.goto 4, 3) := by decide +kernel
theorem dX6_save_14 : decode cX6_save 14 = .ok (.iconst 1, 1) := by decide +kernel
theorem dX6_save_15 : decode cX6_save 15 = .ok (.putfield 53, 3) := by decide +kernel
theorem dX6_save_18 : decode cX6_save 18 = .ok (.aload_n 0, 1) := by decide +kernel
theorem dX6_save_19 : decode cX6_save 19 = .ok (.getfield 53, 3) := by decide +kernel
theorem dX6_save_22 : decode cX6_save 22 = .ok (.ifCond .le 5, 3) := by decide +kernel
theorem dX6_save_25 : decode cX6_save 25 = .ok (.iconst 0, 1) := by decide +kernel
theorem dX6_save_26 : decode cX6_save 26 = .ok (.ireturn, 1) := by decide +kernel
theorem dX6_save_27 : decode cX6_save 27 = .ok (.aload_n 0, 1) := by decide +kernel
theorem dX6_save_28 : decode cX6_save 28 = .ok (.getfield 19, 3) := by decide +kernel
theorem dX6_save_31 : decode cX6_save 31 = .ok (.iload_n 1, 1) := by decide +kernel
theorem dX6_save_32 : decode cX6_save 32 = .ok (.iconst 1, 1) := by decide +kernel
theorem dX6_save_33 : decode cX6_save 33 = .ok (.bastore, 1) := by decide +kernel
theorem dX6_save_34 : decode cX6_save 34 = .ok (.iconst 0, 1) := by decide +kernel
theorem dX6_save_35 : decode cX6_save 35 = .ok (.istore_n 2, 1) := by decide +kernel
theorem dX6_save_36 : decode cX6_save 36 = .ok (.iload_n 2, 1) := by decide +kernel
theorem dX6_save_37 : decode cX6_save 37 = .ok (.bipush 57, 2) := by decide +kernel
theorem dX6_save_39 : decode cX6_save 39 = .ok (.if_icmp .ge 26, 3) := by decide +kernel
theorem dX6_save_42 : decode cX6_save 42 = .ok (.aload_n 0, 1) := by decide +kernel
theorem dX6_save_43 : decode cX6_save 43 = .ok (.getfield 16, 3) := by decide +kernel
theorem dX6_save_46 : decode cX6_save 46 = .ok (.iload_n 1, 1) := by decide +kernel
theorem dX6_save_47 : decode cX6_save 47 = .ok (.bipush 57, 2) := by decide +kernel
theorem dX6_save_49 : decode cX6_save 49 = .ok (.imul, 1) := by decide +kernel
theorem dX6_save_50 : decode cX6_save 50 = .ok (.iload_n 2, 1) := by decide +kernel
theorem dX6_save_51 : decode cX6_save 51 = .ok (.iadd, 1) := by decide +kernel
theorem dX6_save_52 : decode cX6_save 52 = .ok (.aload_n 0, 1) := by decide +kernel
theorem dX6_save_53 : decode cX6_save 53 = .ok (.getfield 7, 3) := by decide +kernel
theorem dX6_save_56 : decode cX6_save 56 = .ok (.iload_n 2, 1) := by decide +kernel
theorem dX6_save_57 : decode cX6_save 57 = .ok (.iaload, 1) := by decide +kernel
theorem dX6_save_58 : decode cX6_save 58 = .ok (.iastore, 1) := by decide +kernel
theorem dX6_save_59 : decode cX6_save 59 = .ok (.iinc 2 1, 3) := by decide +kernel
theorem dX6_save_62 : decode cX6_save 62 = .ok (.goto (-26), 3) := by decide +kernel
theorem dX6_save_65 : decode cX6_save 65 = .ok (.aload_n 0, 1) := by decide +kernel
theorem dX6_save_66 : decode cX6_save 66 = .ok (.invokevirtual 64, 3) := by decide +kernel
theorem dX6_save_69 : decode cX6_save 69 = .ok (.ireturn, 1) := by decide +kernel
theorem dX6_restore_0 : decode cX6_restore 0 = .ok (.aload_n 0, 1) := by decide +kernel
theorem dX6_restore_1 : decode cX6_restore 1 = .ok (.iload_n 1, 1) := by decide +kernel
theorem dX6_restore_2 : decode cX6_restore 2 = .ok (.iconst 0, 1) := by decide +kernel
theorem dX6_restore_3 : decode cX6_restore 3 = .ok (.iconst 1, 1) := by decide +kernel
theorem dX6_restore_4 : decode cX6_restore 4 = .ok (.invokestatic 60, 3) := by decide +kernel
theorem dX6_restore_7 : decode cX6_restore 7 = .ok (.ifCond .ne 7, 3) := by decide +kernel
theorem dX6_restore_10 : decode cX6_restore 10 = .ok (.iconst 1, 1) := by decide +kernel
theorem dX6_restore_11 : decode cX6_restore 11 = .ok (.goto 17, 3) := by decide +kernel
theorem dX6_restore_14 : decode cX6_restore 14 = .ok (.aload_n 0, 1) := by decide +kernel
theorem dX6_restore_15 : decode cX6_restore 15 = .ok (.getfield 19, 3) := by decide +kernel
theorem dX6_restore_18 : decode cX6_restore 18 = .ok (.iload_n 1, 1) := by decide +kernel
theorem dX6_restore_19 : decode cX6_restore 19 = .ok (.baload, 1) := by decide +kernel
theorem dX6_restore_20 : decode cX6_restore 20 = .ok (.ifCond .eq 7, 3) := by decide +kernel
theorem dX6_restore_23 : decode cX6_restore 23 = .ok (.iconst 0, 1) := by decide +kernel
theorem dX6_restore_24 : decode cX6_restore 24 = .ok (.goto 4, 3) := by decide +kernel
theorem dX6_restore_27 : decode cX6_restore 27 = .ok (.iconst 2, 1) := by decide +kernel
theorem dX6_restore_28 : decode cX6_restore 28 = .ok (.putfield 53, 3) := by decide +kernel
theorem dX6_restore_31 : decode cX6_restore 31 = .ok (.aload_n 0, 1) := by decide +kernel
theorem dX6_restore_32 : decode cX6_restore 32 = .ok (.getfield 53, 3) := by decide +kernel
theorem dX6_restore_35 : decode cX6_restore 35 = .ok (.ifCond .le 5, 3) := by decide +kernel
theorem dX6_restore_38 : decode cX6_restore 38 = .ok (.iconst 0, 1) := by decide +kernel
theorem dX6_restore_39 : decode cX6_restore 39 = .ok (.ireturn, 1) := by decide +kernel
theorem dX6_restore_40 : decode cX6_restore 40 = .ok (.iconst 0, 1) := by decide +kernel
theorem dX6_restore_41 : decode cX6_restore 41 = .ok (.istore_n 2, 1) := by decide +kernel
theorem dX6_restore_42 : decode cX6_restore 42 = .ok (.iload_n 2, 1) := by decide +kernel
theorem dX6_restore_43 : decode cX6_restore 43 = .ok (.bipush 57, 2) := by decide +kernel
theorem dX6_restore_45 : decode cX6_restore 45 = .ok (.if_icmp .ge 26, 3) := by decide +kernel
theorem dX6_restore_48 : decode cX6_restore 48 = .ok (.aload_n 0, 1) := by decide +kernel
theorem dX6_restore_49 : decode cX6_restore 49 = .ok (.getfield 7, 3) := by decide +kernel
theorem dX6_restore_52 : decode cX6_restore 52 = .ok (.iload_n 2, 1) := by decide +kernel
theorem dX6_restore_53 : decode cX6_restore 53 = .ok (.aload_n 0, 1) := by decide +kernel
theorem dX6_restore_54 : decode cX6_restore 54 = .ok (.getfield 16, 3) := by decide +kernel
theorem dX6_restore_57 : decode cX6_restore 57 = .ok (.iload_n 1, 1) := by decide +kernel
theorem dX6_restore_58 : decode cX6_restore 58 = .ok (.bipush 57, 2) := by decide +kernel
theorem dX6_restore_60 : decode cX6_restore 60 = .ok (.imul, 1) := by decide +kernel
theorem dX6_restore_61 : decode cX6_restore 61 = .ok (.iload_n 2, 1) := by decide +kernel
theorem dX6_restore_62 : decode cX6_restore 62 = .ok (.iadd, 1) := by decide +kernel
theorem dX6_restore_63 : decode cX6_restore 63 = .ok (.iaload, 1) := by decide +kernel
theorem dX6_restore_64 : decode cX6_restore 64 = .ok (.iastore, 1) := by decide +kernel
theorem dX6_restore_65 : decode cX6_restore 65 = .ok (.iinc 2 1, 3) := by decide +kernel
theorem dX6_restore_68 : decode cX6_restore 68 = .ok (.goto (-26), 3) := by decide +kernel
theorem dX6_restore_71 : decode cX6_restore 71 = .ok (.aload_n 0, 1) := by decide +kernel
theorem dX6_restore_72 : decode cX6_restore 72 = .ok (.iconst 0, 1) := by decide +kernel
theorem dX6_restore_73 : decode cX6_restore 73 = .ok (.putfield 57, 3) := by decide +kernel
theorem dX6_restore_76 : decode cX6_restore 76 = .ok (.aload_n 0, 1) := by decide +kernel
theorem dX6_restore_77 : decode cX6_restore 77 = .ok (.invokevirtual 64, 3) := by decide +kernel
theorem dX6_restore_80 : decode cX6_restore 80 = .ok (.ireturn, 1) := by decide +kernel
theorem dX6_putAside_0 : decode cX6_putAside 0 = .ok (.iconst 0, 1) := by decide +kernel
theorem dX6_putAside_1 : decode cX6_putAside 1 = .ok (.istore_n 1, 1) := by decide +kernel
theorem dX6_putAside_2 : decode cX6_putAside 2 = .ok (.iload_n 1, 1) := by decide +kernel
theorem dX6_putAside_3 : decode cX6_putAside 3 = .ok (.bipush 57, 2) := by decide +kernel
theorem dX6_putAside_5 : decode cX6_putAside 5 = .ok (.if_icmp .ge 21, 3) := by decide +kernel
theorem dX6_putAside_8 : decode cX6_putAside 8 = .ok (.aload_n 0, 1) := by decide +kernel
theorem dX6_putAside_9 : decode cX6_putAside 9 = .ok (.getfield 23, 3) := by decide +kernel
theorem dX6_putAside_12 : decode cX6_putAside 12 = .ok (.iload_n 1, 1) := by decide +kernel
theorem dX6_putAside_13 : decode cX6_putAside 13 = .ok (.aload_n 0, 1) := by decide +kernel
theorem dX6_putAside_14 : decode cX6_putAside 14 = .ok (.getfield 7, 3) := by decide +kernel
theorem dX6_putAside_17 : decode cX6_putAside 17 = .ok (.iload_n 1, 1) := by decide +kernel
theorem dX6_putAside_18 : decode cX6_putAside 18 = .ok (.iaload, 1) := by decide +kernel
theorem dX6_putAside_19 : decode cX6_putAside 19 = .ok (.iastore, 1) := by decide +kernel
theorem dX6_putAside_20 : decode cX6_putAside 20 = .ok (.iinc 1 1, 3) := by decide +kernel
theorem dX6_putAside_23 : decode cX6_putAside 23 = .ok (.goto (-21), 3) := by decide +kernel
theorem dX6_putAside_26 : decode cX6_putAside 26 = .ok (.return_, 1) := by decide +kernel
theorem dX6_bringBack_0 : decode cX6_bringBack 0 = .ok (.iconst 0, 1) := by decide +kernel
theorem dX6_bringBack_1 : decode cX6_bringBack 1 = .ok (.istore_n 1, 1) := by decide +kernel
theorem dX6_bringBack_2 : decode cX6_bringBack 2 = .ok (.iload_n 1, 1) := by decide +kernel
theorem dX6_bringBack_3 : decode cX6_bringBack 3 = .ok (.bipush 57, 2) := by decide +kernel
theorem dX6_bringBack_5 : decode cX6_bringBack 5 = .ok (.if_icmp .ge 21, 3) := by decide +kernel
theorem dX6_bringBack_8 : decode cX6_bringBack 8 = .ok (.aload_n 0, 1) := by decide +kernel
theorem dX6_bringBack_9 : decode cX6_bringBack 9 = .ok (.getfield 7, 3) := by decide +kernel
theorem dX6_bringBack_12 : decode cX6_bringBack 12 = .ok (.iload_n 1, 1) := by decide +kernel
theorem dX6_bringBack_13 : decode cX6_bringBack 13 = .ok (.aload_n 0, 1) := by decide +kernel
theorem dX6_bringBack_14 : decode cX6_bringBack 14 = .ok (.getfield 23, 3) := by decide +kernel
theorem dX6_bringBack_17 : decode cX6_bringBack 17 = .ok (.iload_n 1, 1) := by decide +kernel
theorem dX6_bringBack_18 : decode cX6_bringBack 18 = .ok (.iaload, 1) := by decide +kernel
theorem dX6_bringBack_19 : decode cX6_bringBack 19 = .ok (.iastore, 1) := by decide +kernel
theorem dX6_bringBack_20 : decode cX6_bringBack 20 = .ok (.iinc 1 1, 3) := by decide +kernel
theorem dX6_bringBack_23 : decode cX6_bringBack 23 = .ok (.goto (-21), 3) := by decide +kernel
theorem dX6_bringBack_26 : decode cX6_bringBack 26 = .ok (.return_, 1) := by decide +kernel
theorem dX6_isThing_0 : decode cX6_isThing 0 = .ok (.iload_n 1, 1) := by decide +kernel
theorem dX6_isThing_1 : decode cX6_isThing 1 = .ok (.ifCond .lt 17, 3) := by decide +kernel
theorem dX6_isThing_4 : decode cX6_isThing 4 = .ok (.iload_n 1, 1) := by decide +kernel
theorem dX6_isThing_5 : decode cX6_isThing 5 = .ok (.aload_n 0, 1) := by decide +kernel
theorem dX6_isThing_6 : decode cX6_isThing 6 = .ok (.getfield 7, 3) := by decide +kernel
theorem dX6_isThing_9 : decode cX6_isThing 9 = .ok (.iconst 0, 1) := by decide +kernel
theorem dX6_isThing_10 : decode cX6_isThing 10 = .ok (.iaload, 1) := by decide +kernel
theorem dX6_isThing_11 : decode cX6_isThing 11 = .ok (.if_icmp .ge 7, 3) := by decide +kernel
theorem dX6_isThing_14 : decode cX6_isThing 14 = .ok (.iconst 1, 1) := by decide +kernel
theorem dX6_isThing_15 : decode cX6_isThing 15 = .ok (.goto 4, 3) := by decide +kernel
theorem dX6_isThing_18 : decode cX6_isThing 18 = .ok (.iconst 0, 1) := by decide +kernel
theorem dX6_isThing_19 : decode cX6_isThing 19 = .ok (.ireturn, 1) := by decide +kernel
theorem dX6_at_0 : decode cX6_at 0 = .ok (.bipush 7, 2) := by decide +kernel
theorem dX6_at_2 : decode cX6_at 2 = .ok (.iload_n 0, 1) := by decide +kernel
theorem dX6_at_3 : decode cX6_at 3 = .ok (.imul, 1) := by decide +kernel
theorem dX6_at_4 : decode cX6_at 4 = .ok (.iload_n 1, 1) := by decide +kernel
theorem dX6_at_5 : decode cX6_at 5 = .ok (.iadd, 1) := by decide +kernel
theorem dX6_at_6 : decode cX6_at 6 = .ok (.ireturn, 1) := by decide +kernel
theorem dX6_has_0 : decode cX6_has 0 = .ok (.aload_n 0, 1) := by decide +kernel
theorem dX6_has_1 : decode cX6_has 1 = .ok (.getfield 7, 3) := by decide +kernel
theorem dX6_has_4 : decode cX6_has 4 = .ok (.bipush 8, 2) := by decide +kernel
theorem dX6_has_6 : decode cX6_has 6 = .ok (.iload_n 1, 1) := by decide +kernel
theorem dX6_has_7 : decode cX6_has 7 = .ok (.iload_n 3, 1) := by decide +kernel
theorem dX6_has_8 : decode cX6_has 8 = .ok (.invokestatic 68, 3) := by decide +kernel
theorem dX6_has_11 : decode cX6_has 11 = .ok (.iadd, 1) := by decide +kernel
theorem dX6_has_12 : decode cX6_has 12 = .ok (.iaload, 1) := by decide +kernel
theorem dX6_has_13 : decode cX6_has 13 = .ok (.iload_n 2, 1) := by decide +kernel
theorem dX6_has_14 : decode cX6_has 14 = .ok (.ishr, 1) := by decide +kernel
theorem dX6_has_15 : decode cX6_has 15 = .ok (.iconst 1, 1) := by decide +kernel
theorem dX6_has_16 : decode cX6_has 16 = .ok (.iand, 1) := by decide +kernel
theorem dX6_has_17 : decode cX6_has 17 = .ok (.iconst 1, 1) := by decide +kernel
theorem dX6_has_18 : decode cX6_has 18 = .ok (.if_icmp .ne 7, 3) := by decide +kernel
theorem dX6_has_21 : decode cX6_has 21 = .ok (.iconst 1, 1) := by decide +kernel
theorem dX6_has_22 : decode cX6_has 22 = .ok (.goto 4, 3) := by decide +kernel
theorem dX6_has_25 : decode cX6_has 25 = .ok (.iconst 0, 1) := by decide +kernel
theorem dX6_has_26 : decode cX6_has 26 = .ok (.ireturn, 1) := by decide +kernel
theorem dX6_bits_0 : decode cX6_bits 0 = .ok (.iconst 0, 1) := by decide +kernel
theorem dX6_bits_1 : decode cX6_bits 1 = .ok (.istore_n 1, 1) := by decide +kernel
theorem dX6_bits_2 : decode cX6_bits 2 = .ok (.iconst 0, 1) := by decide +kernel
theorem dX6_bits_3 : decode cX6_bits 3 = .ok (.istore_n 2, 1) := by decide +kernel
theorem dX6_bits_4 : decode cX6_bits 4 = .ok (.iload_n 2, 1) := by decide +kernel
theorem dX6_bits_5 : decode cX6_bits 5 = .ok (.bipush 8, 2) := by decide +kernel
theorem dX6_bits_7 : decode cX6_bits 7 = .ok (.if_icmp .ge 17, 3) := by decide +kernel
theorem dX6_bits_10 : decode cX6_bits 10 = .ok (.iload_n 1, 1) := by decide +kernel
theorem dX6_bits_11 : decode cX6_bits 11 = .ok (.iload_n 0, 1) := by decide +kernel
theorem dX6_bits_12 : decode cX6_bits 12 = .ok (.iload_n 2, 1) := by decide +kernel
theorem dX6_bits_13 : decode cX6_bits 13 = .ok (.ishr, 1) := by decide +kernel
theorem dX6_bits_14 : decode cX6_bits 14 = .ok (.iconst 1, 1) := by decide +kernel
theorem dX6_bits_15 : decode cX6_bits 15 = .ok (.iand, 1) := by decide +kernel
theorem dX6_bits_16 : decode cX6_bits 16 = .ok (.iadd, 1) := by decide +kernel
theorem dX6_bits_17 : decode cX6_bits 17 = .ok (.istore_n 1, 1) := by decide +kernel
theorem dX6_bits_18 : decode cX6_bits 18 = .ok (.iinc 2 1, 3) := by decide +kernel
theorem dX6_bits_21 : decode cX6_bits 21 = .ok (.goto (-17), 3) := by decide +kernel
theorem dX6_bits_24 : decode cX6_bits 24 = .ok (.iload_n 1, 1) := by decide +kernel
theorem dX6_bits_25 : decode cX6_bits 25 = .ok (.ireturn, 1) := by decide +kernel
theorem dX6_rightsMany_0 : decode cX6_rightsMany 0 = .ok (.iconst 0, 1) := by decide +kernel
theorem dX6_rightsMany_1 : decode cX6_rightsMany 1 = .ok (.istore_n 1, 1) := by decide +kernel
theorem dX6_rightsMany_2 : decode cX6_rightsMany 2 = .ok (.iconst 0, 1) := by decide +kernel
theorem dX6_rightsMany_3 : decode cX6_rightsMany 3 = .ok (.istore_n 2, 1) := by decide +kernel
theorem dX6_rightsMany_4 : decode cX6_rightsMany 4 = .ok (.iload_n 2, 1) := by decide +kernel
theorem dX6_rightsMany_5 : decode cX6_rightsMany 5 = .ok (.bipush 49, 2) := by decide +kernel
theorem dX6_rightsMany_7 : decode cX6_rightsMany 7 = .ok (.if_icmp .ge 24, 3) := by decide +kernel
theorem dX6_rightsMany_10 : decode cX6_rightsMany 10 = .ok (.iload_n 1, 1) := by decide +kernel
theorem dX6_rightsMany_11 : decode cX6_rightsMany 11 = .ok (.aload_n 0, 1) := by decide +kernel
theorem dX6_rightsMany_12 : decode cX6_rightsMany 12 = .ok (.getfield 7, 3) := by decide +kernel
theorem dX6_rightsMany_15 : decode cX6_rightsMany 15 = .ok (.bipush 8, 2) := by decide +kernel
theorem dX6_rightsMany_17 : decode cX6_rightsMany 17 = .ok (.iload_n 2, 1) := by decide +kernel
theorem dX6_rightsMany_18 : decode cX6_rightsMany 18 = .ok (.iadd, 1) := by decide +kernel
theorem dX6_rightsMany_19 : decode cX6_rightsMany 19 = .ok (.iaload, 1) := by decide +kernel
theorem dX6_rightsMany_20 : decode cX6_rightsMany 20 = .ok (.invokestatic 72, 3) := by decide +kernel
theorem dX6_rightsMany_23 : decode cX6_rightsMany 23 = .ok (.iadd, 1) := by decide +kernel
theorem dX6_rightsMany_24 : decode cX6_rightsMany 24 = .ok (.istore_n 1, 1) := by decide +kernel
theorem dX6_rightsMany_25 : decode cX6_rightsMany 25 = .ok (.iinc 2 1, 3) := by decide +kernel
theorem dX6_rightsMany_28 : decode cX6_rightsMany 28 = .ok (.goto (-24), 3) := by decide +kernel
theorem dX6_rightsMany_31 : decode cX6_rightsMany 31 = .ok (.iload_n 1, 1) := by decide +kernel
theorem dX6_rightsMany_32 : decode cX6_rightsMany 32 = .ok (.ireturn, 1) := by decide +kernel
theorem dX6_awakeSet_0 : decode cX6_awakeSet 0 = .ok (.iconst 0, 1) := by decide +kernel
theorem dX6_awakeSet_1 : decode cX6_awakeSet 1 = .ok (.istore_n 1, 1) := by decide +kernel
theorem dX6_awakeSet_2 : decode cX6_awakeSet 2 = .ok (.iconst 0, 1) := by decide +kernel
theorem dX6_awakeSet_3 : decode cX6_awakeSet 3 = .ok (.istore_n 2, 1) := by decide +kernel
theorem dX6_awakeSet_4 : decode cX6_awakeSet 4 = .ok (.iload_n 2, 1) := by decide +kernel
theorem dX6_awakeSet_5 : decode cX6_awakeSet 5 = .ok (.aload_n 0, 1) := by decide +kernel
theorem dX6_awakeSet_6 : decode cX6_awakeSet 6 = .ok (.getfield 7, 3) := by decide +kernel
theorem dX6_awakeSet_9 : decode cX6_awakeSet 9 = .ok (.iconst 0, 1) := by decide +kernel
theorem dX6_awakeSet_10 : decode cX6_awakeSet 10 = .ok (.iaload, 1) := by decide +kernel
theorem dX6_awakeSet_11 : decode cX6_awakeSet 11 = .ok (.if_icmp .ge 31, 3) := by decide +kernel
theorem dX6_awakeSet_14 : decode cX6_awakeSet 14 = .ok (.iload_n 1, 1) := by decide +kernel
theorem dX6_awakeSet_15 : decode cX6_awakeSet 15 = .ok (.aload_n 0, 1) := by decide +kernel
theorem dX6_awakeSet_16 : decode cX6_awakeSet 16 = .ok (.getfield 7, 3) := by decide +kernel
theorem dX6_awakeSet_19 : decode cX6_awakeSet 19 = .ok (.iconst 1, 1) := by decide +kernel
theorem dX6_awakeSet_20 : decode cX6_awakeSet 20 = .ok (.iload_n 2, 1) := by decide +kernel
theorem dX6_awakeSet_21 : decode cX6_awakeSet 21 = .ok (.iadd, 1) := by decide +kernel
theorem dX6_awakeSet_22 : decode cX6_awakeSet 22 = .ok (.iaload, 1) := by decide +kernel
theorem dX6_awakeSet_23 : decode cX6_awakeSet 23 = .ok (.iconst 1, 1) := by decide +kernel
theorem dX6_awakeSet_24 : decode cX6_awakeSet 24 = .ok (.if_icmp .ne 9, 3) := by decide +kernel
theorem dX6_awakeSet_27 : decode cX6_awakeSet 27 = .ok (.iconst 1, 1) := by decide +kernel
theorem dX6_awakeSet_28 : decode cX6_awakeSet 28 = .ok (.iload_n 2, 1) := by decide +kernel
theorem dX6_awakeSet_29 : decode cX6_awakeSet 29 = .ok (.ishl, 1) := by decide +kernel
theorem dX6_awakeSet_30 : decode cX6_awakeSet 30 = .ok (.goto 4, 3) := by decide +kernel
theorem dX6_awakeSet_33 : decode cX6_awakeSet 33 = .ok (.iconst 0, 1) := by decide +kernel
theorem dX6_awakeSet_34 : decode cX6_awakeSet 34 = .ok (.ior, 1) := by decide +kernel
theorem dX6_awakeSet_35 : decode cX6_awakeSet 35 = .ok (.istore_n 1, 1) := by decide +kernel
theorem dX6_awakeSet_36 : decode cX6_awakeSet 36 = .ok (.iinc 2 1, 3) := by decide +kernel
theorem dX6_awakeSet_39 : decode cX6_awakeSet 39 = .ok (.goto (-35), 3) := by decide +kernel
theorem dX6_awakeSet_42 : decode cX6_awakeSet 42 = .ok (.iload_n 1, 1) := by decide +kernel
theorem dX6_awakeSet_43 : decode cX6_awakeSet 43 = .ok (.ireturn, 1) := by decide +kernel
theorem dX6_ends_0 : decode cX6_ends 0 = .ok (.aload_n 0, 1) := by decide +kernel
theorem dX6_ends_1 : decode cX6_ends 1 = .ok (.getfield 29, 3) := by decide +kernel
theorem dX6_ends_4 : decode cX6_ends 4 = .ok (.iload_n 1, 1) := by decide +kernel
theorem dX6_ends_5 : decode cX6_ends 5 = .ok (.iload_n 3, 1) := by decide +kernel
theorem dX6_ends_6 : decode cX6_ends 6 = .ok (.invokestatic 68, 3) := by decide +kernel
theorem dX6_ends_9 : decode cX6_ends 9 = .ok (.iaload, 1) := by decide +kernel
theorem dX6_ends_10 : decode cX6_ends 10 = .ok (.iload_n 2, 1) := by decide +kernel
theorem dX6_ends_11 : decode cX6_ends 11 = .ok (.ishr, 1) := by decide +kernel
theorem dX6_ends_12 : decode cX6_ends 12 = .ok (.iconst 1, 1) := by decide +kernel
theorem dX6_ends_13 : decode cX6_ends 13 = .ok (.iand, 1) := by decide +kernel
theorem dX6_ends_14 : decode cX6_ends 14 = .ok (.iconst 1, 1) := by decide +kernel
theorem dX6_ends_15 : decode cX6_ends 15 = .ok (.if_icmp .ne 7, 3) := by decide +kernel
theorem dX6_ends_18 : decode cX6_ends 18 = .ok (.iconst 1, 1) := by decide +kernel
theorem dX6_ends_19 : decode cX6_ends 19 = .ok (.goto 4, 3) := by decide +kernel
theorem dX6_ends_22 : decode cX6_ends 22 = .ok (.iconst 0, 1) := by decide +kernel
theorem dX6_ends_23 : decode cX6_ends 23 = .ok (.ireturn, 1) := by decide +kernel
theorem dX6_isIn_0 : decode cX6_isIn 0 = .ok (.iload_n 0, 1) := by decide +kernel
theorem dX6_isIn_1 : decode cX6_isIn 1 = .ok (.iload_n 1, 1) := by decide +kernel
theorem dX6_isIn_2 : decode cX6_isIn 2 = .ok (.ishr, 1) := by decide +kernel
theorem dX6_isIn_3 : decode cX6_isIn 3 = .ok (.iconst 1, 1) := by decide +kernel
theorem dX6_isIn_4 : decode cX6_isIn 4 = .ok (.iand, 1) := by decide +kernel
theorem dX6_isIn_5 : decode cX6_isIn 5 = .ok (.iconst 1, 1) := by decide +kernel
theorem dX6_isIn_6 : decode cX6_isIn 6 = .ok (.if_icmp .ne 7, 3) := by decide +kernel
theorem dX6_isIn_9 : decode cX6_isIn 9 = .ok (.iconst 1, 1) := by decide +kernel
theorem dX6_isIn_10 : decode cX6_isIn 10 = .ok (.goto 4, 3) := by decide +kernel
theorem dX6_isIn_13 : decode cX6_isIn 13 = .ok (.iconst 0, 1) := by decide +kernel
theorem dX6_isIn_14 : decode cX6_isIn 14 = .ok (.ireturn, 1) := by decide +kernel
theorem dX6_firstWay_0 : decode cX6_firstWay 0 = .ok (.iconst 0, 1) := by decide +kernel
theorem dX6_firstWay_1 : decode cX6_firstWay 1 = .ok (.istore 5, 2) := by decide +kernel
theorem dX6_firstWay_3 : decode cX6_firstWay 3 = .ok (.iload 5, 2) := by decide +kernel
theorem dX6_firstWay_5 : decode cX6_firstWay 5 = .ok (.aload_n 0, 1) := by decide +kernel
theorem dX6_firstWay_6 : decode cX6_firstWay 6 = .ok (.getfield 7, 3) := by decide +kernel
theorem dX6_firstWay_9 : decode cX6_firstWay 9 = .ok (.iconst 0, 1) := by decide +kernel
theorem dX6_firstWay_10 : decode cX6_firstWay 10 = .ok (.iaload, 1) := by decide +kernel
theorem dX6_firstWay_11 : decode cX6_firstWay 11 = .ok (.if_icmp .ge 60, 3) := by decide +kernel
theorem dX6_firstWay_14 : decode cX6_firstWay 14 = .ok (.iload 4, 2) := by decide +kernel
theorem dX6_firstWay_16 : decode cX6_firstWay 16 = .ok (.iload_n 1, 1) := by decide +kernel
theorem dX6_firstWay_17 : decode cX6_firstWay 17 = .ok (.invokestatic 76, 3) := by decide +kernel
theorem dX6_firstWay_20 : decode cX6_firstWay 20 = .ok (.ifCond .eq 45, 3) := by decide +kernel
theorem dX6_firstWay_23 : decode cX6_firstWay 23 = .ok (.iload 5, 2) := by decide +kernel
theorem dX6_firstWay_25 : decode cX6_firstWay 25 = .ok (.iload_n 1, 1) := by decide +kernel
theorem dX6_firstWay_26 : decode cX6_firstWay 26 = .ok (.if_icmp .eq 39, 3) := by decide +kernel
theorem dX6_firstWay_29 : decode cX6_firstWay 29 = .ok (.iload 5, 2) := by decide +kernel
theorem dX6_firstWay_31 : decode cX6_firstWay 31 = .ok (.iload_n 3, 1) := by decide +kernel
theorem dX6_firstWay_32 : decode cX6_firstWay 32 = .ok (.if_icmp .eq 33, 3) := by decide +kernel
theorem dX6_firstWay_35 : decode cX6_firstWay 35 = .ok (.aload_n 0, 1) := by decide +kernel
theorem dX6_firstWay_36 : decode cX6_firstWay 36 = .ok (.iload_n 1, 1) := by decide +kernel
theorem dX6_firstWay_37 : decode cX6_firstWay 37 = .ok (.iconst 0, 1) := by decide +kernel
theorem dX6_firstWay_38 : decode cX6_firstWay 38 = .ok (.iload 5, 2) := by decide +kernel
theorem dX6_firstWay_40 : decode cX6_firstWay 40 = .ok (.invokevirtual 80, 3) := by decide +kernel
theorem dX6_firstWay_43 : decode cX6_firstWay 43 = .ok (.ifCond .eq 22, 3) := by decide +kernel
theorem dX6_firstWay_46 : decode cX6_firstWay 46 = .ok (.aload_n 0, 1) := by decide +kernel
theorem dX6_firstWay_47 : decode cX6_firstWay 47 = .ok (.iload 5, 2) := by decide +kernel
theorem dX6_firstWay_49 : decode cX6_firstWay 49 = .ok (.iload_n 2, 1) := by decide +kernel
theorem dX6_firstWay_50 : decode cX6_firstWay 50 = .ok (.iload_n 3, 1) := by decide +kernel
theorem dX6_firstWay_51 : decode cX6_firstWay 51 = .ok (.invokevirtual 80, 3) := by decide +kernel
theorem dX6_firstWay_54 : decode cX6_firstWay 54 = .ok (.ifCond .eq 11, 3) := by decide +kernel
theorem dX6_firstWay_57 : decode cX6_firstWay 57 = .ok (.bipush 10, 2) := by decide +kernel
theorem dX6_firstWay_59 : decode cX6_firstWay 59 = .ok (.iload_n 1, 1) := by decide +kernel
theorem dX6_firstWay_60 : decode cX6_firstWay 60 = .ok (.imul, 1) := by decide +kernel
theorem dX6_firstWay_61 : decode cX6_firstWay 61 = .ok (.iload 5, 2) := by decide +kernel
theorem dX6_firstWay_63 : decode cX6_firstWay 63 = .ok (.iadd, 1) := by decide +kernel
theorem dX6_firstWay_64 : decode cX6_firstWay 64 = .ok (.ireturn, 1) := by decide +kernel
theorem dX6_firstWay_65 : decode cX6_firstWay 65 = .ok (.iinc 5 1, 3) := by decide +kernel
theorem dX6_firstWay_68 : decode cX6_firstWay 68 = .ok (.goto (-65), 3) := by decide +kernel
theorem dX6_firstWay_71 : decode cX6_firstWay 71 = .ok (.iconst 0, 1) := by decide +kernel
theorem dX6_firstWay_72 : decode cX6_firstWay 72 = .ok (.istore 5, 2) := by decide +kernel
theorem dX6_firstWay_74 : decode cX6_firstWay 74 = .ok (.iload 5, 2) := by decide +kernel
theorem dX6_firstWay_76 : decode cX6_firstWay 76 = .ok (.aload_n 0, 1) := by decide +kernel
theorem dX6_firstWay_77 : decode cX6_firstWay 77 = .ok (.getfield 7, 3) := by decide +kernel
theorem dX6_firstWay_80 : decode cX6_firstWay 80 = .ok (.iconst 0, 1) := by decide +kernel
theorem dX6_firstWay_81 : decode cX6_firstWay 81 = .ok (.iaload, 1) := by decide +kernel
theorem dX6_firstWay_82 : decode cX6_firstWay 82 = .ok (.if_icmp .ge 64, 3) := by decide +kernel
theorem dX6_firstWay_85 : decode cX6_firstWay 85 = .ok (.iload 4, 2) := by decide +kernel
theorem dX6_firstWay_87 : decode cX6_firstWay 87 = .ok (.iload 5, 2) := by decide +kernel
theorem dX6_firstWay_89 : decode cX6_firstWay 89 = .ok (.invokestatic 76, 3) := by decide +kernel
theorem dX6_firstWay_92 : decode cX6_firstWay 92 = .ok (.ifCond .eq 48, 3) := by decide +kernel
theorem dX6_firstWay_95 : decode cX6_firstWay 95 = .ok (.iload 5, 2) := by decide +kernel
theorem dX6_firstWay_97 : decode cX6_firstWay 97 = .ok (.iload_n 1, 1) := by decide +kernel
theorem dX6_firstWay_98 : decode cX6_firstWay 98 = .ok (.if_icmp .eq 42, 3) := by decide +kernel
theorem dX6_firstWay_101 : decode cX6_firstWay 101 = .ok (.iload 5, 2) := by decide +kernel
theorem dX6_firstWay_103 : decode cX6_firstWay 103 = .ok (.iload_n 3, 1) := by decide +kernel
theorem dX6_firstWay_104 : decode cX6_firstWay 104 = .ok (.if_icmp .eq 36, 3) := by decide +kernel
theorem dX6_firstWay_107 : decode cX6_firstWay 107 = .ok (.aload_n 0, 1) := by decide +kernel
theorem dX6_firstWay_108 : decode cX6_firstWay 108 = .ok (.iload 5, 2) := by decide +kernel
theorem dX6_firstWay_110 : decode cX6_firstWay 110 = .ok (.iconst 1, 1) := by decide +kernel
theorem dX6_firstWay_111 : decode cX6_firstWay 111 = .ok (.iload_n 1, 1) := by decide +kernel
theorem dX6_firstWay_112 : decode cX6_firstWay 112 = .ok (.invokevirtual 80, 3) := by decide +kernel
theorem dX6_firstWay_115 : decode cX6_firstWay 115 = .ok (.ifCond .eq 25, 3) := by decide +kernel
theorem dX6_firstWay_118 : decode cX6_firstWay 118 = .ok (.aload_n 0, 1) := by decide +kernel
theorem dX6_firstWay_119 : decode cX6_firstWay 119 = .ok (.iload 5, 2) := by decide +kernel
theorem dX6_firstWay_121 : decode cX6_firstWay 121 = .ok (.iload_n 2, 1) := by decide +kernel
theorem dX6_firstWay_122 : decode cX6_firstWay 122 = .ok (.iload_n 3, 1) := by decide +kernel
theorem dX6_firstWay_123 : decode cX6_firstWay 123 = .ok (.invokevirtual 80, 3) := by decide +kernel
theorem dX6_firstWay_126 : decode cX6_firstWay 126 = .ok (.ifCond .eq 14, 3) := by decide +kernel
theorem dX6_firstWay_129 : decode cX6_firstWay 129 = .ok (.bipush 100, 2) := by decide +kernel
theorem dX6_firstWay_131 : decode cX6_firstWay 131 = .ok (.bipush 10, 2) := by decide +kernel
theorem dX6_firstWay_133 : decode cX6_firstWay 133 = .ok (.iload 5, 2) := by decide +kernel
theorem dX6_firstWay_135 : decode cX6_firstWay 135 = .ok (.imul, 1) := by decide +kernel
theorem dX6_firstWay_136 : decode cX6_firstWay 136 = .ok (.iadd, 1) := by decide +kernel
theorem dX6_firstWay_137 : decode cX6_firstWay 137 = .ok (.iload_n 1, 1) := by decide +kernel
theorem dX6_firstWay_138 : decode cX6_firstWay 138 = .ok (.iadd, 1) := by decide +kernel
theorem dX6_firstWay_139 : decode cX6_firstWay 139 = .ok (.ireturn, 1) := by decide +kernel
theorem dX6_firstWay_140 : decode cX6_firstWay 140 = .ok (.iinc 5 1, 3) := by decide +kernel
theorem dX6_firstWay_143 : decode cX6_firstWay 143 = .ok (.goto (-69), 3) := by decide +kernel
theorem dX6_firstWay_146 : decode cX6_firstWay 146 = .ok (.bipush (-9), 2) := by decide +kernel
theorem dX6_firstWay_148 : decode cX6_firstWay 148 = .ok (.ireturn, 1) := by decide +kernel
theorem dX6_goRound_0 : decode cX6_goRound 0 = .ok (.iconst 0, 1) := by decide +kernel
theorem dX6_goRound_1 : decode cX6_goRound 1 = .ok (.istore_n 2, 1) := by decide +kernel
theorem dX6_goRound_2 : decode cX6_goRound 2 = .ok (.iconst 0, 1) := by decide +kernel
theorem dX6_goRound_3 : decode cX6_goRound 3 = .ok (.istore_n 3, 1) := by decide +kernel
theorem dX6_goRound_4 : decode cX6_goRound 4 = .ok (.iload_n 3, 1) := by decide +kernel
theorem dX6_goRound_5 : decode cX6_goRound 5 = .ok (.aload_n 0, 1) := by decide +kernel
theorem dX6_goRound_6 : decode cX6_goRound 6 = .ok (.getfield 7, 3) := by decide +kernel
theorem dX6_goRound_9 : decode cX6_goRound 9 = .ok (.iconst 0, 1) := by decide +kernel
theorem dX6_goRound_10 : decode cX6_goRound 10 = .ok (.iaload, 1) := by decide +kernel
theorem dX6_goRound_11 : decode cX6_goRound 11 = .ok (.if_icmp .ge 158, 3) := by decide +kernel
theorem dX6_goRound_14 : decode cX6_goRound 14 = .ok (.iconst 0, 1) := by decide +kernel
theorem dX6_goRound_15 : decode cX6_goRound 15 = .ok (.istore 4, 2) := by decide +kernel
theorem dX6_goRound_17 : decode cX6_goRound 17 = .ok (.iload 4, 2) := by decide +kernel
theorem dX6_goRound_19 : decode cX6_goRound 19 = .ok (.aload_n 0, 1) := by decide +kernel
theorem dX6_goRound_20 : decode cX6_goRound 20 = .ok (.getfield 7, 3) := by decide +kernel
theorem dX6_goRound_23 : decode cX6_goRound 23 = .ok (.iconst 0, 1) := by decide +kernel
theorem dX6_goRound_24 : decode cX6_goRound 24 = .ok (.iaload, 1) := by decide +kernel
theorem dX6_goRound_25 : decode cX6_goRound 25 = .ok (.if_icmp .ge 138, 3) := by decide +kernel
theorem dX6_goRound_28 : decode cX6_goRound 28 = .ok (.aload_n 0, 1) := by decide +kernel
theorem dX6_goRound_29 : decode cX6_goRound 29 = .ok (.getfield 32, 3) := by decide +kernel
theorem dX6_goRound_32 : decode cX6_goRound 32 = .ok (.iload_n 3, 1) := by decide +kernel
theorem dX6_goRound_33 : decode cX6_goRound 33 = .ok (.iload 4, 2) := by decide +kernel
theorem dX6_goRound_35 : decode cX6_goRound 35 = .ok (.invokestatic 68, 3) := by decide +kernel
theorem dX6_goRound_38 : decode cX6_goRound 38 = .ok (.iconst 0, 1) := by decide +kernel
theorem dX6_goRound_39 : decode cX6_goRound 39 = .ok (.iastore, 1) := by decide +kernel
theorem dX6_goRound_40 : decode cX6_goRound 40 = .ok (.iconst 0, 1) := by decide +kernel
theorem dX6_goRound_41 : decode cX6_goRound 41 = .ok (.istore 5, 2) := by decide +kernel
theorem dX6_goRound_43 : decode cX6_goRound 43 = .ok (.iload 5, 2) := by decide +kernel
theorem dX6_goRound_45 : decode cX6_goRound 45 = .ok (.iconst 4, 1) := by decide +kernel
theorem dX6_goRound_46 : decode cX6_goRound 46 = .ok (.if_icmp .ge 111, 3) := by decide +kernel
theorem dX6_goRound_49 : decode cX6_goRound 49 = .ok (.iload_n 3, 1) := by decide +kernel
theorem dX6_goRound_50 : decode cX6_goRound 50 = .ok (.iload 4, 2) := by decide +kernel
theorem dX6_goRound_52 : decode cX6_goRound 52 = .ok (.if_icmp .eq 105, 3) := by decide +kernel
theorem dX6_goRound_55 : decode cX6_goRound 55 = .ok (.aload_n 0, 1) := by decide +kernel
theorem dX6_goRound_56 : decode cX6_goRound 56 = .ok (.iload_n 3, 1) := by decide +kernel
theorem dX6_goRound_57 : decode cX6_goRound 57 = .ok (.iload 5, 2) := by decide +kernel
theorem dX6_goRound_59 : decode cX6_goRound 59 = .ok (.iload 4, 2) := by decide +kernel
theorem dX6_goRound_61 : decode cX6_goRound 61 = .ok (.invokevirtual 80, 3) := by decide +kernel
theorem dX6_goRound_64 : decode cX6_goRound 64 = .ok (.ifCond .eq 8, 3) := by decide +kernel
theorem dX6_goRound_67 : decode cX6_goRound 67 = .ok (.bipush (-9), 2) := by decide +kernel
theorem dX6_goRound_69 : decode cX6_goRound 69 = .ok (.goto 13, 3) := by decide +kernel
theorem dX6_goRound_72 : decode cX6_goRound 72 = .ok (.aload_n 0, 1) := by decide +kernel
theorem dX6_goRound_73 : decode cX6_goRound 73 = .ok (.iload_n 3, 1) := by decide +kernel
theorem dX6_goRound_74 : decode cX6_goRound 74 = .ok (.iload 5, 2) := by decide +kernel
theorem dX6_goRound_76 : decode cX6_goRound 76 = .ok (.iload 4, 2) := by decide +kernel
theorem dX6_goRound_78 : decode cX6_goRound 78 = .ok (.iload_n 1, 1) := by decide +kernel
theorem dX6_goRound_79 : decode cX6_goRound 79 = .ok (.invokevirtual 83, 3) := by decide +kernel
theorem dX6_goRound_82 : decode cX6_goRound 82 = .ok (.istore 6, 2) := by decide +kernel
theorem dX6_goRound_84 : decode cX6_goRound 84 = .ok (.iload 6, 2) := by decide +kernel
theorem dX6_goRound_86 : decode cX6_goRound 86 = .ok (.bipush (-9), 2) := by decide +kernel
theorem dX6_goRound_88 : decode cX6_goRound 88 = .ok (.if_icmp .eq 63, 3) := by decide +kernel
theorem dX6_goRound_91 : decode cX6_goRound 91 = .ok (.aload_n 0, 1) := by decide +kernel
theorem dX6_goRound_92 : decode cX6_goRound 92 = .ok (.getfield 32, 3) := by decide +kernel
theorem dX6_goRound_95 : decode cX6_goRound 95 = .ok (.iload_n 3, 1) := by decide +kernel
theorem dX6_goRound_96 : decode cX6_goRound 96 = .ok (.iload 4, 2) := by decide +kernel
theorem dX6_goRound_98 : decode cX6_goRound 98 = .ok (.invokestatic 68, 3) := by decide +kernel
theorem dX6_goRound_101 : decode cX6_goRound 101 = .ok (.dup2, 1) := by decide +kernel
theorem dX6_goRound_102 : decode cX6_goRound 102 = .ok (.iaload, 1) := by decide +kernel
theorem dX6_goRound_103 : decode cX6_goRound 103 = .ok (.iconst 1, 1) := by decide +kernel
theorem dX6_goRound_104 : decode cX6_goRound 104 = .ok (.iload 5, 2) := by decide +kernel
theorem dX6_goRound_106 : decode cX6_goRound 106 = .ok (.ishl, 1) := by decide +kernel
theorem dX6_goRound_107 : decode cX6_goRound 107 = .ok (.ior, 1) := by decide +kernel
theorem dX6_goRound_108 : decode cX6_goRound 108 = .ok (.iastore, 1) := by decide +kernel
theorem dX6_goRound_109 : decode cX6_goRound 109 = .ok (.aload_n 0, 1) := by decide +kernel
theorem dX6_goRound_110 : decode cX6_goRound 110 = .ok (.getfield 35, 3) := by decide +kernel
theorem dX6_goRound_113 : decode cX6_goRound 113 = .ok (.iconst 4, 1) := by decide +kernel
theorem dX6_goRound_114 : decode cX6_goRound 114 = .ok (.iload_n 3, 1) := by decide +kernel
theorem dX6_goRound_115 : decode cX6_goRound 115 = .ok (.iload 4, 2) := by decide +kernel
theorem dX6_goRound_117 : decode cX6_goRound 117 = .ok (.invokestatic 68, 3) := by decide +kernel
theorem dX6_goRound_120 : decode cX6_goRound 120 = .ok (.imul, 1) := by decide +kernel
theorem dX6_goRound_121 : decode cX6_goRound 121 = .ok (.iload 5, 2) := by decide +kernel
theorem dX6_goRound_123 : decode cX6_goRound 123 = .ok (.iadd, 1) := by decide +kernel
theorem dX6_goRound_124 : decode cX6_goRound 124 = .ok (.aload_n 0, 1) := by decide +kernel
theorem dX6_goRound_125 : decode cX6_goRound 125 = .ok (.getfield 87, 3) := by decide +kernel
theorem dX6_goRound_128 : decode cX6_goRound 128 = .ok (.iconst 1, 1) := by decide +kernel
theorem dX6_goRound_129 : decode cX6_goRound 129 = .ok (.iadd, 1) := by decide +kernel
theorem dX6_goRound_130 : decode cX6_goRound 130 = .ok (.iastore, 1) := by decide +kernel
theorem dX6_goRound_131 : decode cX6_goRound 131 = .ok (.aload_n 0, 1) := by decide +kernel
theorem dX6_goRound_132 : decode cX6_goRound 132 = .ok (.getfield 38, 3) := by decide +kernel
theorem dX6_goRound_135 : decode cX6_goRound 135 = .ok (.iconst 4, 1) := by decide +kernel
theorem dX6_goRound_136 : decode cX6_goRound 136 = .ok (.iload_n 3, 1) := by decide +kernel
theorem dX6_goRound_137 : decode cX6_goRound 137 = .ok (.iload 4, 2) := by decide +kernel
theorem dX6_goRound_139 : decode cX6_goRound 139 = .ok (.invokestatic 68, 3) := by decide +kernel
theorem dX6_goRound_142 : decode cX6_goRound 142 = .ok (.imul, 1) := by decide +kernel
theorem dX6_goRound_143 : decode cX6_goRound 143 = .ok (.iload 5, 2) := by decide +kernel
theorem dX6_goRound_145 : decode cX6_goRound 145 = .ok (.iadd, 1) := by decide +kernel
theorem dX6_goRound_146 : decode cX6_goRound 146 = .ok (.iload 6, 2) := by decide +kernel
theorem dX6_goRound_148 : decode cX6_goRound 148 = .ok (.iastore, 1) := by decide +kernel
theorem dX6_goRound_149 : decode cX6_goRound 149 = .ok (.iconst 1, 1) := by decide +kernel
theorem dX6_goRound_150 : decode cX6_goRound 150 = .ok (.istore_n 2, 1) := by decide +kernel
theorem dX6_goRound_151 : decode cX6_goRound 151 = .ok (.iinc 5 1, 3) := by decide +kernel
theorem dX6_goRound_154 : decode cX6_goRound 154 = .ok (.goto (-111), 3) := by decide +kernel
theorem dX6_goRound_157 : decode cX6_goRound 157 = .ok (.iinc 4 1, 3) := by decide +kernel
theorem dX6_goRound_160 : decode cX6_goRound 160 = .ok (.goto (-143), 3) := by decide +kernel
theorem dX6_goRound_163 : decode cX6_goRound 163 = .ok (.iinc 3 1, 3) := by decide +kernel
theorem dX6_goRound_166 : decode cX6_goRound 166 = .ok (.goto (-162), 3) := by decide +kernel
theorem dX6_goRound_169 : decode cX6_goRound 169 = .ok (.iconst 0, 1) := by decide +kernel
theorem dX6_goRound_170 : decode cX6_goRound 170 = .ok (.istore_n 3, 1) := by decide +kernel
theorem dX6_goRound_171 : decode cX6_goRound 171 = .ok (.iload_n 3, 1) := by decide +kernel
theorem dX6_goRound_172 : decode cX6_goRound 172 = .ok (.aload_n 0, 1) := by decide +kernel
theorem dX6_goRound_173 : decode cX6_goRound 173 = .ok (.getfield 7, 3) := by decide +kernel
theorem dX6_goRound_176 : decode cX6_goRound 176 = .ok (.iconst 0, 1) := by decide +kernel
theorem dX6_goRound_177 : decode cX6_goRound 177 = .ok (.iaload, 1) := by decide +kernel
theorem dX6_goRound_178 : decode cX6_goRound 178 = .ok (.if_icmp .ge 54, 3) := by decide +kernel
theorem dX6_goRound_181 : decode cX6_goRound 181 = .ok (.iconst 0, 1) := by decide +kernel
theorem dX6_goRound_182 : decode cX6_goRound 182 = .ok (.istore 4, 2) := by decide +kernel
theorem dX6_goRound_184 : decode cX6_goRound 184 = .ok (.iload 4, 2) := by decide +kernel
theorem dX6_goRound_186 : decode cX6_goRound 186 = .ok (.aload_n 0, 1) := by decide +kernel
theorem dX6_goRound_187 : decode cX6_goRound 187 = .ok (.getfield 7, 3) := by decide +kernel
theorem dX6_goRound_190 : decode cX6_goRound 190 = .ok (.iconst 0, 1) := by decide +kernel
theorem dX6_goRound_191 : decode cX6_goRound 191 = .ok (.iaload, 1) := by decide +kernel
theorem dX6_goRound_192 : decode cX6_goRound 192 = .ok (.if_icmp .ge 34, 3) := by decide +kernel
theorem dX6_goRound_195 : decode cX6_goRound 195 = .ok (.aload_n 0, 1) := by decide +kernel
theorem dX6_goRound_196 : decode cX6_goRound 196 = .ok (.getfield 29, 3) := by decide +kernel
theorem dX6_goRound_199 : decode cX6_goRound 199 = .ok (.iload_n 3, 1) := by decide +kernel
theorem dX6_goRound_200 : decode cX6_goRound 200 = .ok (.iload 4, 2) := by decide +kernel
theorem dX6_goRound_202 : decode cX6_goRound 202 = .ok (.invokestatic 68, 3) := by decide +kernel
theorem dX6_goRound_205 : decode cX6_goRound 205 = .ok (.dup2, 1) := by decide +kernel
theorem dX6_goRound_206 : decode cX6_goRound 206 = .ok (.iaload, 1) := by decide +kernel
theorem dX6_goRound_207 : decode cX6_goRound 207 = .ok (.aload_n 0, 1) := by decide +kernel
theorem dX6_goRound_208 : decode cX6_goRound 208 = .ok (.getfield 32, 3) := by decide +kernel
theorem dX6_goRound_211 : decode cX6_goRound 211 = .ok (.iload_n 3, 1) := by decide +kernel
theorem dX6_goRound_212 : decode cX6_goRound 212 = .ok (.iload 4, 2) := by decide +kernel
theorem dX6_goRound_214 : decode cX6_goRound 214 = .ok (.invokestatic 68, 3) := by decide +kernel
theorem dX6_goRound_217 : decode cX6_goRound 217 = .ok (.iaload, 1) := by decide +kernel
theorem dX6_goRound_218 : decode cX6_goRound 218 = .ok (.ior, 1) := by decide +kernel
theorem dX6_goRound_219 : decode cX6_goRound 219 = .ok (.iastore, 1) := by decide +kernel
theorem dX6_goRound_220 : decode cX6_goRound 220 = .ok (.iinc 4 1, 3) := by decide +kernel
theorem dX6_goRound_223 : decode cX6_goRound 223 = .ok (.goto (-39), 3) := by decide +kernel
theorem dX6_goRound_226 : decode cX6_goRound 226 = .ok (.iinc 3 1, 3) := by decide +kernel
theorem dX6_goRound_229 : decode cX6_goRound 229 = .ok (.goto (-58), 3) := by decide +kernel
theorem dX6_goRound_232 : decode cX6_goRound 232 = .ok (.iload_n 2, 1) := by decide +kernel
theorem dX6_goRound_233 : decode cX6_goRound 233 = .ok (.ireturn, 1) := by decide +kernel
theorem dX6_spread_0 : decode cX6_spread 0 = .ok (.aload_n 0, 1) := by decide +kernel
theorem dX6_spread_1 : decode cX6_spread 1 = .ok (.iconst 0, 1) := by decide +kernel
theorem dX6_spread_2 : decode cX6_spread 2 = .ok (.putfield 87, 3) := by decide +kernel
theorem dX6_spread_5 : decode cX6_spread 5 = .ok (.iconst 0, 1) := by decide +kernel
theorem dX6_spread_6 : decode cX6_spread 6 = .ok (.istore_n 2, 1) := by decide +kernel
theorem dX6_spread_7 : decode cX6_spread 7 = .ok (.iload_n 2, 1) := by decide +kernel
theorem dX6_spread_8 : decode cX6_spread 8 = .ok (.bipush 49, 2) := by decide +kernel
theorem dX6_spread_10 : decode cX6_spread 10 = .ok (.if_icmp .ge 24, 3) := by decide +kernel
theorem dX6_spread_13 : decode cX6_spread 13 = .ok (.aload_n 0, 1) := by decide +kernel
theorem dX6_spread_14 : decode cX6_spread 14 = .ok (.getfield 29, 3) := by decide +kernel
theorem dX6_spread_17 : decode cX6_spread 17 = .ok (.iload_n 2, 1) := by decide +kernel
theorem dX6_spread_18 : decode cX6_spread 18 = .ok (.aload_n 0, 1) := by decide +kernel
theorem dX6_spread_19 : decode cX6_spread 19 = .ok (.getfield 7, 3) := by decide +kernel
theorem dX6_spread_22 : decode cX6_spread 22 = .ok (.bipush 8, 2) := by decide +kernel
theorem dX6_spread_24 : decode cX6_spread 24 = .ok (.iload_n 2, 1) := by decide +kernel
theorem dX6_spread_25 : decode cX6_spread 25 = .ok (.iadd, 1) := by decide +kernel
theorem dX6_spread_26 : decode cX6_spread 26 = .ok (.iaload, 1) := by decide +kernel
theorem dX6_spread_27 : decode cX6_spread 27 = .ok (.iastore, 1) := by decide +kernel
theorem dX6_spread_28 : decode cX6_spread 28 = .ok (.iinc 2 1, 3) := by decide +kernel
theorem dX6_spread_31 : decode cX6_spread 31 = .ok (.goto (-24), 3) := by decide +kernel
theorem dX6_spread_34 : decode cX6_spread 34 = .ok (.iconst 0, 1) := by decide +kernel
theorem dX6_spread_35 : decode cX6_spread 35 = .ok (.istore_n 2, 1) := by decide +kernel
theorem dX6_spread_36 : decode cX6_spread 36 = .ok (.iload_n 2, 1) := by decide +kernel
theorem dX6_spread_37 : decode cX6_spread 37 = .ok (.sipush 196, 3) := by decide +kernel
theorem dX6_spread_40 : decode cX6_spread 40 = .ok (.if_icmp .ge 24, 3) := by decide +kernel
theorem dX6_spread_43 : decode cX6_spread 43 = .ok (.aload_n 0, 1) := by decide +kernel
theorem dX6_spread_44 : decode cX6_spread 44 = .ok (.getfield 35, 3) := by decide +kernel
theorem dX6_spread_47 : decode cX6_spread 47 = .ok (.iload_n 2, 1) := by decide +kernel
theorem dX6_spread_48 : decode cX6_spread 48 = .ok (.iconst 0, 1) := by decide +kernel
theorem dX6_spread_49 : decode cX6_spread 49 = .ok (.iastore, 1) := by decide +kernel
theorem dX6_spread_50 : decode cX6_spread 50 = .ok (.aload_n 0, 1) := by decide +kernel
theorem dX6_spread_51 : decode cX6_spread 51 = .ok (.getfield 38, 3) := by decide +kernel
theorem dX6_spread_54 : decode cX6_spread 54 = .ok (.iload_n 2, 1) := by decide +kernel
theorem dX6_spread_55 : decode cX6_spread 55 = .ok (.bipush (-9), 2) := by decide +kernel
theorem dX6_spread_57 : decode cX6_spread 57 = .ok (.iastore, 1) := by decide +kernel
theorem dX6_spread_58 : decode cX6_spread 58 = .ok (.iinc 2 1, 3) := by decide +kernel
theorem dX6_spread_61 : decode cX6_spread 61 = .ok (.goto (-25), 3) := by decide +kernel
theorem dX6_spread_64 : decode cX6_spread 64 = .ok (.aload_n 0, 1) := by decide +kernel
theorem dX6_spread_65 : decode cX6_spread 65 = .ok (.iload_n 1, 1) := by decide +kernel
theorem dX6_spread_66 : decode cX6_spread 66 = .ok (.invokevirtual 90, 3) := by decide +kernel
theorem dX6_spread_69 : decode cX6_spread 69 = .ok (.ifCond .eq 16, 3) := by decide +kernel
theorem dX6_spread_72 : decode cX6_spread 72 = .ok (.aload_n 0, 1) := by decide +kernel
theorem dX6_spread_73 : decode cX6_spread 73 = .ok (.dup, 1) := by decide +kernel
theorem dX6_spread_74 : decode cX6_spread 74 = .ok (.getfield 87, 3) := by decide +kernel
theorem dX6_spread_77 : decode cX6_spread 77 = .ok (.iconst 1, 1) := by decide +kernel
theorem dX6_spread_78 : decode cX6_spread 78 = .ok (.iadd, 1) := by decide +kernel
theorem dX6_spread_79 : decode cX6_spread 79 = .ok (.putfield 87, 3) := by decide +kernel
theorem dX6_spread_82 : decode cX6_spread 82 = .ok (.goto (-18), 3) := by decide +kernel
theorem dX6_spread_85 : decode cX6_spread 85 = .ok (.return_, 1) := by decide +kernel
theorem dX6_endMany_0 : decode cX6_endMany 0 = .ok (.iconst 0, 1) := by decide +kernel
theorem dX6_endMany_1 : decode cX6_endMany 1 = .ok (.istore_n 1, 1) := by decide +kernel
theorem dX6_endMany_2 : decode cX6_endMany 2 = .ok (.iconst 0, 1) := by decide +kernel
theorem dX6_endMany_3 : decode cX6_endMany 3 = .ok (.istore_n 2, 1) := by decide +kernel
theorem dX6_endMany_4 : decode cX6_endMany 4 = .ok (.iload_n 2, 1) := by decide +kernel
theorem dX6_endMany_5 : decode cX6_endMany 5 = .ok (.bipush 49, 2) := by decide +kernel
theorem dX6_endMany_7 : decode cX6_endMany 7 = .ok (.if_icmp .ge 21, 3) := by decide +kernel
theorem dX6_endMany_10 : decode cX6_endMany 10 = .ok (.iload_n 1, 1) := by decide +kernel
theorem dX6_endMany_11 : decode cX6_endMany 11 = .ok (.aload_n 0, 1) := by decide +kernel
theorem dX6_endMany_12 : decode cX6_endMany 12 = .ok (.getfield 29, 3) := by decide +kernel
theorem dX6_endMany_15 : decode cX6_endMany 15 = .ok (.iload_n 2, 1) := by decide +kernel
theorem dX6_endMany_16 : decode cX6_endMany 16 = .ok (.iaload, 1) := by decide +kernel
theorem dX6_endMany_17 : decode cX6_endMany 17 = .ok (.invokestatic 72, 3) := by decide +kernel
theorem dX6_endMany_20 : decode cX6_endMany 20 = .ok (.iadd, 1) := by decide +kernel
theorem dX6_endMany_21 : decode cX6_endMany 21 = .ok (.istore_n 1, 1) := by decide +kernel
theorem dX6_endMany_22 : decode cX6_endMany 22 = .ok (.iinc 2 1, 3) := by decide +kernel
theorem dX6_endMany_25 : decode cX6_endMany 25 = .ok (.goto (-21), 3) := by decide +kernel
theorem dX6_endMany_28 : decode cX6_endMany 28 = .ok (.iload_n 1, 1) := by decide +kernel
theorem dX6_endMany_29 : decode cX6_endMany 29 = .ok (.ireturn, 1) := by decide +kernel
theorem dX6_isPerson_0 : decode cX6_isPerson 0 = .ok (.aload_n 0, 1) := by decide +kernel
theorem dX6_isPerson_1 : decode cX6_isPerson 1 = .ok (.getfield 7, 3) := by decide +kernel
theorem dX6_isPerson_4 : decode cX6_isPerson 4 = .ok (.iconst 1, 1) := by decide +kernel
theorem dX6_isPerson_5 : decode cX6_isPerson 5 = .ok (.iload_n 1, 1) := by decide +kernel
theorem dX6_isPerson_6 : decode cX6_isPerson 6 = .ok (.iadd, 1) := by decide +kernel
theorem dX6_isPerson_7 : decode cX6_isPerson 7 = .ok (.iaload, 1) := by decide +kernel
theorem dX6_isPerson_8 : decode cX6_isPerson 8 = .ok (.ifCond .eq 7, 3) := by decide +kernel
theorem dX6_isPerson_11 : decode cX6_isPerson 11 = .ok (.iconst 1, 1) := by decide +kernel
theorem dX6_isPerson_12 : decode cX6_isPerson 12 = .ok (.goto 4, 3) := by decide +kernel
theorem dX6_isPerson_15 : decode cX6_isPerson 15 = .ok (.iconst 0, 1) := by decide +kernel
theorem dX6_isPerson_16 : decode cX6_isPerson 16 = .ok (.ireturn, 1) := by decide +kernel
theorem dX6_learn_0 : decode cX6_learn 0 = .ok (.iconst 0, 1) := by decide +kernel
theorem dX6_learn_1 : decode cX6_learn 1 = .ok (.istore_n 2, 1) := by decide +kernel
theorem dX6_learn_2 : decode cX6_learn 2 = .ok (.iload_n 2, 1) := by decide +kernel
theorem dX6_learn_3 : decode cX6_learn 3 = .ok (.aload_n 0, 1) := by decide +kernel
theorem dX6_learn_4 : decode cX6_learn 4 = .ok (.getfield 7, 3) := by decide +kernel
theorem dX6_learn_7 : decode cX6_learn 7 = .ok (.iconst 0, 1) := by decide +kernel
theorem dX6_learn_8 : decode cX6_learn 8 = .ok (.iaload, 1) := by decide +kernel
theorem dX6_learn_9 : decode cX6_learn 9 = .ok (.if_icmp .ge 122, 3) := by decide +kernel
theorem dX6_learn_12 : decode cX6_learn 12 = .ok (.aload_n 0, 1) := by decide +kernel
theorem dX6_learn_13 : decode cX6_learn 13 = .ok (.getfield 41, 3) := by decide +kernel
theorem dX6_learn_16 : decode cX6_learn 16 = .ok (.iload_n 2, 1) := by decide +kernel
theorem dX6_learn_17 : decode cX6_learn 17 = .ok (.iconst 0, 1) := by decide +kernel
theorem dX6_learn_18 : decode cX6_learn 18 = .ok (.iastore, 1) := by decide +kernel
theorem dX6_learn_19 : decode cX6_learn 19 = .ok (.iconst 0, 1) := by decide +kernel
theorem dX6_learn_20 : decode cX6_learn 20 = .ok (.istore_n 3, 1) := by decide +kernel
theorem dX6_learn_21 : decode cX6_learn 21 = .ok (.iload_n 3, 1) := by decide +kernel
theorem dX6_learn_22 : decode cX6_learn 22 = .ok (.aload_n 0, 1) := by decide +kernel
theorem dX6_learn_23 : decode cX6_learn 23 = .ok (.getfield 7, 3) := by decide +kernel
theorem dX6_learn_26 : decode cX6_learn 26 = .ok (.iconst 0, 1) := by decide +kernel
theorem dX6_learn_27 : decode cX6_learn 27 = .ok (.iaload, 1) := by decide +kernel
theorem dX6_learn_28 : decode cX6_learn 28 = .ok (.if_icmp .ge 97, 3) := by decide +kernel
theorem dX6_learn_31 : decode cX6_learn 31 = .ok (.iload_n 1, 1) := by decide +kernel
theorem dX6_learn_32 : decode cX6_learn 32 = .ok (.ifCond .eq 13, 3) := by decide +kernel
theorem dX6_learn_35 : decode cX6_learn 35 = .ok (.aload_n 0, 1) := by decide +kernel
theorem dX6_learn_36 : decode cX6_learn 36 = .ok (.iload_n 2, 1) := by decide +kernel
theorem dX6_learn_37 : decode cX6_learn 37 = .ok (.iconst 2, 1) := by decide +kernel
theorem dX6_learn_38 : decode cX6_learn 38 = .ok (.iload_n 3, 1) := by decide +kernel
theorem dX6_learn_39 : decode cX6_learn 39 = .ok (.invokevirtual 80, 3) := by decide +kernel
theorem dX6_learn_42 : decode cX6_learn 42 = .ok (.goto 10, 3) := by decide +kernel
theorem dX6_learn_45 : decode cX6_learn 45 = .ok (.aload_n 0, 1) := by decide +kernel
theorem dX6_learn_46 : decode cX6_learn 46 = .ok (.iload_n 2, 1) := by decide +kernel
theorem dX6_learn_47 : decode cX6_learn 47 = .ok (.iconst 2, 1) := by decide +kernel
theorem dX6_learn_48 : decode cX6_learn 48 = .ok (.iload_n 3, 1) := by decide +kernel
theorem dX6_learn_49 : decode cX6_learn 49 = .ok (.invokevirtual 94, 3) := by decide +kernel
theorem dX6_learn_52 : decode cX6_learn 52 = .ok (.istore 4, 2) := by decide +kernel
theorem dX6_learn_54 : decode cX6_learn 54 = .ok (.iload_n 1, 1) := by decide +kernel
theorem dX6_learn_55 : decode cX6_learn 55 = .ok (.ifCond .eq 13, 3) := by decide +kernel
theorem dX6_learn_58 : decode cX6_learn 58 = .ok (.aload_n 0, 1) := by decide +kernel
theorem dX6_learn_59 : decode cX6_learn 59 = .ok (.iload_n 3, 1) := by decide +kernel
theorem dX6_learn_60 : decode cX6_learn 60 = .ok (.iconst 3, 1) := by decide +kernel
theorem dX6_learn_61 : decode cX6_learn 61 = .ok (.iload_n 2, 1) := by decide +kernel
theorem dX6_learn_62 : decode cX6_learn 62 = .ok (.invokevirtual 80, 3) := by decide +kernel
theorem dX6_learn_65 : decode cX6_learn 65 = .ok (.goto 10, 3) := by decide +kernel
theorem dX6_learn_68 : decode cX6_learn 68 = .ok (.aload_n 0, 1) := by decide +kernel
theorem dX6_learn_69 : decode cX6_learn 69 = .ok (.iload_n 3, 1) := by decide +kernel
theorem dX6_learn_70 : decode cX6_learn 70 = .ok (.iconst 3, 1) := by decide +kernel
theorem dX6_learn_71 : decode cX6_learn 71 = .ok (.iload_n 2, 1) := by decide +kernel
theorem dX6_learn_72 : decode cX6_learn 72 = .ok (.invokevirtual 94, 3) := by decide +kernel
theorem dX6_learn_75 : decode cX6_learn 75 = .ok (.istore 5, 2) := by decide +kernel
theorem dX6_learn_77 : decode cX6_learn 77 = .ok (.aload_n 0, 1) := by decide +kernel
theorem dX6_learn_78 : decode cX6_learn 78 = .ok (.getfield 41, 3) := by decide +kernel
theorem dX6_learn_81 : decode cX6_learn 81 = .ok (.iload_n 2, 1) := by decide +kernel
theorem dX6_learn_82 : decode cX6_learn 82 = .ok (.dup2, 1) := by decide +kernel
theorem dX6_learn_83 : decode cX6_learn 83 = .ok (.iaload, 1) := by decide +kernel
theorem dX6_learn_84 : decode cX6_learn 84 = .ok (.aload_n 0, 1) := by decide +kernel
theorem dX6_learn_85 : decode cX6_learn 85 = .ok (.iload_n 2, 1) := by decide +kernel
theorem dX6_learn_86 : decode cX6_learn 86 = .ok (.invokevirtual 97, 3) := by decide +kernel
theorem dX6_learn_89 : decode cX6_learn 89 = .ok (.ifCond .eq 8, 3) := by decide +kernel
theorem dX6_learn_92 : decode cX6_learn 92 = .ok (.iload 4, 2) := by decide +kernel
theorem dX6_learn_94 : decode cX6_learn 94 = .ok (.ifCond .ne 16, 3) := by decide +kernel
theorem dX6_learn_97 : decode cX6_learn 97 = .ok (.aload_n 0, 1) := by decide +kernel
theorem dX6_learn_98 : decode cX6_learn 98 = .ok (.iload_n 3, 1) := by decide +kernel
theorem dX6_learn_99 : decode cX6_learn 99 = .ok (.invokevirtual 97, 3) := by decide +kernel
theorem dX6_learn_102 : decode cX6_learn 102 = .ok (.ifCond .eq 14, 3) := by decide +kernel
theorem dX6_learn_105 : decode cX6_learn 105 = .ok (.iload 5, 2) := by decide +kernel
theorem dX6_learn_107 : decode cX6_learn 107 = .ok (.ifCond .eq 9, 3) := by decide +kernel
theorem dX6_learn_110 : decode cX6_learn 110 = .ok (.iconst 1, 1) := by decide +kernel
theorem dX6_learn_111 : decode cX6_learn 111 = .ok (.iload_n 3, 1) := by decide +kernel
theorem dX6_learn_112 : decode cX6_learn 112 = .ok (.ishl, 1) := by decide +kernel
theorem dX6_learn_113 : decode cX6_learn 113 = .ok (.goto 4, 3) := by decide +kernel
theorem dX6_learn_116 : decode cX6_learn 116 = .ok (.iconst 0, 1) := by decide +kernel
theorem dX6_learn_117 : decode cX6_learn 117 = .ok (.ior, 1) := by decide +kernel
theorem dX6_learn_118 : decode cX6_learn 118 = .ok (.iastore, 1) := by decide +kernel
theorem dX6_learn_119 : decode cX6_learn 119 = .ok (.iinc 3 1, 3) := by decide +kernel
theorem dX6_learn_122 : decode cX6_learn 122 = .ok (.goto (-101), 3) := by decide +kernel
theorem dX6_learn_125 : decode cX6_learn 125 = .ok (.iinc 2 1, 3) := by decide +kernel
theorem dX6_learn_128 : decode cX6_learn 128 = .ok (.goto (-126), 3) := by decide +kernel
theorem dX6_learn_131 : decode cX6_learn 131 = .ok (.iconst 0, 1) := by decide +kernel
theorem dX6_learn_132 : decode cX6_learn 132 = .ok (.istore_n 2, 1) := by decide +kernel
theorem dX6_learn_133 : decode cX6_learn 133 = .ok (.iload_n 2, 1) := by decide +kernel
theorem dX6_learn_134 : decode cX6_learn 134 = .ok (.aload_n 0, 1) := by decide +kernel
theorem dX6_learn_135 : decode cX6_learn 135 = .ok (.getfield 7, 3) := by decide +kernel
theorem dX6_learn_138 : decode cX6_learn 138 = .ok (.iconst 0, 1) := by decide +kernel
theorem dX6_learn_139 : decode cX6_learn 139 = .ok (.iaload, 1) := by decide +kernel
theorem dX6_learn_140 : decode cX6_learn 140 = .ok (.if_icmp .ge 81, 3) := by decide +kernel
theorem dX6_learn_143 : decode cX6_learn 143 = .ok (.iconst 0, 1) := by decide +kernel
theorem dX6_learn_144 : decode cX6_learn 144 = .ok (.istore_n 3, 1) := by decide +kernel
theorem dX6_learn_145 : decode cX6_learn 145 = .ok (.iload_n 3, 1) := by decide +kernel
theorem dX6_learn_146 : decode cX6_learn 146 = .ok (.aload_n 0, 1) := by decide +kernel
theorem dX6_learn_147 : decode cX6_learn 147 = .ok (.getfield 7, 3) := by decide +kernel
theorem dX6_learn_150 : decode cX6_learn 150 = .ok (.iconst 0, 1) := by decide +kernel
theorem dX6_learn_151 : decode cX6_learn 151 = .ok (.iaload, 1) := by decide +kernel
theorem dX6_learn_152 : decode cX6_learn 152 = .ok (.if_icmp .ge 63, 3) := by decide +kernel
theorem dX6_learn_155 : decode cX6_learn 155 = .ok (.iconst 0, 1) := by decide +kernel
theorem dX6_learn_156 : decode cX6_learn 156 = .ok (.istore 4, 2) := by decide +kernel
theorem dX6_learn_158 : decode cX6_learn 158 = .ok (.iload 4, 2) := by decide +kernel
theorem dX6_learn_160 : decode cX6_learn 160 = .ok (.aload_n 0, 1) := by decide +kernel
theorem dX6_learn_161 : decode cX6_learn 161 = .ok (.getfield 7, 3) := by decide +kernel
theorem dX6_learn_164 : decode cX6_learn 164 = .ok (.iconst 0, 1) := by decide +kernel
theorem dX6_learn_165 : decode cX6_learn 165 = .ok (.iaload, 1) := by decide +kernel
theorem dX6_learn_166 : decode cX6_learn 166 = .ok (.if_icmp .ge 43, 3) := by decide +kernel
theorem dX6_learn_169 : decode cX6_learn 169 = .ok (.aload_n 0, 1) := by decide +kernel
theorem dX6_learn_170 : decode cX6_learn 170 = .ok (.getfield 41, 3) := by decide +kernel
theorem dX6_learn_173 : decode cX6_learn 173 = .ok (.iload_n 3, 1) := by decide +kernel
theorem dX6_learn_174 : decode cX6_learn 174 = .ok (.dup2, 1) := by decide +kernel
theorem dX6_learn_175 : decode cX6_learn 175 = .ok (.iaload, 1) := by decide +kernel
theorem dX6_learn_176 : decode cX6_learn 176 = .ok (.aload_n 0, 1) := by decide +kernel
theorem dX6_learn_177 : decode cX6_learn 177 = .ok (.getfield 41, 3) := by decide +kernel
theorem dX6_learn_180 : decode cX6_learn 180 = .ok (.iload_n 3, 1) := by decide +kernel
theorem dX6_learn_181 : decode cX6_learn 181 = .ok (.iaload, 1) := by decide +kernel
theorem dX6_learn_182 : decode cX6_learn 182 = .ok (.iload 4, 2) := by decide +kernel
theorem dX6_learn_184 : decode cX6_learn 184 = .ok (.invokestatic 76, 3) := by decide +kernel
theorem dX6_learn_187 : decode cX6_learn 187 = .ok (.ifCond .eq 13, 3) := by decide +kernel
theorem dX6_learn_190 : decode cX6_learn 190 = .ok (.aload_n 0, 1) := by decide +kernel
theorem dX6_learn_191 : decode cX6_learn 191 = .ok (.getfield 41, 3) := by decide +kernel
theorem dX6_learn_194 : decode cX6_learn 194 = .ok (.iload 4, 2) := by decide +kernel
theorem dX6_learn_196 : decode cX6_learn 196 = .ok (.iaload, 1) := by decide +kernel
theorem dX6_learn_197 : decode cX6_learn 197 = .ok (.goto 4, 3) := by decide +kernel
theorem dX6_learn_200 : decode cX6_learn 200 = .ok (.iconst 0, 1) := by decide +kernel
theorem dX6_learn_201 : decode cX6_learn 201 = .ok (.ior, 1) := by decide +kernel
theorem dX6_learn_202 : decode cX6_learn 202 = .ok (.iastore, 1) := by decide +kernel
theorem dX6_learn_203 : decode cX6_learn 203 = .ok (.iinc 4 1, 3) := by decide +kernel
theorem dX6_learn_206 : decode cX6_learn 206 = .ok (.goto (-48), 3) := by decide +kernel
theorem dX6_learn_209 : decode cX6_learn 209 = .ok (.iinc 3 1, 3) := by decide +kernel
theorem dX6_learn_212 : decode cX6_learn 212 = .ok (.goto (-67), 3) := by decide +kernel
theorem dX6_learn_215 : decode cX6_learn 215 = .ok (.iinc 2 1, 3) := by decide +kernel
theorem dX6_learn_218 : decode cX6_learn 218 = .ok (.goto (-85), 3) := by decide +kernel
theorem dX6_learn_221 : decode cX6_learn 221 = .ok (.iconst 0, 1) := by decide +kernel
theorem dX6_learn_222 : decode cX6_learn 222 = .ok (.istore_n 2, 1) := by decide +kernel
theorem dX6_learn_223 : decode cX6_learn 223 = .ok (.iload_n 2, 1) := by decide +kernel
theorem dX6_learn_224 : decode cX6_learn 224 = .ok (.aload_n 0, 1) := by decide +kernel
theorem dX6_learn_225 : decode cX6_learn 225 = .ok (.getfield 7, 3) := by decide +kernel
theorem dX6_learn_228 : decode cX6_learn 228 = .ok (.iconst 0, 1) := by decide +kernel
theorem dX6_learn_229 : decode cX6_learn 229 = .ok (.iaload, 1) := by decide +kernel
theorem dX6_learn_230 : decode cX6_learn 230 = .ok (.if_icmp .ge 23, 3) := by decide +kernel
theorem dX6_learn_233 : decode cX6_learn 233 = .ok (.aload_n 0, 1) := by decide +kernel
theorem dX6_learn_234 : decode cX6_learn 234 = .ok (.getfield 41, 3) := by decide +kernel
theorem dX6_learn_237 : decode cX6_learn 237 = .ok (.iload_n 2, 1) := by decide +kernel
theorem dX6_learn_238 : decode cX6_learn 238 = .ok (.dup2, 1) := by decide +kernel
theorem dX6_learn_239 : decode cX6_learn 239 = .ok (.iaload, 1) := by decide +kernel
theorem dX6_learn_240 : decode cX6_learn 240 = .ok (.iconst 1, 1) := by decide +kernel
theorem dX6_learn_241 : decode cX6_learn 241 = .ok (.iload_n 2, 1) := by decide +kernel
theorem dX6_learn_242 : decode cX6_learn 242 = .ok (.ishl, 1) := by decide +kernel
theorem dX6_learn_243 : decode cX6_learn 243 = .ok (.iconst (-1), 1) := by decide +kernel
theorem dX6_learn_244 : decode cX6_learn 244 = .ok (.ixor, 1) := by decide +kernel
theorem dX6_learn_245 : decode cX6_learn 245 = .ok (.iand, 1) := by decide +kernel
theorem dX6_learn_246 : decode cX6_learn 246 = .ok (.iastore, 1) := by decide +kernel
theorem dX6_learn_247 : decode cX6_learn 247 = .ok (.iinc 2 1, 3) := by decide +kernel
theorem dX6_learn_250 : decode cX6_learn 250 = .ok (.goto (-27), 3) := by decide +kernel
theorem dX6_learn_253 : decode cX6_learn 253 = .ok (.return_, 1) := by decide +kernel
theorem dX6_pairs_0 : decode cX6_pairs 0 = .ok (.aload_n 0, 1) := by decide +kernel
theorem dX6_pairs_1 : decode cX6_pairs 1 = .ok (.iload_n 1, 1) := by decide +kernel
theorem dX6_pairs_2 : decode cX6_pairs 2 = .ok (.invokevirtual 100, 3) := by decide +kernel
theorem dX6_pairs_5 : decode cX6_pairs 5 = .ok (.iconst 0, 1) := by decide +kernel
theorem dX6_pairs_6 : decode cX6_pairs 6 = .ok (.istore_n 2, 1) := by decide +kernel
theorem dX6_pairs_7 : decode cX6_pairs 7 = .ok (.iconst 0, 1) := by decide +kernel
theorem dX6_pairs_8 : decode cX6_pairs 8 = .ok (.istore_n 3, 1) := by decide +kernel
theorem dX6_pairs_9 : decode cX6_pairs 9 = .ok (.iload_n 3, 1) := by decide +kernel
theorem dX6_pairs_10 : decode cX6_pairs 10 = .ok (.aload_n 0, 1) := by decide +kernel
theorem dX6_pairs_11 : decode cX6_pairs 11 = .ok (.getfield 7, 3) := by decide +kernel
theorem dX6_pairs_14 : decode cX6_pairs 14 = .ok (.iconst 0, 1) := by decide +kernel
theorem dX6_pairs_15 : decode cX6_pairs 15 = .ok (.iaload, 1) := by decide +kernel
theorem dX6_pairs_16 : decode cX6_pairs 16 = .ok (.if_icmp .ge 21, 3) := by decide +kernel
theorem dX6_pairs_19 : decode cX6_pairs 19 = .ok (.iload_n 2, 1) := by decide +kernel
theorem dX6_pairs_20 : decode cX6_pairs 20 = .ok (.aload_n 0, 1) := by decide +kernel
theorem dX6_pairs_21 : decode cX6_pairs 21 = .ok (.getfield 41, 3) := by decide +kernel
theorem dX6_pairs_24 : decode cX6_pairs 24 = .ok (.iload_n 3, 1) := by decide +kernel
theorem dX6_pairs_25 : decode cX6_pairs 25 = .ok (.iaload, 1) := by decide +kernel
theorem dX6_pairs_26 : decode cX6_pairs 26 = .ok (.invokestatic 72, 3) := by decide +kernel
theorem dX6_pairs_29 : decode cX6_pairs 29 = .ok (.iadd, 1) := by decide +kernel
theorem dX6_pairs_30 : decode cX6_pairs 30 = .ok (.istore_n 2, 1) := by decide +kernel
theorem dX6_pairs_31 : decode cX6_pairs 31 = .ok (.iinc 3 1, 3) := by decide +kernel
theorem dX6_pairs_34 : decode cX6_pairs 34 = .ok (.goto (-25), 3) := by decide +kernel
theorem dX6_pairs_37 : decode cX6_pairs 37 = .ok (.iload_n 2, 1) := by decide +kernel
theorem dX6_pairs_38 : decode cX6_pairs 38 = .ok (.ireturn, 1) := by decide +kernel
theorem dX6_append_0 : decode cX6_append 0 = .ok (.aload_n 0, 1) := by decide +kernel
theorem dX6_append_1 : decode cX6_append 1 = .ok (.iload_n 1, 1) := by decide +kernel
theorem dX6_append_2 : decode cX6_append 2 = .ok (.iconst 0, 1) := by decide +kernel
theorem dX6_append_3 : decode cX6_append 3 = .ok (.sipush 255, 3) := by decide +kernel
theorem dX6_append_6 : decode cX6_append 6 = .ok (.invokestatic 60, 3) := by decide +kernel
theorem dX6_append_9 : decode cX6_append 9 = .ok (.ifCond .ne 7, 3) := by decide +kernel
theorem dX6_append_12 : decode cX6_append 12 = .ok (.iconst 1, 1) := by decide +kernel
theorem dX6_append_13 : decode cX6_append 13 = .ok (.goto 17, 3) := by decide +kernel
theorem dX6_append_16 : decode cX6_append 16 = .ok (.aload_n 0, 1) := by decide +kernel
theorem dX6_append_17 : decode cX6_append 17 = .ok (.getfield 104, 3) := by decide +kernel
theorem dX6_append_20 : decode cX6_append 20 = .ok (.bipush 110, 2) := by decide +kernel
theorem dX6_append_22 : decode cX6_append 22 = .ok (.if_icmp .ne 7, 3) := by decide +kernel
theorem dX6_append_25 : decode cX6_append 25 = .ok (.iconst 2, 1) := by decide +kernel
theorem dX6_append_26 : decode cX6_append 26 = .ok (.goto 4, 3) := by decide +kernel
theorem dX6_append_29 : decode cX6_append 29 = .ok (.iconst 0, 1) := by decide +kernel
theorem dX6_append_30 : decode cX6_append 30 = .ok (.putfield 53, 3) := by decide +kernel
theorem dX6_append_33 : decode cX6_append 33 = .ok (.aload_n 0, 1) := by decide +kernel
theorem dX6_append_34 : decode cX6_append 34 = .ok (.getfield 53, 3) := by decide +kernel
theorem dX6_append_37 : decode cX6_append 37 = .ok (.ifCond .le 5, 3) := by decide +kernel
theorem dX6_append_40 : decode cX6_append 40 = .ok (.iconst 0, 1) := by decide +kernel
theorem dX6_append_41 : decode cX6_append 41 = .ok (.ireturn, 1) := by decide +kernel
theorem dX6_append_42 : decode cX6_append 42 = .ok (.aload_n 0, 1) := by decide +kernel
theorem dX6_append_43 : decode cX6_append 43 = .ok (.getfield 26, 3) := by decide +kernel
theorem dX6_append_46 : decode cX6_append 46 = .ok (.aload_n 0, 1) := by decide +kernel
theorem dX6_append_47 : decode cX6_append 47 = .ok (.getfield 104, 3) := by decide +kernel
theorem dX6_append_50 : decode cX6_append 50 = .ok (.iload_n 1, 1) := by decide +kernel
theorem dX6_append_51 : decode cX6_append 51 = .ok (.iastore, 1) := by decide +kernel
theorem dX6_append_52 : decode cX6_append 52 = .ok (.aload_n 0, 1) := by decide +kernel
theorem dX6_append_53 : decode cX6_append 53 = .ok (.dup, 1) := by decide +kernel
theorem dX6_append_54 : decode cX6_append 54 = .ok (.getfield 104, 3) := by decide +kernel
theorem dX6_append_57 : decode cX6_append 57 = .ok (.iconst 1, 1) := by decide +kernel
theorem dX6_append_58 : decode cX6_append 58 = .ok (.iadd, 1) := by decide +kernel
theorem dX6_append_59 : decode cX6_append 59 = .ok (.putfield 104, 3) := by decide +kernel
theorem dX6_append_62 : decode cX6_append 62 = .ok (.aload_n 0, 1) := by decide +kernel
theorem dX6_append_63 : decode cX6_append 63 = .ok (.getfield 104, 3) := by decide +kernel
theorem dX6_append_66 : decode cX6_append 66 = .ok (.ireturn, 1) := by decide +kernel
theorem dX6_clearText_0 : decode cX6_clearText 0 = .ok (.aload_n 0, 1) := by decide +kernel
theorem dX6_clearText_1 : decode cX6_clearText 1 = .ok (.iconst 0, 1) := by decide +kernel
theorem dX6_clearText_2 : decode cX6_clearText 2 = .ok (.putfield 53, 3) := by decide +kernel
theorem dX6_clearText_5 : decode cX6_clearText 5 = .ok (.aload_n 0, 1) := by decide +kernel
theorem dX6_clearText_6 : decode cX6_clearText 6 = .ok (.getfield 104, 3) := by decide +kernel
theorem dX6_clearText_9 : decode cX6_clearText 9 = .ok (.istore_n 1, 1) := by decide +kernel
theorem dX6_clearText_10 : decode cX6_clearText 10 = .ok (.aload_n 0, 1) := by decide +kernel
theorem dX6_clearText_11 : decode cX6_clearText 11 = .ok (.iconst 0, 1) := by decide +kernel
theorem dX6_clearText_12 : decode cX6_clearText 12 = .ok (.putfield 104, 3) := by decide +kernel
theorem dX6_clearText_15 : decode cX6_clearText 15 = .ok (.iload_n 1, 1) := by decide +kernel
theorem dX6_clearText_16 : decode cX6_clearText 16 = .ok (.ireturn, 1) := by decide +kernel
theorem dX6_letter_0 : decode cX6_letter 0 = .ok (.iload_n 1, 1) := by decide +kernel
theorem dX6_letter_1 : decode cX6_letter 1 = .ok (.aload_n 0, 1) := by decide +kernel
theorem dX6_letter_2 : decode cX6_letter 2 = .ok (.getfield 104, 3) := by decide +kernel
theorem dX6_letter_5 : decode cX6_letter 5 = .ok (.if_icmp .ge 12, 3) := by decide +kernel
theorem dX6_letter_8 : decode cX6_letter 8 = .ok (.aload_n 0, 1) := by decide +kernel
theorem dX6_letter_9 : decode cX6_letter 9 = .ok (.getfield 26, 3) := by decide +kernel
theorem dX6_letter_12 : decode cX6_letter 12 = .ok (.iload_n 1, 1) := by decide +kernel
theorem dX6_letter_13 : decode cX6_letter 13 = .ok (.iaload, 1) := by decide +kernel
theorem dX6_letter_14 : decode cX6_letter 14 = .ok (.goto 4, 3) := by decide +kernel
theorem dX6_letter_17 : decode cX6_letter 17 = .ok (.iconst (-1), 1) := by decide +kernel
theorem dX6_letter_18 : decode cX6_letter 18 = .ok (.ireturn, 1) := by decide +kernel
theorem dX6_kindOf_0 : decode cX6_kindOf 0 = .ok (.iload_n 0, 1) := by decide +kernel
theorem dX6_kindOf_1 : decode cX6_kindOf 1 = .ok (.bipush 112, 2) := by decide +kernel
theorem dX6_kindOf_3 : decode cX6_kindOf 3 = .ok (.if_icmp .ne 7, 3) := by decide +kernel
theorem dX6_kindOf_6 : decode cX6_kindOf 6 = .ok (.iconst 1, 1) := by decide +kernel
theorem dX6_kindOf_7 : decode cX6_kindOf 7 = .ok (.goto 24, 3) := by decide +kernel
theorem dX6_kindOf_10 : decode cX6_kindOf 10 = .ok (.iload_n 0, 1) := by decide +kernel
theorem dX6_kindOf_11 : decode cX6_kindOf 11 = .ok (.bipush 115, 2) := by decide +kernel
theorem dX6_kindOf_13 : decode cX6_kindOf 13 = .ok (.if_icmp .ne 7, 3) := by decide +kernel
theorem dX6_kindOf_16 : decode cX6_kindOf 16 = .ok (.iconst 2, 1) := by decide +kernel
theorem dX6_kindOf_17 : decode cX6_kindOf 17 = .ok (.goto 14, 3) := by decide +kernel
theorem dX6_kindOf_20 : decode cX6_kindOf 20 = .ok (.iload_n 0, 1) := by decide +kernel
theorem dX6_kindOf_21 : decode cX6_kindOf 21 = .ok (.bipush 98, 2) := by decide +kernel
theorem dX6_kindOf_23 : decode cX6_kindOf 23 = .ok (.if_icmp .ne 7, 3) := by decide +kernel
theorem dX6_kindOf_26 : decode cX6_kindOf 26 = .ok (.iconst 0, 1) := by decide +kernel
theorem dX6_kindOf_27 : decode cX6_kindOf 27 = .ok (.goto 4, 3) := by decide +kernel
theorem dX6_kindOf_30 : decode cX6_kindOf 30 = .ok (.iconst (-1), 1) := by decide +kernel
theorem dX6_kindOf_31 : decode cX6_kindOf 31 = .ok (.ireturn, 1) := by decide +kernel
theorem dX6_rightOf_0 : decode cX6_rightOf 0 = .ok (.iload_n 0, 1) := by decide +kernel
theorem dX6_rightOf_1 : decode cX6_rightOf 1 = .ok (.bipush 116, 2) := by decide +kernel
theorem dX6_rightOf_3 : decode cX6_rightOf 3 = .ok (.if_icmp .ne 7, 3) := by decide +kernel
theorem dX6_rightOf_6 : decode cX6_rightOf 6 = .ok (.iconst 0, 1) := by decide +kernel
theorem dX6_rightOf_7 : decode cX6_rightOf 7 = .ok (.goto 34, 3) := by decide +kernel
theorem dX6_rightOf_10 : decode cX6_rightOf 10 = .ok (.iload_n 0, 1) := by decide +kernel
theorem dX6_rightOf_11 : decode cX6_rightOf 11 = .ok (.bipush 103, 2) := by decide +kernel
theorem dX6_rightOf_13 : decode cX6_rightOf 13 = .ok (.if_icmp .ne 7, 3) := by decide +kernel
theorem dX6_rightOf_16 : decode cX6_rightOf 16 = .ok (.iconst 1, 1) := by decide +kernel
theorem dX6_rightOf_17 : decode cX6_rightOf 17 = .ok (.goto 24, 3) := by decide +kernel
theorem dX6_rightOf_20 : decode cX6_rightOf 20 = .ok (.iload_n 0, 1) := by decide +kernel
theorem dX6_rightOf_21 : decode cX6_rightOf 21 = .ok (.bipush 114, 2) := by decide +kernel
theorem dX6_rightOf_23 : decode cX6_rightOf 23 = .ok (.if_icmp .ne 7, 3) := by decide +kernel
theorem dX6_rightOf_26 : decode cX6_rightOf 26 = .ok (.iconst 2, 1) := by decide +kernel
theorem dX6_rightOf_27 : decode cX6_rightOf 27 = .ok (.goto 14, 3) := by decide +kernel
theorem dX6_rightOf_30 : decode cX6_rightOf 30 = .ok (.iload_n 0, 1) := by decide +kernel
theorem dX6_rightOf_31 : decode cX6_rightOf 31 = .ok (.bipush 119, 2) := by decide +kernel
theorem dX6_rightOf_33 : decode cX6_rightOf 33 = .ok (.if_icmp .ne 7, 3) := by decide +kernel
theorem dX6_rightOf_36 : decode cX6_rightOf 36 = .ok (.iconst 3, 1) := by decide +kernel
theorem dX6_rightOf_37 : decode cX6_rightOf 37 = .ok (.goto 4, 3) := by decide +kernel
theorem dX6_rightOf_40 : decode cX6_rightOf 40 = .ok (.iconst (-1), 1) := by decide +kernel
theorem dX6_rightOf_41 : decode cX6_rightOf 41 = .ok (.ireturn, 1) := by decide +kernel
theorem dX6_isDigit_0 : decode cX6_isDigit 0 = .ok (.aload_n 0, 1) := by decide +kernel
theorem dX6_isDigit_1 : decode cX6_isDigit 1 = .ok (.iload_n 1, 1) := by decide +kernel
theorem dX6_isDigit_2 : decode cX6_isDigit 2 = .ok (.invokevirtual 107, 3) := by decide +kernel
theorem dX6_isDigit_5 : decode cX6_isDigit 5 = .ok (.bipush 48, 2) := by decide +kernel
theorem dX6_isDigit_7 : decode cX6_isDigit 7 = .ok (.bipush 48, 2) := by decide +kernel
theorem dX6_isDigit_9 : decode cX6_isDigit 9 = .ok (.aload_n 0, 1) := by decide +kernel
theorem dX6_isDigit_10 : decode cX6_isDigit 10 = .ok (.getfield 44, 3) := by decide +kernel
theorem dX6_isDigit_13 : decode cX6_isDigit 13 = .ok (.iconst 0, 1) := by decide +kernel
theorem dX6_isDigit_14 : decode cX6_isDigit 14 = .ok (.iaload, 1) := by decide +kernel
theorem dX6_isDigit_15 : decode cX6_isDigit 15 = .ok (.iadd, 1) := by decide +kernel
theorem dX6_isDigit_16 : decode cX6_isDigit 16 = .ok (.iconst 1, 1) := by decide +kernel
theorem dX6_isDigit_17 : decode cX6_isDigit 17 = .ok (.isub, 1) := by decide +kernel
theorem dX6_isDigit_18 : decode cX6_isDigit 18 = .ok (.invokestatic 60, 3) := by decide +kernel
theorem dX6_isDigit_21 : decode cX6_isDigit 21 = .ok (.ireturn, 1) := by decide +kernel
theorem dX6_readText_0 : decode cX6_readText 0 = .ok (.iconst 0, 1) := by decide +kernel
theorem dX6_readText_1 : decode cX6_readText 1 = .ok (.istore_n 1, 1) := by decide +kernel
theorem dX6_readText_2 : decode cX6_readText 2 = .ok (.iload_n 1, 1) := by decide +kernel
theorem dX6_readText_3 : decode cX6_readText 3 = .ok (.bipush 57, 2) := by decide +kernel
theorem dX6_readText_5 : decode cX6_readText 5 = .ok (.if_icmp .ge 16, 3) := by decide +kernel
theorem dX6_readText_8 : decode cX6_readText 8 = .ok (.aload_n 0, 1) := by decide +kernel
theorem dX6_readText_9 : decode cX6_readText 9 = .ok (.getfield 44, 3) := by decide +kernel
theorem dX6_readText_12 : decode cX6_readText 12 = .ok (.iload_n 1, 1) := by decide +kernel
theorem dX6_readText_13 : decode cX6_readText 13 = .ok (.iconst 0, 1) := by decide +kernel
theorem dX6_readText_14 : decode cX6_readText 14 = .ok (.iastore, 1) := by decide +kernel
theorem dX6_readText_15 : decode cX6_readText 15 = .ok (.iinc 1 1, 3) := by decide +kernel
theorem dX6_readText_18 : decode cX6_readText 18 = .ok (.goto (-16), 3) := by decide +kernel
theorem dX6_readText_21 : decode cX6_readText 21 = .ok (.aload_n 0, 1) := by decide +kernel
theorem dX6_readText_22 : decode cX6_readText 22 = .ok (.iconst 0, 1) := by decide +kernel
theorem dX6_readText_23 : decode cX6_readText 23 = .ok (.invokevirtual 107, 3) := by decide +kernel
theorem dX6_readText_26 : decode cX6_readText 26 = .ok (.bipush 82, 2) := by decide +kernel
theorem dX6_readText_28 : decode cX6_readText 28 = .ok (.if_icmp .eq 5, 3) := by decide +kernel
theorem dX6_readText_31 : decode cX6_readText 31 = .ok (.iconst 0, 1) := by decide +kernel
theorem dX6_readText_32 : decode cX6_readText 32 = .ok (.ireturn, 1) := by decide +kernel
theorem dX6_readText_33 : decode cX6_readText 33 = .ok (.iconst 1, 1) := by decide +kernel
theorem dX6_readText_34 : decode cX6_readText 34 = .ok (.istore_n 1, 1) := by decide +kernel
theorem dX6_readText_35 : decode cX6_readText 35 = .ok (.aload_n 0, 1) := by decide +kernel
theorem dX6_readText_36 : decode cX6_readText 36 = .ok (.getfield 44, 3) := by decide +kernel
theorem dX6_readText_39 : decode cX6_readText 39 = .ok (.iconst 0, 1) := by decide +kernel
theorem dX6_readText_40 : decode cX6_readText 40 = .ok (.iaload, 1) := by decide +kernel
theorem dX6_readText_41 : decode cX6_readText 41 = .ok (.bipush 7, 2) := by decide +kernel
theorem dX6_readText_43 : decode cX6_readText 43 = .ok (.if_icmp .ge 51, 3) := by decide +kernel
theorem dX6_readText_46 : decode cX6_readText 46 = .ok (.aload_n 0, 1) := by decide +kernel
theorem dX6_readText_47 : decode cX6_readText 47 = .ok (.iload_n 1, 1) := by decide +kernel
theorem dX6_readText_48 : decode cX6_readText 48 = .ok (.invokevirtual 107, 3) := by decide +kernel
theorem dX6_readText_51 : decode cX6_readText 51 = .ok (.invokestatic 110, 3) := by decide +kernel
theorem dX6_readText_54 : decode cX6_readText 54 = .ok (.ifCond .lt 40, 3) := by decide +kernel
theorem dX6_readText_57 : decode cX6_readText 57 = .ok (.aload_n 0, 1) := by decide +kernel
theorem dX6_readText_58 : decode cX6_readText 58 = .ok (.getfield 44, 3) := by decide +kernel
theorem dX6_readText_61 : decode cX6_readText 61 = .ok (.iconst 1, 1) := by decide +kernel
theorem dX6_readText_62 : decode cX6_readText 62 = .ok (.aload_n 0, 1) := by decide +kernel
theorem dX6_readText_63 : decode cX6_readText 63 = .ok (.getfield 44, 3) := by decide +kernel
theorem dX6_readText_66 : decode cX6_readText 66 = .ok (.iconst 0, 1) := by decide +kernel
theorem dX6_readText_67 : decode cX6_readText 67 = .ok (.iaload, 1) := by decide +kernel
theorem dX6_readText_68 : decode cX6_readText 68 = .ok (.iadd, 1) := by decide +kernel
theorem dX6_readText_69 : decode cX6_readText 69 = .ok (.aload_n 0, 1) := by decide +kernel
theorem dX6_readText_70 : decode cX6_readText 70 = .ok (.iload_n 1, 1) := by decide +kernel
theorem dX6_readText_71 : decode cX6_readText 71 = .ok (.invokevirtual 107, 3) := by decide +kernel
theorem dX6_readText_74 : decode cX6_readText 74 = .ok (.invokestatic 110, 3) := by decide +kernel
theorem dX6_readText_77 : decode cX6_readText 77 = .ok (.iastore, 1) := by decide +kernel
theorem dX6_readText_78 : decode cX6_readText 78 = .ok (.aload_n 0, 1) := by decide +kernel
theorem dX6_readText_79 : decode cX6_readText 79 = .ok (.getfield 44, 3) := by decide +kernel
theorem dX6_readText_82 : decode cX6_readText 82 = .ok (.iconst 0, 1) := by decide +kernel
theorem dX6_readText_83 : decode cX6_readText 83 = .ok (.dup2, 1) := by decide +kernel
theorem dX6_readText_84 : decode cX6_readText 84 = .ok (.iaload, 1) := by decide +kernel
theorem dX6_readText_85 : decode cX6_readText 85 = .ok (.iconst 1, 1) := by decide +kernel
theorem dX6_readText_86 : decode cX6_readText 86 = .ok (.iadd, 1) := by decide +kernel
theorem dX6_readText_87 : decode cX6_readText 87 = .ok (.iastore, 1) := by decide +kernel
theorem dX6_readText_88 : decode cX6_readText 88 = .ok (.iinc 1 1, 3) := by decide +kernel
theorem dX6_readText_91 : decode cX6_readText 91 = .ok (.goto (-56), 3) := by decide +kernel
theorem dX6_readText_94 : decode cX6_readText 94 = .ok (.iload_n 1, 1) := by decide +kernel
theorem dX6_readText_95 : decode cX6_readText 95 = .ok (.aload_n 0, 1) := by decide +kernel
theorem dX6_readText_96 : decode cX6_readText 96 = .ok (.getfield 104, 3) := by decide +kernel
theorem dX6_readText_99 : decode cX6_readText 99 = .ok (.if_icmp .ne 6, 3) := by decide +kernel
theorem dX6_readText_102 : decode cX6_readText 102 = .ok (.bipush (-9), 2) := by decide +kernel
theorem dX6_readText_104 : decode cX6_readText 104 = .ok (.ireturn, 1) := by decide +kernel
theorem dX6_readText_105 : decode cX6_readText 105 = .ok (.aload_n 0, 1) := by decide +kernel
theorem dX6_readText_106 : decode cX6_readText 106 = .ok (.iload_n 1, 1) := by decide +kernel
theorem dX6_readText_107 : decode cX6_readText 107 = .ok (.invokevirtual 107, 3) := by decide +kernel
theorem dX6_readText_110 : decode cX6_readText 110 = .ok (.bipush 47, 2) := by decide +kernel
theorem dX6_readText_112 : decode cX6_readText 112 = .ok (.if_icmp .ne 13, 3) := by decide +kernel
theorem dX6_readText_115 : decode cX6_readText 115 = .ok (.aload_n 0, 1) := by decide +kernel
theorem dX6_readText_116 : decode cX6_readText 116 = .ok (.getfield 44, 3) := by decide +kernel
theorem dX6_readText_119 : decode cX6_readText 119 = .ok (.iconst 0, 1) := by decide +kernel
theorem dX6_readText_120 : decode cX6_readText 120 = .ok (.iaload, 1) := by decide +kernel
theorem dX6_readText_121 : decode cX6_readText 121 = .ok (.iconst 2, 1) := by decide +kernel
theorem dX6_readText_122 : decode cX6_readText 122 = .ok (.if_icmp .ge 5, 3) := by decide +kernel
theorem dX6_readText_125 : decode cX6_readText 125 = .ok (.iload_n 1, 1) := by decide +kernel
theorem dX6_readText_126 : decode cX6_readText 126 = .ok (.ireturn, 1) := by decide +kernel
theorem dX6_readText_127 : decode cX6_readText 127 = .ok (.aload_n 0, 1) := by decide +kernel
theorem dX6_readText_128 : decode cX6_readText 128 = .ok (.iload_n 1, 1) := by decide +kernel
theorem dX6_readText_129 : decode cX6_readText 129 = .ok (.iconst 1, 1) := by decide +kernel
theorem dX6_readText_130 : decode cX6_readText 130 = .ok (.iadd, 1) := by decide +kernel
theorem dX6_readText_131 : decode cX6_readText 131 = .ok (.invokevirtual 113, 3) := by decide +kernel
theorem dX6_readText_134 : decode cX6_readText 134 = .ok (.ireturn, 1) := by decide +kernel
theorem dX6_readRights_0 : decode cX6_readRights 0 = .ok (.iload_n 1, 1) := by decide +kernel
theorem dX6_readRights_1 : decode cX6_readRights 1 = .ok (.istore_n 2, 1) := by decide +kernel
theorem dX6_readRights_2 : decode cX6_readRights 2 = .ok (.iconst 0, 1) := by decide +kernel
theorem dX6_readRights_3 : decode cX6_readRights 3 = .ok (.istore_n 3, 1) := by decide +kernel
theorem dX6_readRights_4 : decode cX6_readRights 4 = .ok (.iload_n 3, 1) := by decide +kernel
theorem dX6_readRights_5 : decode cX6_readRights 5 = .ok (.ifCond .eq 11, 3) := by decide +kernel
theorem dX6_readRights_8 : decode cX6_readRights 8 = .ok (.iload_n 2, 1) := by decide +kernel
theorem dX6_readRights_9 : decode cX6_readRights 9 = .ok (.aload_n 0, 1) := by decide +kernel
theorem dX6_readRights_10 : decode cX6_readRights 10 = .ok (.getfield 104, 3) := by decide +kernel
theorem dX6_readRights_13 : decode cX6_readRights 13 = .ok (.if_icmp .ge 138, 3) := by decide +kernel
theorem dX6_readRights_16 : decode cX6_readRights 16 = .ok (.iload_n 3, 1) := by decide +kernel
theorem dX6_readRights_17 : decode cX6_readRights 17 = .ok (.bipush 30, 2) := by decide +kernel
theorem dX6_readRights_19 : decode cX6_readRights 19 = .ok (.if_icmp .eq 11, 3) := by decide +kernel
theorem dX6_readRights_22 : decode cX6_readRights 22 = .ok (.aload_n 0, 1) := by decide +kernel
theorem dX6_readRights_23 : decode cX6_readRights 23 = .ok (.iload_n 2, 1) := by decide +kernel
theorem dX6_readRights_24 : decode cX6_readRights 24 = .ok (.invokevirtual 116, 3) := by decide +kernel
theorem dX6_readRights_27 : decode cX6_readRights 27 = .ok (.ifCond .ne 5, 3) := by decide +kernel
theorem dX6_readRights_30 : decode cX6_readRights 30 = .ok (.iload_n 2, 1) := by decide +kernel
theorem dX6_readRights_31 : decode cX6_readRights 31 = .ok (.ireturn, 1) := by decide +kernel
theorem dX6_readRights_32 : decode cX6_readRights 32 = .ok (.aload_n 0, 1) := by decide +kernel
theorem dX6_readRights_33 : decode cX6_readRights 33 = .ok (.iload_n 2, 1) := by decide +kernel
theorem dX6_readRights_34 : decode cX6_readRights 34 = .ok (.invokevirtual 107, 3) := by decide +kernel
theorem dX6_readRights_37 : decode cX6_readRights 37 = .ok (.bipush 48, 2) := by decide +kernel
theorem dX6_readRights_39 : decode cX6_readRights 39 = .ok (.isub, 1) := by decide +kernel
theorem dX6_readRights_40 : decode cX6_readRights 40 = .ok (.istore 4, 2) := by decide +kernel
theorem dX6_readRights_42 : decode cX6_readRights 42 = .ok (.aload_n 0, 1) := by decide +kernel
theorem dX6_readRights_43 : decode cX6_readRights 43 = .ok (.iload_n 2, 1) := by decide +kernel
theorem dX6_readRights_44 : decode cX6_readRights 44 = .ok (.iconst 1, 1) := by decide +kernel
theorem dX6_readRights_45 : decode cX6_readRights 45 = .ok (.iadd, 1) := by decide +kernel
theorem dX6_readRights_46 : decode cX6_readRights 46 = .ok (.invokevirtual 107, 3) := by decide +kernel
theorem dX6_readRights_49 : decode cX6_readRights 49 = .ok (.invokestatic 119, 3) := by decide +kernel
theorem dX6_readRights_52 : decode cX6_readRights 52 = .ok (.istore 5, 2) := by decide +kernel
theorem dX6_readRights_54 : decode cX6_readRights 54 = .ok (.iload 5, 2) := by decide +kernel
theorem dX6_readRights_56 : decode cX6_readRights 56 = .ok (.ifCond .ge 7, 3) := by decide +kernel
theorem dX6_readRights_59 : decode cX6_readRights 59 = .ok (.iload_n 2, 1) := by decide +kernel
theorem dX6_readRights_60 : decode cX6_readRights 60 = .ok (.iconst 1, 1) := by decide +kernel
theorem dX6_readRights_61 : decode cX6_readRights 61 = .ok (.iadd, 1) := by decide +kernel
theorem dX6_readRights_62 : decode cX6_readRights 62 = .ok (.ireturn, 1) := by decide +kernel
theorem dX6_readRights_63 : decode cX6_readRights 63 = .ok (.aload_n 0, 1) := by decide +kernel
theorem dX6_readRights_64 : decode cX6_readRights 64 = .ok (.iload_n 2, 1) := by decide +kernel
theorem dX6_readRights_65 : decode cX6_readRights 65 = .ok (.iconst 2, 1) := by decide +kernel
theorem dX6_readRights_66 : decode cX6_readRights 66 = .ok (.iadd, 1) := by decide +kernel
theorem dX6_readRights_67 : decode cX6_readRights 67 = .ok (.invokevirtual 107, 3) := by decide +kernel
theorem dX6_readRights_70 : decode cX6_readRights 70 = .ok (.bipush 48, 2) := by decide +kernel
theorem dX6_readRights_72 : decode cX6_readRights 72 = .ok (.isub, 1) := by decide +kernel
theorem dX6_readRights_73 : decode cX6_readRights 73 = .ok (.istore 6, 2) := by decide +kernel
theorem dX6_readRights_75 : decode cX6_readRights 75 = .ok (.aload_n 0, 1) := by decide +kernel
theorem dX6_readRights_76 : decode cX6_readRights 76 = .ok (.iload_n 2, 1) := by decide +kernel
theorem dX6_readRights_77 : decode cX6_readRights 77 = .ok (.iconst 2, 1) := by decide +kernel
theorem dX6_readRights_78 : decode cX6_readRights 78 = .ok (.iadd, 1) := by decide +kernel
theorem dX6_readRights_79 : decode cX6_readRights 79 = .ok (.invokevirtual 116, 3) := by decide +kernel
theorem dX6_readRights_82 : decode cX6_readRights 82 = .ok (.ifCond .eq 34, 3) := by decide +kernel
theorem dX6_readRights_85 : decode cX6_readRights 85 = .ok (.iload 4, 2) := by decide +kernel
theorem dX6_readRights_87 : decode cX6_readRights 87 = .ok (.iload 6, 2) := by decide +kernel
theorem dX6_readRights_89 : decode cX6_readRights 89 = .ok (.if_icmp .eq 27, 3) := by decide +kernel
theorem dX6_readRights_92 : decode cX6_readRights 92 = .ok (.aload_n 0, 1) := by decide +kernel
theorem dX6_readRights_93 : decode cX6_readRights 93 = .ok (.getfield 44, 3) := by decide +kernel
theorem dX6_readRights_96 : decode cX6_readRights 96 = .ok (.bipush 8, 2) := by decide +kernel
theorem dX6_readRights_98 : decode cX6_readRights 98 = .ok (.iload 4, 2) := by decide +kernel
theorem dX6_readRights_100 : decode cX6_readRights 100 = .ok (.iload 6, 2) := by decide +kernel
theorem dX6_readRights_102 : decode cX6_readRights 102 = .ok (.invokestatic 68, 3) := by decide +kernel
theorem dX6_readRights_105 : decode cX6_readRights 105 = .ok (.iadd, 1) := by decide +kernel
theorem dX6_readRights_106 : decode cX6_readRights 106 = .ok (.iaload, 1) := by decide +kernel
theorem dX6_readRights_107 : decode cX6_readRights 107 = .ok (.iload 5, 2) := by decide +kernel
theorem dX6_readRights_109 : decode cX6_readRights 109 = .ok (.ishr, 1) := by decide +kernel
theorem dX6_readRights_110 : decode cX6_readRights 110 = .ok (.iconst 1, 1) := by decide +kernel
theorem dX6_readRights_111 : decode cX6_readRights 111 = .ok (.iand, 1) := by decide +kernel
theorem dX6_readRights_112 : decode cX6_readRights 112 = .ok (.iconst 1, 1) := by decide +kernel
theorem dX6_readRights_113 : decode cX6_readRights 113 = .ok (.if_icmp .ne 7, 3) := by decide +kernel
theorem dX6_readRights_116 : decode cX6_readRights 116 = .ok (.iload_n 2, 1) := by decide +kernel
theorem dX6_readRights_117 : decode cX6_readRights 117 = .ok (.iconst 2, 1) := by decide +kernel
theorem dX6_readRights_118 : decode cX6_readRights 118 = .ok (.iadd, 1) := by decide +kernel
theorem dX6_readRights_119 : decode cX6_readRights 119 = .ok (.ireturn, 1) := by decide +kernel
theorem dX6_readRights_120 : decode cX6_readRights 120 = .ok (.aload_n 0, 1) := by decide +kernel
theorem dX6_readRights_121 : decode cX6_readRights 121 = .ok (.getfield 44, 3) := by decide +kernel
theorem dX6_readRights_124 : decode cX6_readRights 124 = .ok (.bipush 8, 2) := by decide +kernel
theorem dX6_readRights_126 : decode cX6_readRights 126 = .ok (.iload 4, 2) := by decide +kernel
theorem dX6_readRights_128 : decode cX6_readRights 128 = .ok (.iload 6, 2) := by decide +kernel
theorem dX6_readRights_130 : decode cX6_readRights 130 = .ok (.invokestatic 68, 3) := by decide +kernel
theorem dX6_readRights_133 : decode cX6_readRights 133 = .ok (.iadd, 1) := by decide +kernel
theorem dX6_readRights_134 : decode cX6_readRights 134 = .ok (.dup2, 1) := by decide +kernel
theorem dX6_readRights_135 : decode cX6_readRights 135 = .ok (.iaload, 1) := by decide +kernel
theorem dX6_readRights_136 : decode cX6_readRights 136 = .ok (.iconst 1, 1) := by decide +kernel
theorem dX6_readRights_137 : decode cX6_readRights 137 = .ok (.iload 5, 2) := by decide +kernel
theorem dX6_readRights_139 : decode cX6_readRights 139 = .ok (.ishl, 1) := by decide +kernel
theorem dX6_readRights_140 : decode cX6_readRights 140 = .ok (.ior, 1) := by decide +kernel
theorem dX6_readRights_141 : decode cX6_readRights 141 = .ok (.iastore, 1) := by decide +kernel
theorem dX6_readRights_142 : decode cX6_readRights 142 = .ok (.iinc 3 1, 3) := by decide +kernel
theorem dX6_readRights_145 : decode cX6_readRights 145 = .ok (.iinc 2 3, 3) := by decide +kernel
theorem dX6_readRights_148 : decode cX6_readRights 148 = .ok (.goto (-144), 3) := by decide +kernel
theorem dX6_readRights_151 : decode cX6_readRights 151 = .ok (.bipush (-9), 2) := by decide +kernel
theorem dX6_readRights_153 : decode cX6_readRights 153 = .ok (.ireturn, 1) := by decide +kernel
theorem dX6_errorPosition_0 : decode cX6_errorPosition 0 = .ok (.aload_n 0, 1) := by decide +kernel
theorem dX6_errorPosition_1 : decode cX6_errorPosition 1 = .ok (.iconst 0, 1) := by decide +kernel
theorem dX6_errorPosition_2 : decode cX6_errorPosition 2 = .ok (.putfield 53, 3) := by decide +kernel
theorem dX6_errorPosition_5 : decode cX6_errorPosition 5 = .ok (.aload_n 0, 1) := by decide +kernel
theorem dX6_errorPosition_6 : decode cX6_errorPosition 6 = .ok (.invokevirtual 122, 3) := by decide +kernel
theorem dX6_errorPosition_9 : decode cX6_errorPosition 9 = .ok (.ireturn, 1) := by decide +kernel
theorem dX6_load_0 : decode cX6_load 0 = .ok (.aload_n 0, 1) := by decide +kernel
theorem dX6_load_1 : decode cX6_load 1 = .ok (.aload_n 0, 1) := by decide +kernel
theorem dX6_load_2 : decode cX6_load 2 = .ok (.invokevirtual 122, 3) := by decide +kernel
theorem dX6_load_5 : decode cX6_load 5 = .ok (.bipush (-9), 2) := by decide +kernel
theorem dX6_load_7 : decode cX6_load 7 = .ok (.if_icmp .ne 7, 3) := by decide +kernel
theorem dX6_load_10 : decode cX6_load 10 = .ok (.iconst 0, 1) := by decide +kernel
theorem dX6_load_11 : decode cX6_load 11 = .ok (.goto 4, 3) := by decide +kernel
theorem dX6_load_14 : decode cX6_load 14 = .ok (.iconst 1, 1) := by decide +kernel
theorem dX6_load_15 : decode cX6_load 15 = .ok (.putfield 53, 3) := by decide +kernel
theorem dX6_load_18 : decode cX6_load 18 = .ok (.aload_n 0, 1) := by decide +kernel
theorem dX6_load_19 : decode cX6_load 19 = .ok (.getfield 53, 3) := by decide +kernel
theorem dX6_load_22 : decode cX6_load 22 = .ok (.ifCond .le 5, 3) := by decide +kernel
theorem dX6_load_25 : decode cX6_load 25 = .ok (.iconst 0, 1) := by decide +kernel
theorem dX6_load_26 : decode cX6_load 26 = .ok (.ireturn, 1) := by decide +kernel
theorem dX6_load_27 : decode cX6_load 27 = .ok (.iconst 0, 1) := by decide +kernel
theorem dX6_load_28 : decode cX6_load 28 = .ok (.istore_n 1, 1) := by decide +kernel
theorem dX6_load_29 : decode cX6_load 29 = .ok (.iload_n 1, 1) := by decide +kernel
theorem dX6_load_30 : decode cX6_load 30 = .ok (.bipush 57, 2) := by decide +kernel
theorem dX6_load_32 : decode cX6_load 32 = .ok (.if_icmp .ge 21, 3) := by decide +kernel
theorem dX6_load_35 : decode cX6_load 35 = .ok (.aload_n 0, 1) := by decide +kernel
theorem dX6_load_36 : decode cX6_load 36 = .ok (.getfield 7, 3) := by decide +kernel
theorem dX6_load_39 : decode cX6_load 39 = .ok (.iload_n 1, 1) := by decide +kernel
theorem dX6_load_40 : decode cX6_load 40 = .ok (.aload_n 0, 1) := by decide +kernel
theorem dX6_load_41 : decode cX6_load 41 = .ok (.getfield 44, 3) := by decide +kernel
theorem dX6_load_44 : decode cX6_load 44 = .ok (.iload_n 1, 1) := by decide +kernel
theorem dX6_load_45 : decode cX6_load 45 = .ok (.iaload, 1) := by decide +kernel
theorem dX6_load_46 : decode cX6_load 46 = .ok (.iastore, 1) := by decide +kernel
theorem dX6_load_47 : decode cX6_load 47 = .ok (.iinc 1 1, 3) := by decide +kernel
theorem dX6_load_50 : decode cX6_load 50 = .ok (.goto (-21), 3) := by decide +kernel
theorem dX6_load_53 : decode cX6_load 53 = .ok (.aload_n 0, 1) := by decide +kernel
theorem dX6_load_54 : decode cX6_load 54 = .ok (.iconst 0, 1) := by decide +kernel
theorem dX6_load_55 : decode cX6_load 55 = .ok (.putfield 57, 3) := by decide +kernel
theorem dX6_load_58 : decode cX6_load 58 = .ok (.aload_n 0, 1) := by decide +kernel
theorem dX6_load_59 : decode cX6_load 59 = .ok (.getfield 19, 3) := by decide +kernel
theorem dX6_load_62 : decode cX6_load 62 = .ok (.iconst 0, 1) := by decide +kernel
theorem dX6_load_63 : decode cX6_load 63 = .ok (.iconst 0, 1) := by decide +kernel
theorem dX6_load_64 : decode cX6_load 64 = .ok (.bastore, 1) := by decide +kernel
theorem dX6_load_65 : decode cX6_load 65 = .ok (.aload_n 0, 1) := by decide +kernel
theorem dX6_load_66 : decode cX6_load 66 = .ok (.getfield 19, 3) := by decide +kernel
theorem dX6_load_69 : decode cX6_load 69 = .ok (.iconst 1, 1) := by decide +kernel
theorem dX6_load_70 : decode cX6_load 70 = .ok (.iconst 0, 1) := by decide +kernel
theorem dX6_load_71 : decode cX6_load 71 = .ok (.bastore, 1) := by decide +kernel
theorem dX6_load_72 : decode cX6_load 72 = .ok (.aload_n 0, 1) := by decide +kernel
theorem dX6_load_73 : decode cX6_load 73 = .ok (.getfield 7, 3) := by decide +kernel
theorem dX6_load_76 : decode cX6_load 76 = .ok (.iconst 0, 1) := by decide +kernel
theorem dX6_load_77 : decode cX6_load 77 = .ok (.iaload, 1) := by decide +kernel
theorem dX6_load_78 : decode cX6_load 78 = .ok (.ireturn, 1) := by decide +kernel
theorem dX6_persons_0 : decode cX6_persons 0 = .ok (.iconst 0, 1) := by decide +kernel
theorem dX6_persons_1 : decode cX6_persons 1 = .ok (.istore_n 1, 1) := by decide +kernel
theorem dX6_persons_2 : decode cX6_persons 2 = .ok (.iconst 0, 1) := by decide +kernel
theorem dX6_persons_3 : decode cX6_persons 3 = .ok (.istore_n 2, 1) := by decide +kernel
theorem dX6_persons_4 : decode cX6_persons 4 = .ok (.iload_n 2, 1) := by decide +kernel
theorem dX6_persons_5 : decode cX6_persons 5 = .ok (.aload_n 0, 1) := by decide +kernel
theorem dX6_persons_6 : decode cX6_persons 6 = .ok (.getfield 7, 3) := by decide +kernel
theorem dX6_persons_9 : decode cX6_persons 9 = .ok (.iconst 0, 1) := by decide +kernel
theorem dX6_persons_10 : decode cX6_persons 10 = .ok (.iaload, 1) := by decide +kernel
theorem dX6_persons_11 : decode cX6_persons 11 = .ok (.if_icmp .ge 25, 3) := by decide +kernel
theorem dX6_persons_14 : decode cX6_persons 14 = .ok (.iload_n 1, 1) := by decide +kernel
theorem dX6_persons_15 : decode cX6_persons 15 = .ok (.aload_n 0, 1) := by decide +kernel
theorem dX6_persons_16 : decode cX6_persons 16 = .ok (.iload_n 2, 1) := by decide +kernel
theorem dX6_persons_17 : decode cX6_persons 17 = .ok (.invokevirtual 97, 3) := by decide +kernel
theorem dX6_persons_20 : decode cX6_persons 20 = .ok (.ifCond .eq 7, 3) := by decide +kernel
theorem dX6_persons_23 : decode cX6_persons 23 = .ok (.iconst 1, 1) := by decide +kernel
theorem dX6_persons_24 : decode cX6_persons 24 = .ok (.goto 4, 3) := by decide +kernel
theorem dX6_persons_27 : decode cX6_persons 27 = .ok (.iconst 0, 1) := by decide +kernel
theorem dX6_persons_28 : decode cX6_persons 28 = .ok (.iadd, 1) := by decide +kernel
theorem dX6_persons_29 : decode cX6_persons 29 = .ok (.istore_n 1, 1) := by decide +kernel
theorem dX6_persons_30 : decode cX6_persons 30 = .ok (.iinc 2 1, 3) := by decide +kernel
theorem dX6_persons_33 : decode cX6_persons 33 = .ok (.goto (-29), 3) := by decide +kernel
theorem dX6_persons_36 : decode cX6_persons 36 = .ok (.iload_n 1, 1) := by decide +kernel
theorem dX6_persons_37 : decode cX6_persons 37 = .ok (.ireturn, 1) := by decide +kernel
theorem dX6_about_0 : decode cX6_about 0 = .ok (.aload_n 0, 1) := by decide +kernel
theorem dX6_about_1 : decode cX6_about 1 = .ok (.iload_n 1, 1) := by decide +kernel
theorem dX6_about_2 : decode cX6_about 2 = .ok (.iconst 0, 1) := by decide +kernel
theorem dX6_about_3 : decode cX6_about 3 = .ok (.bipush 7, 2) := by decide +kernel
theorem dX6_about_5 : decode cX6_about 5 = .ok (.invokestatic 60, 3) := by decide +kernel
theorem dX6_about_8 : decode cX6_about 8 = .ok (.ifCond .eq 7, 3) := by decide +kernel
theorem dX6_about_11 : decode cX6_about 11 = .ok (.iconst 0, 1) := by decide +kernel
theorem dX6_about_12 : decode cX6_about 12 = .ok (.goto 4, 3) := by decide +kernel
theorem dX6_about_15 : decode cX6_about 15 = .ok (.iconst 1, 1) := by decide +kernel
theorem dX6_about_16 : decode cX6_about 16 = .ok (.putfield 53, 3) := by decide +kernel
theorem dX6_about_19 : decode cX6_about 19 = .ok (.aload_n 0, 1) := by decide +kernel
theorem dX6_about_20 : decode cX6_about 20 = .ok (.getfield 53, 3) := by decide +kernel
theorem dX6_about_23 : decode cX6_about 23 = .ok (.ifCond .le 5, 3) := by decide +kernel
theorem dX6_about_26 : decode cX6_about 26 = .ok (.iconst 0, 1) := by decide +kernel
theorem dX6_about_27 : decode cX6_about 27 = .ok (.ireturn, 1) := by decide +kernel
theorem dX6_about_28 : decode cX6_about 28 = .ok (.aload_n 0, 1) := by decide +kernel
theorem dX6_about_29 : decode cX6_about 29 = .ok (.aload_n 0, 1) := by decide +kernel
theorem dX6_about_30 : decode cX6_about 30 = .ok (.invokevirtual 125, 3) := by decide +kernel
theorem dX6_about_33 : decode cX6_about 33 = .ok (.invokevirtual 128, 3) := by decide +kernel
theorem dX6_about_36 : decode cX6_about 36 = .ok (.iload_n 1, 1) := by decide +kernel
theorem dX6_about_37 : decode cX6_about 37 = .ok (.tableswitch 74 0 5 #[39, 46, 51, 59, 64, 69], 39) := by decide +kernel
theorem dX6_about_76 : decode cX6_about 76 = .ok (.aload_n 0, 1) := by decide +kernel
theorem dX6_about_77 : decode cX6_about 77 = .ok (.getfield 7, 3) := by decide +kernel
theorem dX6_about_80 : decode cX6_about 80 = .ok (.iconst 0, 1) := by decide +kernel
theorem dX6_about_81 : decode cX6_about 81 = .ok (.iaload, 1) := by decide +kernel
theorem dX6_about_82 : decode cX6_about 82 = .ok (.ireturn, 1) := by decide +kernel
theorem dX6_about_83 : decode cX6_about 83 = .ok (.aload_n 0, 1) := by decide +kernel
theorem dX6_about_84 : decode cX6_about 84 = .ok (.invokevirtual 132, 3) := by decide +kernel
theorem dX6_about_87 : decode cX6_about 87 = .ok (.ireturn, 1) := by decide +kernel
theorem dX6_about_88 : decode cX6_about 88 = .ok (.aload_n 0, 1) := by decide +kernel
theorem dX6_about_89 : decode cX6_about 89 = .ok (.invokevirtual 125, 3) := by decide +kernel
theorem dX6_about_92 : decode cX6_about 92 = .ok (.invokestatic 72, 3) := by decide +kernel
theorem dX6_about_95 : decode cX6_about 95 = .ok (.ireturn, 1) := by decide +kernel
theorem dX6_about_96 : decode cX6_about 96 = .ok (.aload_n 0, 1) := by decide +kernel
theorem dX6_about_97 : decode cX6_about 97 = .ok (.invokevirtual 64, 3) := by decide +kernel
theorem dX6_about_100 : decode cX6_about 100 = .ok (.ireturn, 1) := by decide +kernel
theorem dX6_about_101 : decode cX6_about 101 = .ok (.aload_n 0, 1) := by decide +kernel
theorem dX6_about_102 : decode cX6_about 102 = .ok (.invokevirtual 135, 3) := by decide +kernel
theorem dX6_about_105 : decode cX6_about 105 = .ok (.ireturn, 1) := by decide +kernel
theorem dX6_about_106 : decode cX6_about 106 = .ok (.aload_n 0, 1) := by decide +kernel
theorem dX6_about_107 : decode cX6_about 107 = .ok (.getfield 87, 3) := by decide +kernel
theorem dX6_about_110 : decode cX6_about 110 = .ok (.ireturn, 1) := by decide +kernel
theorem dX6_about_111 : decode cX6_about 111 = .ok (.aload_n 0, 1) := by decide +kernel
theorem dX6_about_112 : decode cX6_about 112 = .ok (.iload_n 1, 1) := by decide +kernel
theorem dX6_about_113 : decode cX6_about 113 = .ok (.bipush 7, 2) := by decide +kernel
theorem dX6_about_115 : decode cX6_about 115 = .ok (.if_icmp .ne 7, 3) := by decide +kernel
theorem dX6_about_118 : decode cX6_about 118 = .ok (.iconst 1, 1) := by decide +kernel
theorem dX6_about_119 : decode cX6_about 119 = .ok (.goto 4, 3) := by decide +kernel
theorem dX6_about_122 : decode cX6_about 122 = .ok (.iconst 0, 1) := by decide +kernel
theorem dX6_about_123 : decode cX6_about 123 = .ok (.invokevirtual 138, 3) := by decide +kernel
theorem dX6_about_126 : decode cX6_about 126 = .ok (.ireturn, 1) := by decide +kernel
theorem dX6_thing_0 : decode cX6_thing 0 = .ok (.aload_n 0, 1) := by decide +kernel
theorem dX6_thing_1 : decode cX6_thing 1 = .ok (.aload_n 0, 1) := by decide +kernel
theorem dX6_thing_2 : decode cX6_thing 2 = .ok (.iload_n 1, 1) := by decide +kernel
theorem dX6_thing_3 : decode cX6_thing 3 = .ok (.invokevirtual 142, 3) := by decide +kernel
theorem dX6_thing_6 : decode cX6_thing 6 = .ok (.ifCond .ne 7, 3) := by decide +kernel
theorem dX6_thing_9 : decode cX6_thing 9 = .ok (.iconst 1, 1) := by decide +kernel
theorem dX6_thing_10 : decode cX6_thing 10 = .ok (.goto 18, 3) := by decide +kernel
theorem dX6_thing_13 : decode cX6_thing 13 = .ok (.iload_n 2, 1) := by decide +kernel
theorem dX6_thing_14 : decode cX6_thing 14 = .ok (.iconst 0, 1) := by decide +kernel
theorem dX6_thing_15 : decode cX6_thing 15 = .ok (.bipush 6, 2) := by decide +kernel
theorem dX6_thing_17 : decode cX6_thing 17 = .ok (.invokestatic 60, 3) := by decide +kernel
theorem dX6_thing_20 : decode cX6_thing 20 = .ok (.ifCond .eq 7, 3) := by decide +kernel
theorem dX6_thing_23 : decode cX6_thing 23 = .ok (.iconst 0, 1) := by decide +kernel
theorem dX6_thing_24 : decode cX6_thing 24 = .ok (.goto 4, 3) := by decide +kernel
theorem dX6_thing_27 : decode cX6_thing 27 = .ok (.iconst 2, 1) := by decide +kernel
theorem dX6_thing_28 : decode cX6_thing 28 = .ok (.putfield 53, 3) := by decide +kernel
theorem dX6_thing_31 : decode cX6_thing 31 = .ok (.aload_n 0, 1) := by decide +kernel
theorem dX6_thing_32 : decode cX6_thing 32 = .ok (.getfield 53, 3) := by decide +kernel
theorem dX6_thing_35 : decode cX6_thing 35 = .ok (.ifCond .le 5, 3) := by decide +kernel
theorem dX6_thing_38 : decode cX6_thing 38 = .ok (.iconst 0, 1) := by decide +kernel
theorem dX6_thing_39 : decode cX6_thing 39 = .ok (.ireturn, 1) := by decide +kernel
theorem dX6_thing_40 : decode cX6_thing 40 = .ok (.iload_n 2, 1) := by decide +kernel
theorem dX6_thing_41 : decode cX6_thing 41 = .ok (.iconst 2, 1) := by decide +kernel
theorem dX6_thing_42 : decode cX6_thing 42 = .ok (.if_icmp .ge 41, 3) := by decide +kernel
theorem dX6_thing_45 : decode cX6_thing 45 = .ok (.iload_n 2, 1) := by decide +kernel
theorem dX6_thing_46 : decode cX6_thing 46 = .ok (.ifCond .ne 19, 3) := by decide +kernel
theorem dX6_thing_49 : decode cX6_thing 49 = .ok (.aload_n 0, 1) := by decide +kernel
theorem dX6_thing_50 : decode cX6_thing 50 = .ok (.iload_n 1, 1) := by decide +kernel
theorem dX6_thing_51 : decode cX6_thing 51 = .ok (.invokevirtual 97, 3) := by decide +kernel
theorem dX6_thing_54 : decode cX6_thing 54 = .ok (.ifCond .eq 7, 3) := by decide +kernel
theorem dX6_thing_57 : decode cX6_thing 57 = .ok (.iconst 1, 1) := by decide +kernel
theorem dX6_thing_58 : decode cX6_thing 58 = .ok (.goto 24, 3) := by decide +kernel
theorem dX6_thing_61 : decode cX6_thing 61 = .ok (.iconst 0, 1) := by decide +kernel
theorem dX6_thing_62 : decode cX6_thing 62 = .ok (.goto 20, 3) := by decide +kernel
theorem dX6_thing_65 : decode cX6_thing 65 = .ok (.aload_n 0, 1) := by decide +kernel
theorem dX6_thing_66 : decode cX6_thing 66 = .ok (.getfield 7, 3) := by decide +kernel
theorem dX6_thing_69 : decode cX6_thing 69 = .ok (.iconst 1, 1) := by decide +kernel
theorem dX6_thing_70 : decode cX6_thing 70 = .ok (.iload_n 1, 1) := by decide +kernel
theorem dX6_thing_71 : decode cX6_thing 71 = .ok (.iadd, 1) := by decide +kernel
theorem dX6_thing_72 : decode cX6_thing 72 = .ok (.iaload, 1) := by decide +kernel
theorem dX6_thing_73 : decode cX6_thing 73 = .ok (.iconst 1, 1) := by decide +kernel
theorem dX6_thing_74 : decode cX6_thing 74 = .ok (.if_icmp .ne 7, 3) := by decide +kernel
theorem dX6_thing_77 : decode cX6_thing 77 = .ok (.iconst 1, 1) := by decide +kernel
theorem dX6_thing_78 : decode cX6_thing 78 = .ok (.goto 4, 3) := by decide +kernel
theorem dX6_thing_81 : decode cX6_thing 81 = .ok (.iconst 0, 1) := by decide +kernel
theorem dX6_thing_82 : decode cX6_thing 82 = .ok (.ireturn, 1) := by decide +kernel
theorem dX6_thing_83 : decode cX6_thing 83 = .ok (.aload_n 0, 1) := by decide +kernel
theorem dX6_thing_84 : decode cX6_thing 84 = .ok (.aload_n 0, 1) := by decide +kernel
theorem dX6_thing_85 : decode cX6_thing 85 = .ok (.invokevirtual 125, 3) := by decide +kernel
theorem dX6_thing_88 : decode cX6_thing 88 = .ok (.invokevirtual 128, 3) := by decide +kernel
theorem dX6_thing_91 : decode cX6_thing 91 = .ok (.iload_n 2, 1) := by decide +kernel
theorem dX6_thing_92 : decode cX6_thing 92 = .ok (.iconst 4, 1) := by decide +kernel
theorem dX6_thing_93 : decode cX6_thing 93 = .ok (.if_icmp .eq 8, 3) := by decide +kernel
theorem dX6_thing_96 : decode cX6_thing 96 = .ok (.iload_n 2, 1) := by decide +kernel
theorem dX6_thing_97 : decode cX6_thing 97 = .ok (.iconst 5, 1) := by decide +kernel
theorem dX6_thing_98 : decode cX6_thing 98 = .ok (.if_icmp .ne 24, 3) := by decide +kernel
theorem dX6_thing_101 : decode cX6_thing 101 = .ok (.aload_n 0, 1) := by decide +kernel
theorem dX6_thing_102 : decode cX6_thing 102 = .ok (.iload_n 2, 1) := by decide +kernel
theorem dX6_thing_103 : decode cX6_thing 103 = .ok (.iconst 5, 1) := by decide +kernel
theorem dX6_thing_104 : decode cX6_thing 104 = .ok (.if_icmp .ne 7, 3) := by decide +kernel
theorem dX6_thing_107 : decode cX6_thing 107 = .ok (.iconst 1, 1) := by decide +kernel
theorem dX6_thing_108 : decode cX6_thing 108 = .ok (.goto 4, 3) := by decide +kernel
theorem dX6_thing_111 : decode cX6_thing 111 = .ok (.iconst 0, 1) := by decide +kernel
theorem dX6_thing_112 : decode cX6_thing 112 = .ok (.invokevirtual 100, 3) := by decide +kernel
theorem dX6_thing_115 : decode cX6_thing 115 = .ok (.aload_n 0, 1) := by decide +kernel
theorem dX6_thing_116 : decode cX6_thing 116 = .ok (.getfield 41, 3) := by decide +kernel
theorem dX6_thing_119 : decode cX6_thing 119 = .ok (.iload_n 1, 1) := by decide +kernel
theorem dX6_thing_120 : decode cX6_thing 120 = .ok (.iaload, 1) := by decide +kernel
theorem dX6_thing_121 : decode cX6_thing 121 = .ok (.ireturn, 1) := by decide +kernel
theorem dX6_thing_122 : decode cX6_thing 122 = .ok (.iconst 0, 1) := by decide +kernel
theorem dX6_thing_123 : decode cX6_thing 123 = .ok (.istore_n 3, 1) := by decide +kernel
theorem dX6_thing_124 : decode cX6_thing 124 = .ok (.iconst 0, 1) := by decide +kernel
theorem dX6_thing_125 : decode cX6_thing 125 = .ok (.istore 4, 2) := by decide +kernel
theorem dX6_thing_127 : decode cX6_thing 127 = .ok (.iload 4, 2) := by decide +kernel
theorem dX6_thing_129 : decode cX6_thing 129 = .ok (.aload_n 0, 1) := by decide +kernel
theorem dX6_thing_130 : decode cX6_thing 130 = .ok (.getfield 7, 3) := by decide +kernel
theorem dX6_thing_133 : decode cX6_thing 133 = .ok (.iconst 0, 1) := by decide +kernel
theorem dX6_thing_134 : decode cX6_thing 134 = .ok (.iaload, 1) := by decide +kernel
theorem dX6_thing_135 : decode cX6_thing 135 = .ok (.if_icmp .ge 76, 3) := by decide +kernel
theorem dX6_thing_138 : decode cX6_thing 138 = .ok (.iload_n 3, 1) := by decide +kernel
theorem dX6_thing_139 : decode cX6_thing 139 = .ok (.iload_n 2, 1) := by decide +kernel
theorem dX6_thing_140 : decode cX6_thing 140 = .ok (.iconst 2, 1) := by decide +kernel
theorem dX6_thing_141 : decode cX6_thing 141 = .ok (.if_icmp .ne 23, 3) := by decide +kernel
theorem dX6_thing_144 : decode cX6_thing 144 = .ok (.aload_n 0, 1) := by decide +kernel
theorem dX6_thing_145 : decode cX6_thing 145 = .ok (.getfield 7, 3) := by decide +kernel
theorem dX6_thing_148 : decode cX6_thing 148 = .ok (.bipush 8, 2) := by decide +kernel
theorem dX6_thing_150 : decode cX6_thing 150 = .ok (.iload_n 1, 1) := by decide +kernel
theorem dX6_thing_151 : decode cX6_thing 151 = .ok (.iload 4, 2) := by decide +kernel
theorem dX6_thing_153 : decode cX6_thing 153 = .ok (.invokestatic 68, 3) := by decide +kernel
theorem dX6_thing_156 : decode cX6_thing 156 = .ok (.iadd, 1) := by decide +kernel
theorem dX6_thing_157 : decode cX6_thing 157 = .ok (.iaload, 1) := by decide +kernel
theorem dX6_thing_158 : decode cX6_thing 158 = .ok (.invokestatic 72, 3) := by decide +kernel
theorem dX6_thing_161 : decode cX6_thing 161 = .ok (.goto 42, 3) := by decide +kernel
theorem dX6_thing_164 : decode cX6_thing 164 = .ok (.iload_n 2, 1) := by decide +kernel
theorem dX6_thing_165 : decode cX6_thing 165 = .ok (.iconst 3, 1) := by decide +kernel
theorem dX6_thing_166 : decode cX6_thing 166 = .ok (.if_icmp .ne 23, 3) := by decide +kernel
theorem dX6_thing_169 : decode cX6_thing 169 = .ok (.aload_n 0, 1) := by decide +kernel
theorem dX6_thing_170 : decode cX6_thing 170 = .ok (.getfield 7, 3) := by decide +kernel
theorem dX6_thing_173 : decode cX6_thing 173 = .ok (.bipush 8, 2) := by decide +kernel
theorem dX6_thing_175 : decode cX6_thing 175 = .ok (.iload 4, 2) := by decide +kernel
theorem dX6_thing_177 : decode cX6_thing 177 = .ok (.iload_n 1, 1) := by decide +kernel
theorem dX6_thing_178 : decode cX6_thing 178 = .ok (.invokestatic 68, 3) := by decide +kernel
theorem dX6_thing_181 : decode cX6_thing 181 = .ok (.iadd, 1) := by decide +kernel
theorem dX6_thing_182 : decode cX6_thing 182 = .ok (.iaload, 1) := by decide +kernel
theorem dX6_thing_183 : decode cX6_thing 183 = .ok (.invokestatic 72, 3) := by decide +kernel
theorem dX6_thing_186 : decode cX6_thing 186 = .ok (.goto 17, 3) := by decide +kernel
theorem dX6_thing_189 : decode cX6_thing 189 = .ok (.aload_n 0, 1) := by decide +kernel
theorem dX6_thing_190 : decode cX6_thing 190 = .ok (.getfield 29, 3) := by decide +kernel
theorem dX6_thing_193 : decode cX6_thing 193 = .ok (.iload_n 1, 1) := by decide +kernel
theorem dX6_thing_194 : decode cX6_thing 194 = .ok (.iload 4, 2) := by decide +kernel
theorem dX6_thing_196 : decode cX6_thing 196 = .ok (.invokestatic 68, 3) := by decide +kernel
theorem dX6_thing_199 : decode cX6_thing 199 = .ok (.iaload, 1) := by decide +kernel
theorem dX6_thing_200 : decode cX6_thing 200 = .ok (.invokestatic 72, 3) := by decide +kernel
theorem dX6_thing_203 : decode cX6_thing 203 = .ok (.iadd, 1) := by decide +kernel
theorem dX6_thing_204 : decode cX6_thing 204 = .ok (.istore_n 3, 1) := by decide +kernel
theorem dX6_thing_205 : decode cX6_thing 205 = .ok (.iinc 4 1, 3) := by decide +kernel
theorem dX6_thing_208 : decode cX6_thing 208 = .ok (.goto (-81), 3) := by decide +kernel
theorem dX6_thing_211 : decode cX6_thing 211 = .ok (.iload_n 3, 1) := by decide +kernel
theorem dX6_thing_212 : decode cX6_thing 212 = .ok (.ireturn, 1) := by decide +kernel
theorem dX6_rights_0 : decode cX6_rights 0 = .ok (.aload_n 0, 1) := by decide +kernel
theorem dX6_rights_1 : decode cX6_rights 1 = .ok (.aload_n 0, 1) := by decide +kernel
theorem dX6_rights_2 : decode cX6_rights 2 = .ok (.iload_n 1, 1) := by decide +kernel
theorem dX6_rights_3 : decode cX6_rights 3 = .ok (.invokevirtual 142, 3) := by decide +kernel
theorem dX6_rights_6 : decode cX6_rights 6 = .ok (.ifCond .eq 11, 3) := by decide +kernel
theorem dX6_rights_9 : decode cX6_rights 9 = .ok (.aload_n 0, 1) := by decide +kernel
theorem dX6_rights_10 : decode cX6_rights 10 = .ok (.iload_n 2, 1) := by decide +kernel
theorem dX6_rights_11 : decode cX6_rights 11 = .ok (.invokevirtual 142, 3) := by decide +kernel
theorem dX6_rights_14 : decode cX6_rights 14 = .ok (.ifCond .ne 7, 3) := by decide +kernel
theorem dX6_rights_17 : decode cX6_rights 17 = .ok (.iconst 1, 1) := by decide +kernel
theorem dX6_rights_18 : decode cX6_rights 18 = .ok (.goto 13, 3) := by decide +kernel
theorem dX6_rights_21 : decode cX6_rights 21 = .ok (.iload_n 1, 1) := by decide +kernel
theorem dX6_rights_22 : decode cX6_rights 22 = .ok (.iload_n 2, 1) := by decide +kernel
theorem dX6_rights_23 : decode cX6_rights 23 = .ok (.if_icmp .ne 7, 3) := by decide +kernel
theorem dX6_rights_26 : decode cX6_rights 26 = .ok (.iconst 2, 1) := by decide +kernel
theorem dX6_rights_27 : decode cX6_rights 27 = .ok (.goto 4, 3) := by decide +kernel
theorem dX6_rights_30 : decode cX6_rights 30 = .ok (.iconst 0, 1) := by decide +kernel
theorem dX6_rights_31 : decode cX6_rights 31 = .ok (.putfield 53, 3) := by decide +kernel
theorem dX6_rights_34 : decode cX6_rights 34 = .ok (.aload_n 0, 1) := by decide +kernel
theorem dX6_rights_35 : decode cX6_rights 35 = .ok (.getfield 53, 3) := by decide +kernel
theorem dX6_rights_38 : decode cX6_rights 38 = .ok (.ifCond .le 5, 3) := by decide +kernel
theorem dX6_rights_41 : decode cX6_rights 41 = .ok (.iconst 0, 1) := by decide +kernel
theorem dX6_rights_42 : decode cX6_rights 42 = .ok (.ireturn, 1) := by decide +kernel
theorem dX6_rights_43 : decode cX6_rights 43 = .ok (.aload_n 0, 1) := by decide +kernel
theorem dX6_rights_44 : decode cX6_rights 44 = .ok (.aload_n 0, 1) := by decide +kernel
theorem dX6_rights_45 : decode cX6_rights 45 = .ok (.invokevirtual 125, 3) := by decide +kernel
theorem dX6_rights_48 : decode cX6_rights 48 = .ok (.invokevirtual 128, 3) := by decide +kernel
theorem dX6_rights_51 : decode cX6_rights 51 = .ok (.iload_n 3, 1) := by decide +kernel
theorem dX6_rights_52 : decode cX6_rights 52 = .ok (.ifCond .eq 16, 3) := by decide +kernel
theorem dX6_rights_55 : decode cX6_rights 55 = .ok (.aload_n 0, 1) := by decide +kernel
theorem dX6_rights_56 : decode cX6_rights 56 = .ok (.getfield 29, 3) := by decide +kernel
theorem dX6_rights_59 : decode cX6_rights 59 = .ok (.iload_n 1, 1) := by decide +kernel
theorem dX6_rights_60 : decode cX6_rights 60 = .ok (.iload_n 2, 1) := by decide +kernel
theorem dX6_rights_61 : decode cX6_rights 61 = .ok (.invokestatic 68, 3) := by decide +kernel
theorem dX6_rights_64 : decode cX6_rights 64 = .ok (.iaload, 1) := by decide +kernel
theorem dX6_rights_65 : decode cX6_rights 65 = .ok (.goto 16, 3) := by decide +kernel
theorem dX6_rights_68 : decode cX6_rights 68 = .ok (.aload_n 0, 1) := by decide +kernel
theorem dX6_rights_69 : decode cX6_rights 69 = .ok (.getfield 7, 3) := by decide +kernel
theorem dX6_rights_72 : decode cX6_rights 72 = .ok (.bipush 8, 2) := by decide +kernel
theorem dX6_rights_74 : decode cX6_rights 74 = .ok (.iload_n 1, 1) := by decide +kernel
theorem dX6_rights_75 : decode cX6_rights 75 = .ok (.iload_n 2, 1) := by decide +kernel
theorem dX6_rights_76 : decode cX6_rights 76 = .ok (.invokestatic 68, 3) := by decide +kernel
theorem dX6_rights_79 : decode cX6_rights 79 = .ok (.iadd, 1) := by decide +kernel
theorem dX6_rights_80 : decode cX6_rights 80 = .ok (.iaload, 1) := by decide +kernel
theorem dX6_rights_81 : decode cX6_rights 81 = .ok (.ireturn, 1) := by decide +kernel
theorem dX6_whyNotRight_0 : decode cX6_whyNotRight 0 = .ok (.aload_n 0, 1) := by decide +kernel
theorem dX6_whyNotRight_1 : decode cX6_whyNotRight 1 = .ok (.iload_n 1, 1) := by decide +kernel
theorem dX6_whyNotRight_2 : decode cX6_whyNotRight 2 = .ok (.invokevirtual 142, 3) := by decide +kernel
theorem dX6_whyNotRight_5 : decode cX6_whyNotRight 5 = .ok (.ifCond .eq 11, 3) := by decide +kernel
theorem dX6_whyNotRight_8 : decode cX6_whyNotRight 8 = .ok (.aload_n 0, 1) := by decide +kernel
theorem dX6_whyNotRight_9 : decode cX6_whyNotRight 9 = .ok (.iload_n 3, 1) := by decide +kernel
theorem dX6_whyNotRight_10 : decode cX6_whyNotRight 10 = .ok (.invokevirtual 142, 3) := by decide +kernel
theorem dX6_whyNotRight_13 : decode cX6_whyNotRight 13 = .ok (.ifCond .ne 7, 3) := by decide +kernel
theorem dX6_whyNotRight_16 : decode cX6_whyNotRight 16 = .ok (.iconst 1, 1) := by decide +kernel
theorem dX6_whyNotRight_17 : decode cX6_whyNotRight 17 = .ok (.goto 22, 3) := by decide +kernel
theorem dX6_whyNotRight_20 : decode cX6_whyNotRight 20 = .ok (.iload_n 1, 1) := by decide +kernel
theorem dX6_whyNotRight_21 : decode cX6_whyNotRight 21 = .ok (.iload_n 3, 1) := by decide +kernel
theorem dX6_whyNotRight_22 : decode cX6_whyNotRight 22 = .ok (.if_icmp .eq 12, 3) := by decide +kernel
theorem dX6_whyNotRight_25 : decode cX6_whyNotRight 25 = .ok (.iload_n 2, 1) := by decide +kernel
theorem dX6_whyNotRight_26 : decode cX6_whyNotRight 26 = .ok (.iconst 0, 1) := by decide +kernel
theorem dX6_whyNotRight_27 : decode cX6_whyNotRight 27 = .ok (.iconst 3, 1) := by decide +kernel
theorem dX6_whyNotRight_28 : decode cX6_whyNotRight 28 = .ok (.invokestatic 60, 3) := by decide +kernel
theorem dX6_whyNotRight_31 : decode cX6_whyNotRight 31 = .ok (.ifCond .ne 7, 3) := by decide +kernel
theorem dX6_whyNotRight_34 : decode cX6_whyNotRight 34 = .ok (.iconst 2, 1) := by decide +kernel
theorem dX6_whyNotRight_35 : decode cX6_whyNotRight 35 = .ok (.goto 4, 3) := by decide +kernel
theorem dX6_whyNotRight_38 : decode cX6_whyNotRight 38 = .ok (.iconst 0, 1) := by decide +kernel
theorem dX6_whyNotRight_39 : decode cX6_whyNotRight 39 = .ok (.ireturn, 1) := by decide +kernel
theorem dX6_round_0 : decode cX6_round 0 = .ok (.aload_n 0, 1) := by decide +kernel
theorem dX6_round_1 : decode cX6_round 1 = .ok (.aload_n 0, 1) := by decide +kernel
theorem dX6_round_2 : decode cX6_round 2 = .ok (.iload_n 1, 1) := by decide +kernel
theorem dX6_round_3 : decode cX6_round 3 = .ok (.iload_n 2, 1) := by decide +kernel
theorem dX6_round_4 : decode cX6_round 4 = .ok (.iload_n 3, 1) := by decide +kernel
theorem dX6_round_5 : decode cX6_round 5 = .ok (.invokevirtual 145, 3) := by decide +kernel
theorem dX6_round_8 : decode cX6_round 8 = .ok (.putfield 53, 3) := by decide +kernel
theorem dX6_round_11 : decode cX6_round 11 = .ok (.aload_n 0, 1) := by decide +kernel
theorem dX6_round_12 : decode cX6_round 12 = .ok (.getfield 53, 3) := by decide +kernel
theorem dX6_round_15 : decode cX6_round 15 = .ok (.ifCond .le 5, 3) := by decide +kernel
theorem dX6_round_18 : decode cX6_round 18 = .ok (.iconst 0, 1) := by decide +kernel
theorem dX6_round_19 : decode cX6_round 19 = .ok (.ireturn, 1) := by decide +kernel
theorem dX6_round_20 : decode cX6_round 20 = .ok (.aload_n 0, 1) := by decide +kernel
theorem dX6_round_21 : decode cX6_round 21 = .ok (.aload_n 0, 1) := by decide +kernel
theorem dX6_round_22 : decode cX6_round 22 = .ok (.invokevirtual 125, 3) := by decide +kernel
theorem dX6_round_25 : decode cX6_round 25 = .ok (.invokevirtual 128, 3) := by decide +kernel
theorem dX6_round_28 : decode cX6_round 28 = .ok (.aload_n 0, 1) := by decide +kernel
theorem dX6_round_29 : decode cX6_round 29 = .ok (.iload_n 1, 1) := by decide +kernel
theorem dX6_round_30 : decode cX6_round 30 = .ok (.iload_n 2, 1) := by decide +kernel
theorem dX6_round_31 : decode cX6_round 31 = .ok (.iload_n 3, 1) := by decide +kernel
theorem dX6_round_32 : decode cX6_round 32 = .ok (.invokevirtual 80, 3) := by decide +kernel
theorem dX6_round_35 : decode cX6_round 35 = .ok (.ifCond .eq 20, 3) := by decide +kernel
theorem dX6_round_38 : decode cX6_round 38 = .ok (.aload_n 0, 1) := by decide +kernel
theorem dX6_round_39 : decode cX6_round 39 = .ok (.getfield 35, 3) := by decide +kernel
theorem dX6_round_42 : decode cX6_round 42 = .ok (.iconst 4, 1) := by decide +kernel
theorem dX6_round_43 : decode cX6_round 43 = .ok (.iload_n 1, 1) := by decide +kernel
theorem dX6_round_44 : decode cX6_round 44 = .ok (.iload_n 3, 1) := by decide +kernel
theorem dX6_round_45 : decode cX6_round 45 = .ok (.invokestatic 68, 3) := by decide +kernel
theorem dX6_round_48 : decode cX6_round 48 = .ok (.imul, 1) := by decide +kernel
theorem dX6_round_49 : decode cX6_round 49 = .ok (.iload_n 2, 1) := by decide +kernel
theorem dX6_round_50 : decode cX6_round 50 = .ok (.iadd, 1) := by decide +kernel
theorem dX6_round_51 : decode cX6_round 51 = .ok (.iaload, 1) := by decide +kernel
theorem dX6_round_52 : decode cX6_round 52 = .ok (.goto 5, 3) := by decide +kernel
theorem dX6_round_55 : decode cX6_round 55 = .ok (.bipush (-9), 2) := by decide +kernel
theorem dX6_round_57 : decode cX6_round 57 = .ok (.ireturn, 1) := by decide +kernel
theorem dX6_way_0 : decode cX6_way 0 = .ok (.aload_n 0, 1) := by decide +kernel
theorem dX6_way_1 : decode cX6_way 1 = .ok (.aload_n 0, 1) := by decide +kernel
theorem dX6_way_2 : decode cX6_way 2 = .ok (.iload_n 1, 1) := by decide +kernel
theorem dX6_way_3 : decode cX6_way 3 = .ok (.iload_n 2, 1) := by decide +kernel
theorem dX6_way_4 : decode cX6_way 4 = .ok (.iload_n 3, 1) := by decide +kernel
theorem dX6_way_5 : decode cX6_way 5 = .ok (.invokevirtual 145, 3) := by decide +kernel
theorem dX6_way_8 : decode cX6_way 8 = .ok (.putfield 53, 3) := by decide +kernel
theorem dX6_way_11 : decode cX6_way 11 = .ok (.aload_n 0, 1) := by decide +kernel
theorem dX6_way_12 : decode cX6_way 12 = .ok (.getfield 53, 3) := by decide +kernel
theorem dX6_way_15 : decode cX6_way 15 = .ok (.ifCond .le 5, 3) := by decide +kernel
theorem dX6_way_18 : decode cX6_way 18 = .ok (.iconst 0, 1) := by decide +kernel
theorem dX6_way_19 : decode cX6_way 19 = .ok (.ireturn, 1) := by decide +kernel
theorem dX6_way_20 : decode cX6_way 20 = .ok (.aload_n 0, 1) := by decide +kernel
theorem dX6_way_21 : decode cX6_way 21 = .ok (.aload_n 0, 1) := by decide +kernel
theorem dX6_way_22 : decode cX6_way 22 = .ok (.invokevirtual 125, 3) := by decide +kernel
theorem dX6_way_25 : decode cX6_way 25 = .ok (.invokevirtual 128, 3) := by decide +kernel
theorem dX6_way_28 : decode cX6_way 28 = .ok (.aload_n 0, 1) := by decide +kernel
theorem dX6_way_29 : decode cX6_way 29 = .ok (.getfield 38, 3) := by decide +kernel
theorem dX6_way_32 : decode cX6_way 32 = .ok (.iconst 4, 1) := by decide +kernel
theorem dX6_way_33 : decode cX6_way 33 = .ok (.iload_n 1, 1) := by decide +kernel
theorem dX6_way_34 : decode cX6_way 34 = .ok (.iload_n 3, 1) := by decide +kernel
theorem dX6_way_35 : decode cX6_way 35 = .ok (.invokestatic 68, 3) := by decide +kernel
theorem dX6_way_38 : decode cX6_way 38 = .ok (.imul, 1) := by decide +kernel
theorem dX6_way_39 : decode cX6_way 39 = .ok (.iload_n 2, 1) := by decide +kernel
theorem dX6_way_40 : decode cX6_way 40 = .ok (.iadd, 1) := by decide +kernel
theorem dX6_way_41 : decode cX6_way 41 = .ok (.iaload, 1) := by decide +kernel
theorem dX6_way_42 : decode cX6_way 42 = .ok (.ireturn, 1) := by decide +kernel
theorem dX6_need_0 : decode cX6_need 0 = .ok (.aload_n 0, 1) := by decide +kernel
theorem dX6_need_1 : decode cX6_need 1 = .ok (.getfield 38, 3) := by decide +kernel
theorem dX6_need_4 : decode cX6_need 4 = .ok (.iconst 4, 1) := by decide +kernel
theorem dX6_need_5 : decode cX6_need 5 = .ok (.iload_n 1, 1) := by decide +kernel
theorem dX6_need_6 : decode cX6_need 6 = .ok (.iload_n 2, 1) := by decide +kernel
theorem dX6_need_7 : decode cX6_need 7 = .ok (.invokestatic 68, 3) := by decide +kernel
theorem dX6_need_10 : decode cX6_need 10 = .ok (.imul, 1) := by decide +kernel
theorem dX6_need_11 : decode cX6_need 11 = .ok (.iload_n 3, 1) := by decide +kernel
theorem dX6_need_12 : decode cX6_need 12 = .ok (.iadd, 1) := by decide +kernel
theorem dX6_need_13 : decode cX6_need 13 = .ok (.iaload, 1) := by decide +kernel
theorem dX6_need_14 : decode cX6_need 14 = .ok (.istore 4, 2) := by decide +kernel
theorem dX6_need_16 : decode cX6_need 16 = .ok (.iload 4, 2) := by decide +kernel
theorem dX6_need_18 : decode cX6_need 18 = .ok (.bipush (-9), 2) := by decide +kernel
theorem dX6_need_20 : decode cX6_need 20 = .ok (.if_icmp .ne 4, 3) := by decide +kernel
theorem dX6_need_23 : decode cX6_need 23 = .ok (.return_, 1) := by decide +kernel
theorem dX6_need_24 : decode cX6_need 24 = .ok (.iload 4, 2) := by decide +kernel
theorem dX6_need_26 : decode cX6_need 26 = .ok (.bipush 10, 2) := by decide +kernel
theorem dX6_need_28 : decode cX6_need 28 = .ok (.idiv, 1) := by decide +kernel
theorem dX6_need_29 : decode cX6_need 29 = .ok (.bipush 10, 2) := by decide +kernel
theorem dX6_need_31 : decode cX6_need 31 = .ok (.irem, 1) := by decide +kernel
theorem dX6_need_32 : decode cX6_need 32 = .ok (.istore 5, 2) := by decide +kernel
theorem dX6_need_34 : decode cX6_need 34 = .ok (.iload 4, 2) := by decide +kernel
theorem dX6_need_36 : decode cX6_need 36 = .ok (.bipush 10, 2) := by decide +kernel
theorem dX6_need_38 : decode cX6_need 38 = .ok (.irem, 1) := by decide +kernel
theorem dX6_need_39 : decode cX6_need 39 = .ok (.istore 6, 2) := by decide +kernel
theorem dX6_need_41 : decode cX6_need 41 = .ok (.iload 4, 2) := by decide +kernel
theorem dX6_need_43 : decode cX6_need 43 = .ok (.bipush 100, 2) := by decide +kernel
theorem dX6_need_45 : decode cX6_need 45 = .ok (.if_icmp .ge 37, 3) := by decide +kernel
theorem dX6_need_48 : decode cX6_need 48 = .ok (.aload_n 0, 1) := by decide +kernel
theorem dX6_need_49 : decode cX6_need 49 = .ok (.getfield 47, 3) := by decide +kernel
theorem dX6_need_52 : decode cX6_need 52 = .ok (.iconst 4, 1) := by decide +kernel
theorem dX6_need_53 : decode cX6_need 53 = .ok (.iload 5, 2) := by decide +kernel
theorem dX6_need_55 : decode cX6_need 55 = .ok (.iload 6, 2) := by decide +kernel
theorem dX6_need_57 : decode cX6_need 57 = .ok (.invokestatic 68, 3) := by decide +kernel
theorem dX6_need_60 : decode cX6_need 60 = .ok (.imul, 1) := by decide +kernel
theorem dX6_need_61 : decode cX6_need 61 = .ok (.iconst 1, 1) := by decide +kernel
theorem dX6_need_62 : decode cX6_need 62 = .ok (.bastore, 1) := by decide +kernel
theorem dX6_need_63 : decode cX6_need 63 = .ok (.aload_n 0, 1) := by decide +kernel
theorem dX6_need_64 : decode cX6_need 64 = .ok (.getfield 47, 3) := by decide +kernel
theorem dX6_need_67 : decode cX6_need 67 = .ok (.iconst 4, 1) := by decide +kernel
theorem dX6_need_68 : decode cX6_need 68 = .ok (.iload 6, 2) := by decide +kernel
theorem dX6_need_70 : decode cX6_need 70 = .ok (.iload_n 2, 1) := by decide +kernel
theorem dX6_need_71 : decode cX6_need 71 = .ok (.invokestatic 68, 3) := by decide +kernel
theorem dX6_need_74 : decode cX6_need 74 = .ok (.imul, 1) := by decide +kernel
theorem dX6_need_75 : decode cX6_need 75 = .ok (.iload_n 3, 1) := by decide +kernel
theorem dX6_need_76 : decode cX6_need 76 = .ok (.iadd, 1) := by decide +kernel
theorem dX6_need_77 : decode cX6_need 77 = .ok (.iconst 1, 1) := by decide +kernel
theorem dX6_need_78 : decode cX6_need 78 = .ok (.bastore, 1) := by decide +kernel
theorem dX6_need_79 : decode cX6_need 79 = .ok (.goto 36, 3) := by decide +kernel
theorem dX6_need_82 : decode cX6_need 82 = .ok (.aload_n 0, 1) := by decide +kernel
theorem dX6_need_83 : decode cX6_need 83 = .ok (.getfield 47, 3) := by decide +kernel
theorem dX6_need_86 : decode cX6_need 86 = .ok (.iconst 4, 1) := by decide +kernel
theorem dX6_need_87 : decode cX6_need 87 = .ok (.iload 5, 2) := by decide +kernel
theorem dX6_need_89 : decode cX6_need 89 = .ok (.iload 6, 2) := by decide +kernel
theorem dX6_need_91 : decode cX6_need 91 = .ok (.invokestatic 68, 3) := by decide +kernel
theorem dX6_need_94 : decode cX6_need 94 = .ok (.imul, 1) := by decide +kernel
theorem dX6_need_95 : decode cX6_need 95 = .ok (.iconst 1, 1) := by decide +kernel
theorem dX6_need_96 : decode cX6_need 96 = .ok (.iadd, 1) := by decide +kernel
theorem dX6_need_97 : decode cX6_need 97 = .ok (.iconst 1, 1) := by decide +kernel
theorem dX6_need_98 : decode cX6_need 98 = .ok (.bastore, 1) := by decide +kernel
theorem dX6_need_99 : decode cX6_need 99 = .ok (.aload_n 0, 1) := by decide +kernel
theorem dX6_need_100 : decode cX6_need 100 = .ok (.getfield 47, 3) := by decide +kernel
theorem dX6_need_103 : decode cX6_need 103 = .ok (.iconst 4, 1) := by decide +kernel
theorem dX6_need_104 : decode cX6_need 104 = .ok (.iload 5, 2) := by decide +kernel
theorem dX6_need_106 : decode cX6_need 106 = .ok (.iload_n 2, 1) := by decide +kernel
theorem dX6_need_107 : decode cX6_need 107 = .ok (.invokestatic 68, 3) := by decide +kernel
theorem dX6_need_110 : decode cX6_need 110 = .ok (.imul, 1) := by decide +kernel
theorem dX6_need_111 : decode cX6_need 111 = .ok (.iload_n 3, 1) := by decide +kernel
theorem dX6_need_112 : decode cX6_need 112 = .ok (.iadd, 1) := by decide +kernel
theorem dX6_need_113 : decode cX6_need 113 = .ok (.iconst 1, 1) := by decide +kernel
theorem dX6_need_114 : decode cX6_need 114 = .ok (.bastore, 1) := by decide +kernel
theorem dX6_need_115 : decode cX6_need 115 = .ok (.return_, 1) := by decide +kernel
theorem dX6_proof_0 : decode cX6_proof 0 = .ok (.aload_n 0, 1) := by decide +kernel
theorem dX6_proof_1 : decode cX6_proof 1 = .ok (.aload_n 0, 1) := by decide +kernel
theorem dX6_proof_2 : decode cX6_proof 2 = .ok (.iload_n 1, 1) := by decide +kernel
theorem dX6_proof_3 : decode cX6_proof 3 = .ok (.iload_n 2, 1) := by decide +kernel
theorem dX6_proof_4 : decode cX6_proof 4 = .ok (.iload_n 3, 1) := by decide +kernel
theorem dX6_proof_5 : decode cX6_proof 5 = .ok (.invokevirtual 145, 3) := by decide +kernel
theorem dX6_proof_8 : decode cX6_proof 8 = .ok (.putfield 53, 3) := by decide +kernel
theorem dX6_proof_11 : decode cX6_proof 11 = .ok (.aload_n 0, 1) := by decide +kernel
theorem dX6_proof_12 : decode cX6_proof 12 = .ok (.getfield 53, 3) := by decide +kernel
theorem dX6_proof_15 : decode cX6_proof 15 = .ok (.ifCond .le 5, 3) := by decide +kernel
theorem dX6_proof_18 : decode cX6_proof 18 = .ok (.iconst 0, 1) := by decide +kernel
theorem dX6_proof_19 : decode cX6_proof 19 = .ok (.ireturn, 1) := by decide +kernel
theorem dX6_proof_20 : decode cX6_proof 20 = .ok (.aload_n 0, 1) := by decide +kernel
theorem dX6_proof_21 : decode cX6_proof 21 = .ok (.aload_n 0, 1) := by decide +kernel
theorem dX6_proof_22 : decode cX6_proof 22 = .ok (.invokevirtual 125, 3) := by decide +kernel
theorem dX6_proof_25 : decode cX6_proof 25 = .ok (.invokevirtual 128, 3) := by decide +kernel
theorem dX6_proof_28 : decode cX6_proof 28 = .ok (.aload_n 0, 1) := by decide +kernel
theorem dX6_proof_29 : decode cX6_proof 29 = .ok (.iload_n 1, 1) := by decide +kernel
theorem dX6_proof_30 : decode cX6_proof 30 = .ok (.iload_n 2, 1) := by decide +kernel
theorem dX6_proof_31 : decode cX6_proof 31 = .ok (.iload_n 3, 1) := by decide +kernel
theorem dX6_proof_32 : decode cX6_proof 32 = .ok (.invokevirtual 80, 3) := by decide +kernel
theorem dX6_proof_35 : decode cX6_proof 35 = .ok (.ifCond .ne 6, 3) := by decide +kernel
theorem dX6_proof_38 : decode cX6_proof 38 = .ok (.bipush (-9), 2) := by decide +kernel
theorem dX6_proof_40 : decode cX6_proof 40 = .ok (.ireturn, 1) := by decide +kernel
theorem dX6_proof_41 : decode cX6_proof 41 = .ok (.iconst 0, 1) := by decide +kernel
theorem dX6_proof_42 : decode cX6_proof 42 = .ok (.istore 4, 2) := by decide +kernel
theorem dX6_proof_44 : decode cX6_proof 44 = .ok (.iload 4, 2) := by decide +kernel
theorem dX6_proof_46 : decode cX6_proof 46 = .ok (.sipush 196, 3) := by decide +kernel
theorem dX6_proof_49 : decode cX6_proof 49 = .ok (.if_icmp .ge 17, 3) := by decide +kernel
theorem dX6_proof_52 : decode cX6_proof 52 = .ok (.aload_n 0, 1) := by decide +kernel
theorem dX6_proof_53 : decode cX6_proof 53 = .ok (.getfield 47, 3) := by decide +kernel
theorem dX6_proof_56 : decode cX6_proof 56 = .ok (.iload 4, 2) := by decide +kernel
theorem dX6_proof_58 : decode cX6_proof 58 = .ok (.iconst 0, 1) := by decide +kernel
theorem dX6_proof_59 : decode cX6_proof 59 = .ok (.bastore, 1) := by decide +kernel
theorem dX6_proof_60 : decode cX6_proof 60 = .ok (.iinc 4 1, 3) := by decide +kernel
theorem dX6_proof_63 : decode cX6_proof 63 = .ok (.goto (-19), 3) := by decide +kernel
theorem dX6_proof_66 : decode cX6_proof 66 = .ok (.aload_n 0, 1) := by decide +kernel
theorem dX6_proof_67 : decode cX6_proof 67 = .ok (.getfield 47, 3) := by decide +kernel
theorem dX6_proof_70 : decode cX6_proof 70 = .ok (.iconst 4, 1) := by decide +kernel
theorem dX6_proof_71 : decode cX6_proof 71 = .ok (.iload_n 1, 1) := by decide +kernel
theorem dX6_proof_72 : decode cX6_proof 72 = .ok (.iload_n 3, 1) := by decide +kernel
theorem dX6_proof_73 : decode cX6_proof 73 = .ok (.invokestatic 68, 3) := by decide +kernel
theorem dX6_proof_76 : decode cX6_proof 76 = .ok (.imul, 1) := by decide +kernel
theorem dX6_proof_77 : decode cX6_proof 77 = .ok (.iload_n 2, 1) := by decide +kernel
theorem dX6_proof_78 : decode cX6_proof 78 = .ok (.iadd, 1) := by decide +kernel
theorem dX6_proof_79 : decode cX6_proof 79 = .ok (.iconst 1, 1) := by decide +kernel
theorem dX6_proof_80 : decode cX6_proof 80 = .ok (.bastore, 1) := by decide +kernel
theorem dX6_proof_81 : decode cX6_proof 81 = .ok (.aload_n 0, 1) := by decide +kernel
theorem dX6_proof_82 : decode cX6_proof 82 = .ok (.getfield 87, 3) := by decide +kernel
theorem dX6_proof_85 : decode cX6_proof 85 = .ok (.istore 4, 2) := by decide +kernel
theorem dX6_proof_87 : decode cX6_proof 87 = .ok (.iload 4, 2) := by decide +kernel
theorem dX6_proof_89 : decode cX6_proof 89 = .ok (.ifCond .le 70, 3) := by decide +kernel
theorem dX6_proof_92 : decode cX6_proof 92 = .ok (.iconst 0, 1) := by decide +kernel
theorem dX6_proof_93 : decode cX6_proof 93 = .ok (.istore 5, 2) := by decide +kernel
theorem dX6_proof_95 : decode cX6_proof 95 = .ok (.iload 5, 2) := by decide +kernel
theorem dX6_proof_97 : decode cX6_proof 97 = .ok (.sipush 196, 3) := by decide +kernel
theorem dX6_proof_100 : decode cX6_proof 100 = .ok (.if_icmp .ge 53, 3) := by decide +kernel
theorem dX6_proof_103 : decode cX6_proof 103 = .ok (.aload_n 0, 1) := by decide +kernel
theorem dX6_proof_104 : decode cX6_proof 104 = .ok (.getfield 47, 3) := by decide +kernel
theorem dX6_proof_107 : decode cX6_proof 107 = .ok (.iload 5, 2) := by decide +kernel
theorem dX6_proof_109 : decode cX6_proof 109 = .ok (.baload, 1) := by decide +kernel
theorem dX6_proof_110 : decode cX6_proof 110 = .ok (.ifCond .eq 37, 3) := by decide +kernel
theorem dX6_proof_113 : decode cX6_proof 113 = .ok (.aload_n 0, 1) := by decide +kernel
theorem dX6_proof_114 : decode cX6_proof 114 = .ok (.getfield 35, 3) := by decide +kernel
theorem dX6_proof_117 : decode cX6_proof 117 = .ok (.iload 5, 2) := by decide +kernel
theorem dX6_proof_119 : decode cX6_proof 119 = .ok (.iaload, 1) := by decide +kernel
theorem dX6_proof_120 : decode cX6_proof 120 = .ok (.iload 4, 2) := by decide +kernel
theorem dX6_proof_122 : decode cX6_proof 122 = .ok (.if_icmp .ne 25, 3) := by decide +kernel
theorem dX6_proof_125 : decode cX6_proof 125 = .ok (.aload_n 0, 1) := by decide +kernel
theorem dX6_proof_126 : decode cX6_proof 126 = .ok (.iload 5, 2) := by decide +kernel
theorem dX6_proof_128 : decode cX6_proof 128 = .ok (.iconst 4, 1) := by decide +kernel
theorem dX6_proof_129 : decode cX6_proof 129 = .ok (.idiv, 1) := by decide +kernel
theorem dX6_proof_130 : decode cX6_proof 130 = .ok (.bipush 7, 2) := by decide +kernel
theorem dX6_proof_132 : decode cX6_proof 132 = .ok (.idiv, 1) := by decide +kernel
theorem dX6_proof_133 : decode cX6_proof 133 = .ok (.iload 5, 2) := by decide +kernel
theorem dX6_proof_135 : decode cX6_proof 135 = .ok (.iconst 4, 1) := by decide +kernel
theorem dX6_proof_136 : decode cX6_proof 136 = .ok (.idiv, 1) := by decide +kernel
theorem dX6_proof_137 : decode cX6_proof 137 = .ok (.bipush 7, 2) := by decide +kernel
theorem dX6_proof_139 : decode cX6_proof 139 = .ok (.irem, 1) := by decide +kernel
theorem dX6_proof_140 : decode cX6_proof 140 = .ok (.iload 5, 2) := by decide +kernel
theorem dX6_proof_142 : decode cX6_proof 142 = .ok (.iconst 4, 1) := by decide +kernel
theorem dX6_proof_143 : decode cX6_proof 143 = .ok (.irem, 1) := by decide +kernel
theorem dX6_proof_144 : decode cX6_proof 144 = .ok (.invokevirtual 149, 3) := by decide +kernel
theorem dX6_proof_147 : decode cX6_proof 147 = .ok (.iinc 5 1, 3) := by decide +kernel
theorem dX6_proof_150 : decode cX6_proof 150 = .ok (.goto (-55), 3) := by decide +kernel
theorem dX6_proof_153 : decode cX6_proof 153 = .ok (.iinc 4 (-1), 3) := by decide +kernel
theorem dX6_proof_156 : decode cX6_proof 156 = .ok (.goto (-69), 3) := by decide +kernel
theorem dX6_proof_159 : decode cX6_proof 159 = .ok (.iconst 0, 1) := by decide +kernel
theorem dX6_proof_160 : decode cX6_proof 160 = .ok (.istore 4, 2) := by decide +kernel
theorem dX6_proof_162 : decode cX6_proof 162 = .ok (.iconst 0, 1) := by decide +kernel
theorem dX6_proof_163 : decode cX6_proof 163 = .ok (.istore 5, 2) := by decide +kernel
theorem dX6_proof_165 : decode cX6_proof 165 = .ok (.iload 5, 2) := by decide +kernel
theorem dX6_proof_167 : decode cX6_proof 167 = .ok (.sipush 196, 3) := by decide +kernel
theorem dX6_proof_170 : decode cX6_proof 170 = .ok (.if_icmp .ge 41, 3) := by decide +kernel
theorem dX6_proof_173 : decode cX6_proof 173 = .ok (.iload 4, 2) := by decide +kernel
theorem dX6_proof_175 : decode cX6_proof 175 = .ok (.aload_n 0, 1) := by decide +kernel
theorem dX6_proof_176 : decode cX6_proof 176 = .ok (.getfield 47, 3) := by decide +kernel
theorem dX6_proof_179 : decode cX6_proof 179 = .ok (.iload 5, 2) := by decide +kernel
theorem dX6_proof_181 : decode cX6_proof 181 = .ok (.baload, 1) := by decide +kernel
theorem dX6_proof_182 : decode cX6_proof 182 = .ok (.ifCond .eq 19, 3) := by decide +kernel
theorem dX6_proof_185 : decode cX6_proof 185 = .ok (.aload_n 0, 1) := by decide +kernel
theorem dX6_proof_186 : decode cX6_proof 186 = .ok (.getfield 38, 3) := by decide +kernel
theorem dX6_proof_189 : decode cX6_proof 189 = .ok (.iload 5, 2) := by decide +kernel
theorem dX6_proof_191 : decode cX6_proof 191 = .ok (.iaload, 1) := by decide +kernel
theorem dX6_proof_192 : decode cX6_proof 192 = .ok (.bipush (-9), 2) := by decide +kernel
theorem dX6_proof_194 : decode cX6_proof 194 = .ok (.if_icmp .eq 7, 3) := by decide +kernel
theorem dX6_proof_197 : decode cX6_proof 197 = .ok (.iconst 1, 1) := by decide +kernel
theorem dX6_proof_198 : decode cX6_proof 198 = .ok (.goto 4, 3) := by decide +kernel
theorem dX6_proof_201 : decode cX6_proof 201 = .ok (.iconst 0, 1) := by decide +kernel
theorem dX6_proof_202 : decode cX6_proof 202 = .ok (.iadd, 1) := by decide +kernel
theorem dX6_proof_203 : decode cX6_proof 203 = .ok (.istore 4, 2) := by decide +kernel
theorem dX6_proof_205 : decode cX6_proof 205 = .ok (.iinc 5 1, 3) := by decide +kernel
theorem dX6_proof_208 : decode cX6_proof 208 = .ok (.goto (-43), 3) := by decide +kernel
theorem dX6_proof_211 : decode cX6_proof 211 = .ok (.iload 4, 2) := by decide +kernel
theorem dX6_proof_213 : decode cX6_proof 213 = .ok (.ireturn, 1) := by decide +kernel
theorem dX6_addThing_0 : decode cX6_addThing 0 = .ok (.aload_n 0, 1) := by decide +kernel
theorem dX6_addThing_1 : decode cX6_addThing 1 = .ok (.aload_n 0, 1) := by decide +kernel
theorem dX6_addThing_2 : decode cX6_addThing 2 = .ok (.getfield 7, 3) := by decide +kernel
theorem dX6_addThing_5 : decode cX6_addThing 5 = .ok (.iconst 0, 1) := by decide +kernel
theorem dX6_addThing_6 : decode cX6_addThing 6 = .ok (.iaload, 1) := by decide +kernel
theorem dX6_addThing_7 : decode cX6_addThing 7 = .ok (.bipush 7, 2) := by decide +kernel
theorem dX6_addThing_9 : decode cX6_addThing 9 = .ok (.if_icmp .ne 7, 3) := by decide +kernel
theorem dX6_addThing_12 : decode cX6_addThing 12 = .ok (.iconst 1, 1) := by decide +kernel
theorem dX6_addThing_13 : decode cX6_addThing 13 = .ok (.goto 4, 3) := by decide +kernel
theorem dX6_addThing_16 : decode cX6_addThing 16 = .ok (.iconst 0, 1) := by decide +kernel
theorem dX6_addThing_17 : decode cX6_addThing 17 = .ok (.putfield 53, 3) := by decide +kernel
theorem dX6_addThing_20 : decode cX6_addThing 20 = .ok (.aload_n 0, 1) := by decide +kernel
theorem dX6_addThing_21 : decode cX6_addThing 21 = .ok (.getfield 53, 3) := by decide +kernel
theorem dX6_addThing_24 : decode cX6_addThing 24 = .ok (.ifCond .le 5, 3) := by decide +kernel
theorem dX6_addThing_27 : decode cX6_addThing 27 = .ok (.iconst 0, 1) := by decide +kernel
theorem dX6_addThing_28 : decode cX6_addThing 28 = .ok (.ireturn, 1) := by decide +kernel
theorem dX6_addThing_29 : decode cX6_addThing 29 = .ok (.aload_n 0, 1) := by decide +kernel
theorem dX6_addThing_30 : decode cX6_addThing 30 = .ok (.invokevirtual 153, 3) := by decide +kernel
theorem dX6_addThing_33 : decode cX6_addThing 33 = .ok (.aload_n 0, 1) := by decide +kernel
theorem dX6_addThing_34 : decode cX6_addThing 34 = .ok (.getfield 7, 3) := by decide +kernel
theorem dX6_addThing_37 : decode cX6_addThing 37 = .ok (.iconst 1, 1) := by decide +kernel
theorem dX6_addThing_38 : decode cX6_addThing 38 = .ok (.aload_n 0, 1) := by decide +kernel
theorem dX6_addThing_39 : decode cX6_addThing 39 = .ok (.getfield 7, 3) := by decide +kernel
theorem dX6_addThing_42 : decode cX6_addThing 42 = .ok (.iconst 0, 1) := by decide +kernel
theorem dX6_addThing_43 : decode cX6_addThing 43 = .ok (.iaload, 1) := by decide +kernel
theorem dX6_addThing_44 : decode cX6_addThing 44 = .ok (.iadd, 1) := by decide +kernel
theorem dX6_addThing_45 : decode cX6_addThing 45 = .ok (.iload_n 1, 1) := by decide +kernel
theorem dX6_addThing_46 : decode cX6_addThing 46 = .ok (.ifCond .eq 7, 3) := by decide +kernel
theorem dX6_addThing_49 : decode cX6_addThing 49 = .ok (.iconst 1, 1) := by decide +kernel
theorem dX6_addThing_50 : decode cX6_addThing 50 = .ok (.goto 4, 3) := by decide +kernel
theorem dX6_addThing_53 : decode cX6_addThing 53 = .ok (.iconst 0, 1) := by decide +kernel
theorem dX6_addThing_54 : decode cX6_addThing 54 = .ok (.iastore, 1) := by decide +kernel
theorem dX6_addThing_55 : decode cX6_addThing 55 = .ok (.aload_n 0, 1) := by decide +kernel
theorem dX6_addThing_56 : decode cX6_addThing 56 = .ok (.getfield 7, 3) := by decide +kernel
theorem dX6_addThing_59 : decode cX6_addThing 59 = .ok (.iconst 0, 1) := by decide +kernel
theorem dX6_addThing_60 : decode cX6_addThing 60 = .ok (.dup2, 1) := by decide +kernel
theorem dX6_addThing_61 : decode cX6_addThing 61 = .ok (.iaload, 1) := by decide +kernel
theorem dX6_addThing_62 : decode cX6_addThing 62 = .ok (.iconst 1, 1) := by decide +kernel
theorem dX6_addThing_63 : decode cX6_addThing 63 = .ok (.iadd, 1) := by decide +kernel
theorem dX6_addThing_64 : decode cX6_addThing 64 = .ok (.iastore, 1) := by decide +kernel
theorem dX6_addThing_65 : decode cX6_addThing 65 = .ok (.aload_n 0, 1) := by decide +kernel
theorem dX6_addThing_66 : decode cX6_addThing 66 = .ok (.getfield 7, 3) := by decide +kernel
theorem dX6_addThing_69 : decode cX6_addThing 69 = .ok (.iconst 0, 1) := by decide +kernel
theorem dX6_addThing_70 : decode cX6_addThing 70 = .ok (.iaload, 1) := by decide +kernel
theorem dX6_addThing_71 : decode cX6_addThing 71 = .ok (.iconst 1, 1) := by decide +kernel
theorem dX6_addThing_72 : decode cX6_addThing 72 = .ok (.isub, 1) := by decide +kernel
theorem dX6_addThing_73 : decode cX6_addThing 73 = .ok (.ireturn, 1) := by decide +kernel
theorem dX6_drop_0 : decode cX6_drop 0 = .ok (.aload_n 0, 1) := by decide +kernel
theorem dX6_drop_1 : decode cX6_drop 1 = .ok (.invokevirtual 64, 3) := by decide +kernel
theorem dX6_drop_4 : decode cX6_drop 4 = .ok (.istore_n 2, 1) := by decide +kernel
theorem dX6_drop_5 : decode cX6_drop 5 = .ok (.aload_n 0, 1) := by decide +kernel
theorem dX6_drop_6 : decode cX6_drop 6 = .ok (.getfield 7, 3) := by decide +kernel
theorem dX6_drop_9 : decode cX6_drop 9 = .ok (.iconst 0, 1) := by decide +kernel
theorem dX6_drop_10 : decode cX6_drop 10 = .ok (.iaload, 1) := by decide +kernel
theorem dX6_drop_11 : decode cX6_drop 11 = .ok (.istore_n 3, 1) := by decide +kernel
theorem dX6_drop_12 : decode cX6_drop 12 = .ok (.iconst 0, 1) := by decide +kernel
theorem dX6_drop_13 : decode cX6_drop 13 = .ok (.istore 4, 2) := by decide +kernel
theorem dX6_drop_15 : decode cX6_drop 15 = .ok (.iload 4, 2) := by decide +kernel
theorem dX6_drop_17 : decode cX6_drop 17 = .ok (.bipush 7, 2) := by decide +kernel
theorem dX6_drop_19 : decode cX6_drop 19 = .ok (.if_icmp .ge 105, 3) := by decide +kernel
theorem dX6_drop_22 : decode cX6_drop 22 = .ok (.iconst 0, 1) := by decide +kernel
theorem dX6_drop_23 : decode cX6_drop 23 = .ok (.istore 5, 2) := by decide +kernel
theorem dX6_drop_25 : decode cX6_drop 25 = .ok (.iload 5, 2) := by decide +kernel
theorem dX6_drop_27 : decode cX6_drop 27 = .ok (.bipush 7, 2) := by decide +kernel
theorem dX6_drop_29 : decode cX6_drop 29 = .ok (.if_icmp .ge 89, 3) := by decide +kernel
theorem dX6_drop_32 : decode cX6_drop 32 = .ok (.iload 4, 2) := by decide +kernel
theorem dX6_drop_34 : decode cX6_drop 34 = .ok (.iload_n 1, 1) := by decide +kernel
theorem dX6_drop_35 : decode cX6_drop 35 = .ok (.if_icmp .ge 8, 3) := by decide +kernel
theorem dX6_drop_38 : decode cX6_drop 38 = .ok (.iload 4, 2) := by decide +kernel
theorem dX6_drop_40 : decode cX6_drop 40 = .ok (.goto 7, 3) := by decide +kernel
theorem dX6_drop_43 : decode cX6_drop 43 = .ok (.iload 4, 2) := by decide +kernel
theorem dX6_drop_45 : decode cX6_drop 45 = .ok (.iconst 1, 1) := by decide +kernel
theorem dX6_drop_46 : decode cX6_drop 46 = .ok (.iadd, 1) := by decide +kernel
theorem dX6_drop_47 : decode cX6_drop 47 = .ok (.istore 6, 2) := by decide +kernel
theorem dX6_drop_49 : decode cX6_drop 49 = .ok (.iload 5, 2) := by decide +kernel
theorem dX6_drop_51 : decode cX6_drop 51 = .ok (.iload_n 1, 1) := by decide +kernel
theorem dX6_drop_52 : decode cX6_drop 52 = .ok (.if_icmp .ge 8, 3) := by decide +kernel
theorem dX6_drop_55 : decode cX6_drop 55 = .ok (.iload 5, 2) := by decide +kernel
theorem dX6_drop_57 : decode cX6_drop 57 = .ok (.goto 7, 3) := by decide +kernel
theorem dX6_drop_60 : decode cX6_drop 60 = .ok (.iload 5, 2) := by decide +kernel
theorem dX6_drop_62 : decode cX6_drop 62 = .ok (.iconst 1, 1) := by decide +kernel
theorem dX6_drop_63 : decode cX6_drop 63 = .ok (.iadd, 1) := by decide +kernel
theorem dX6_drop_64 : decode cX6_drop 64 = .ok (.istore 7, 2) := by decide +kernel
theorem dX6_drop_66 : decode cX6_drop 66 = .ok (.aload_n 0, 1) := by decide +kernel
theorem dX6_drop_67 : decode cX6_drop 67 = .ok (.getfield 7, 3) := by decide +kernel
theorem dX6_drop_70 : decode cX6_drop 70 = .ok (.bipush 8, 2) := by decide +kernel
theorem dX6_drop_72 : decode cX6_drop 72 = .ok (.iload 4, 2) := by decide +kernel
theorem dX6_drop_74 : decode cX6_drop 74 = .ok (.iload 5, 2) := by decide +kernel
theorem dX6_drop_76 : decode cX6_drop 76 = .ok (.invokestatic 68, 3) := by decide +kernel
theorem dX6_drop_79 : decode cX6_drop 79 = .ok (.iadd, 1) := by decide +kernel
theorem dX6_drop_80 : decode cX6_drop 80 = .ok (.iload 6, 2) := by decide +kernel
theorem dX6_drop_82 : decode cX6_drop 82 = .ok (.iload_n 3, 1) := by decide +kernel
theorem dX6_drop_83 : decode cX6_drop 83 = .ok (.if_icmp .ge 27, 3) := by decide +kernel
theorem dX6_drop_86 : decode cX6_drop 86 = .ok (.iload 7, 2) := by decide +kernel
theorem dX6_drop_88 : decode cX6_drop 88 = .ok (.iload_n 3, 1) := by decide +kernel
theorem dX6_drop_89 : decode cX6_drop 89 = .ok (.if_icmp .ge 21, 3) := by decide +kernel
theorem dX6_drop_92 : decode cX6_drop 92 = .ok (.aload_n 0, 1) := by decide +kernel
theorem dX6_drop_93 : decode cX6_drop 93 = .ok (.getfield 7, 3) := by decide +kernel
theorem dX6_drop_96 : decode cX6_drop 96 = .ok (.bipush 8, 2) := by decide +kernel
theorem dX6_drop_98 : decode cX6_drop 98 = .ok (.iload 6, 2) := by decide +kernel
theorem dX6_drop_100 : decode cX6_drop 100 = .ok (.iload 7, 2) := by decide +kernel
theorem dX6_drop_102 : decode cX6_drop 102 = .ok (.invokestatic 68, 3) := by decide +kernel
theorem dX6_drop_105 : decode cX6_drop 105 = .ok (.iadd, 1) := by decide +kernel
theorem dX6_drop_106 : decode cX6_drop 106 = .ok (.iaload, 1) := by decide +kernel
theorem dX6_drop_107 : decode cX6_drop 107 = .ok (.goto 4, 3) := by decide +kernel
theorem dX6_drop_110 : decode cX6_drop 110 = .ok (.iconst 0, 1) := by decide +kernel
theorem dX6_drop_111 : decode cX6_drop 111 = .ok (.iastore, 1) := by decide +kernel
theorem dX6_drop_112 : decode cX6_drop 112 = .ok (.iinc 5 1, 3) := by decide +kernel
theorem dX6_drop_115 : decode cX6_drop 115 = .ok (.goto (-90), 3) := by decide +kernel
theorem dX6_drop_118 : decode cX6_drop 118 = .ok (.iinc 4 1, 3) := by decide +kernel
theorem dX6_drop_121 : decode cX6_drop 121 = .ok (.goto (-106), 3) := by decide +kernel
theorem dX6_drop_124 : decode cX6_drop 124 = .ok (.iload_n 1, 1) := by decide +kernel
theorem dX6_drop_125 : decode cX6_drop 125 = .ok (.istore 4, 2) := by decide +kernel
theorem dX6_drop_127 : decode cX6_drop 127 = .ok (.iload 4, 2) := by decide +kernel
theorem dX6_drop_129 : decode cX6_drop 129 = .ok (.iload_n 3, 1) := by decide +kernel
theorem dX6_drop_130 : decode cX6_drop 130 = .ok (.if_icmp .ge 41, 3) := by decide +kernel
theorem dX6_drop_133 : decode cX6_drop 133 = .ok (.aload_n 0, 1) := by decide +kernel
theorem dX6_drop_134 : decode cX6_drop 134 = .ok (.getfield 7, 3) := by decide +kernel
theorem dX6_drop_137 : decode cX6_drop 137 = .ok (.iconst 1, 1) := by decide +kernel
theorem dX6_drop_138 : decode cX6_drop 138 = .ok (.iload 4, 2) := by decide +kernel
theorem dX6_drop_140 : decode cX6_drop 140 = .ok (.iadd, 1) := by decide +kernel
theorem dX6_drop_141 : decode cX6_drop 141 = .ok (.iload 4, 2) := by decide +kernel
theorem dX6_drop_143 : decode cX6_drop 143 = .ok (.iconst 1, 1) := by decide +kernel
theorem dX6_drop_144 : decode cX6_drop 144 = .ok (.iadd, 1) := by decide +kernel
theorem dX6_drop_145 : decode cX6_drop 145 = .ok (.iload_n 3, 1) := by decide +kernel
theorem dX6_drop_146 : decode cX6_drop 146 = .ok (.if_icmp .ge 17, 3) := by decide +kernel
theorem dX6_drop_149 : decode cX6_drop 149 = .ok (.aload_n 0, 1) := by decide +kernel
theorem dX6_drop_150 : decode cX6_drop 150 = .ok (.getfield 7, 3) := by decide +kernel
theorem dX6_drop_153 : decode cX6_drop 153 = .ok (.iconst 1, 1) := by decide +kernel
theorem dX6_drop_154 : decode cX6_drop 154 = .ok (.iload 4, 2) := by decide +kernel
theorem dX6_drop_156 : decode cX6_drop 156 = .ok (.iadd, 1) := by decide +kernel
theorem dX6_drop_157 : decode cX6_drop 157 = .ok (.iconst 1, 1) := by decide +kernel
theorem dX6_drop_158 : decode cX6_drop 158 = .ok (.iadd, 1) := by decide +kernel
theorem dX6_drop_159 : decode cX6_drop 159 = .ok (.iaload, 1) := by decide +kernel
theorem dX6_drop_160 : decode cX6_drop 160 = .ok (.goto 4, 3) := by decide +kernel
theorem dX6_drop_163 : decode cX6_drop 163 = .ok (.iconst 0, 1) := by decide +kernel
theorem dX6_drop_164 : decode cX6_drop 164 = .ok (.iastore, 1) := by decide +kernel
theorem dX6_drop_165 : decode cX6_drop 165 = .ok (.iinc 4 1, 3) := by decide +kernel
theorem dX6_drop_168 : decode cX6_drop 168 = .ok (.goto (-41), 3) := by decide +kernel
theorem dX6_drop_171 : decode cX6_drop 171 = .ok (.aload_n 0, 1) := by decide +kernel
theorem dX6_drop_172 : decode cX6_drop 172 = .ok (.getfield 7, 3) := by decide +kernel
theorem dX6_drop_175 : decode cX6_drop 175 = .ok (.iconst 0, 1) := by decide +kernel
theorem dX6_drop_176 : decode cX6_drop 176 = .ok (.dup2, 1) := by decide +kernel
theorem dX6_drop_177 : decode cX6_drop 177 = .ok (.iaload, 1) := by decide +kernel
theorem dX6_drop_178 : decode cX6_drop 178 = .ok (.iconst 1, 1) := by decide +kernel
theorem dX6_drop_179 : decode cX6_drop 179 = .ok (.isub, 1) := by decide +kernel
theorem dX6_drop_180 : decode cX6_drop 180 = .ok (.iastore, 1) := by decide +kernel
theorem dX6_drop_181 : decode cX6_drop 181 = .ok (.iload_n 2, 1) := by decide +kernel
theorem dX6_drop_182 : decode cX6_drop 182 = .ok (.aload_n 0, 1) := by decide +kernel
theorem dX6_drop_183 : decode cX6_drop 183 = .ok (.invokevirtual 64, 3) := by decide +kernel
theorem dX6_drop_186 : decode cX6_drop 186 = .ok (.isub, 1) := by decide +kernel
theorem dX6_drop_187 : decode cX6_drop 187 = .ok (.ireturn, 1) := by decide +kernel
theorem dX6_removeThing_0 : decode cX6_removeThing 0 = .ok (.aload_n 0, 1) := by decide +kernel
theorem dX6_removeThing_1 : decode cX6_removeThing 1 = .ok (.aload_n 0, 1) := by decide +kernel
theorem dX6_removeThing_2 : decode cX6_removeThing 2 = .ok (.iload_n 1, 1) := by decide +kernel
theorem dX6_removeThing_3 : decode cX6_removeThing 3 = .ok (.invokevirtual 142, 3) := by decide +kernel
theorem dX6_removeThing_6 : decode cX6_removeThing 6 = .ok (.ifCond .eq 7, 3) := by decide +kernel
theorem dX6_removeThing_9 : decode cX6_removeThing 9 = .ok (.iconst 0, 1) := by decide +kernel
theorem dX6_removeThing_10 : decode cX6_removeThing 10 = .ok (.goto 4, 3) := by decide +kernel
theorem dX6_removeThing_13 : decode cX6_removeThing 13 = .ok (.iconst 1, 1) := by decide +kernel
theorem dX6_removeThing_14 : decode cX6_removeThing 14 = .ok (.putfield 53, 3) := by decide +kernel
theorem dX6_removeThing_17 : decode cX6_removeThing 17 = .ok (.aload_n 0, 1) := by decide +kernel
theorem dX6_removeThing_18 : decode cX6_removeThing 18 = .ok (.getfield 53, 3) := by decide +kernel
theorem dX6_removeThing_21 : decode cX6_removeThing 21 = .ok (.ifCond .le 5, 3) := by decide +kernel
theorem dX6_removeThing_24 : decode cX6_removeThing 24 = .ok (.iconst 0, 1) := by decide +kernel
theorem dX6_removeThing_25 : decode cX6_removeThing 25 = .ok (.ireturn, 1) := by decide +kernel
theorem dX6_removeThing_26 : decode cX6_removeThing 26 = .ok (.aload_n 0, 1) := by decide +kernel
theorem dX6_removeThing_27 : decode cX6_removeThing 27 = .ok (.invokevirtual 153, 3) := by decide +kernel
theorem dX6_removeThing_30 : decode cX6_removeThing 30 = .ok (.aload_n 0, 1) := by decide +kernel
theorem dX6_removeThing_31 : decode cX6_removeThing 31 = .ok (.iload_n 1, 1) := by decide +kernel
theorem dX6_removeThing_32 : decode cX6_removeThing 32 = .ok (.invokevirtual 156, 3) := by decide +kernel
theorem dX6_removeThing_35 : decode cX6_removeThing 35 = .ok (.ireturn, 1) := by decide +kernel
theorem dX6_whyNotWake_0 : decode cX6_whyNotWake 0 = .ok (.aload_n 0, 1) := by decide +kernel
theorem dX6_whyNotWake_1 : decode cX6_whyNotWake 1 = .ok (.iload_n 1, 1) := by decide +kernel
theorem dX6_whyNotWake_2 : decode cX6_whyNotWake 2 = .ok (.invokevirtual 142, 3) := by decide +kernel
theorem dX6_whyNotWake_5 : decode cX6_whyNotWake 5 = .ok (.ifCond .ne 7, 3) := by decide +kernel
theorem dX6_whyNotWake_8 : decode cX6_whyNotWake 8 = .ok (.iconst 1, 1) := by decide +kernel
theorem dX6_whyNotWake_9 : decode cX6_whyNotWake 9 = .ok (.goto 16, 3) := by decide +kernel
theorem dX6_whyNotWake_12 : decode cX6_whyNotWake 12 = .ok (.aload_n 0, 1) := by decide +kernel
theorem dX6_whyNotWake_13 : decode cX6_whyNotWake 13 = .ok (.iload_n 1, 1) := by decide +kernel
theorem dX6_whyNotWake_14 : decode cX6_whyNotWake 14 = .ok (.invokevirtual 97, 3) := by decide +kernel
theorem dX6_whyNotWake_17 : decode cX6_whyNotWake 17 = .ok (.ifCond .eq 7, 3) := by decide +kernel
theorem dX6_whyNotWake_20 : decode cX6_whyNotWake 20 = .ok (.iconst 0, 1) := by decide +kernel
theorem dX6_whyNotWake_21 : decode cX6_whyNotWake 21 = .ok (.goto 4, 3) := by decide +kernel
theorem dX6_whyNotWake_24 : decode cX6_whyNotWake 24 = .ok (.iconst 2, 1) := by decide +kernel
theorem dX6_whyNotWake_25 : decode cX6_whyNotWake 25 = .ok (.ireturn, 1) := by decide +kernel
theorem dX6_wake_0 : decode cX6_wake 0 = .ok (.aload_n 0, 1) := by decide +kernel
theorem dX6_wake_1 : decode cX6_wake 1 = .ok (.aload_n 0, 1) := by decide +kernel
theorem dX6_wake_2 : decode cX6_wake 2 = .ok (.iload_n 1, 1) := by decide +kernel
theorem dX6_wake_3 : decode cX6_wake 3 = .ok (.invokevirtual 159, 3) := by decide +kernel
theorem dX6_wake_6 : decode cX6_wake 6 = .ok (.putfield 53, 3) := by decide +kernel
theorem dX6_wake_9 : decode cX6_wake 9 = .ok (.aload_n 0, 1) := by decide +kernel
theorem dX6_wake_10 : decode cX6_wake 10 = .ok (.getfield 53, 3) := by decide +kernel
theorem dX6_wake_13 : decode cX6_wake 13 = .ok (.ifCond .le 5, 3) := by decide +kernel
theorem dX6_wake_16 : decode cX6_wake 16 = .ok (.iconst 0, 1) := by decide +kernel
theorem dX6_wake_17 : decode cX6_wake 17 = .ok (.ireturn, 1) := by decide +kernel
theorem dX6_wake_18 : decode cX6_wake 18 = .ok (.aload_n 0, 1) := by decide +kernel
theorem dX6_wake_19 : decode cX6_wake 19 = .ok (.invokevirtual 153, 3) := by decide +kernel
theorem dX6_wake_22 : decode cX6_wake 22 = .ok (.aload_n 0, 1) := by decide +kernel
theorem dX6_wake_23 : decode cX6_wake 23 = .ok (.getfield 7, 3) := by decide +kernel
theorem dX6_wake_26 : decode cX6_wake 26 = .ok (.iconst 1, 1) := by decide +kernel
theorem dX6_wake_27 : decode cX6_wake 27 = .ok (.iload_n 1, 1) := by decide +kernel
theorem dX6_wake_28 : decode cX6_wake 28 = .ok (.iadd, 1) := by decide +kernel
theorem dX6_wake_29 : decode cX6_wake 29 = .ok (.iload_n 2, 1) := by decide +kernel
theorem dX6_wake_30 : decode cX6_wake 30 = .ok (.ifCond .eq 7, 3) := by decide +kernel
theorem dX6_wake_33 : decode cX6_wake 33 = .ok (.iconst 1, 1) := by decide +kernel
theorem dX6_wake_34 : decode cX6_wake 34 = .ok (.goto 4, 3) := by decide +kernel
theorem dX6_wake_37 : decode cX6_wake 37 = .ok (.iconst 2, 1) := by decide +kernel
theorem dX6_wake_38 : decode cX6_wake 38 = .ok (.iastore, 1) := by decide +kernel
theorem dX6_wake_39 : decode cX6_wake 39 = .ok (.aload_n 0, 1) := by decide +kernel
theorem dX6_wake_40 : decode cX6_wake 40 = .ok (.aload_n 0, 1) := by decide +kernel
theorem dX6_wake_41 : decode cX6_wake 41 = .ok (.invokevirtual 125, 3) := by decide +kernel
theorem dX6_wake_44 : decode cX6_wake 44 = .ok (.invokevirtual 128, 3) := by decide +kernel
theorem dX6_wake_47 : decode cX6_wake 47 = .ok (.aload_n 0, 1) := by decide +kernel
theorem dX6_wake_48 : decode cX6_wake 48 = .ok (.invokevirtual 135, 3) := by decide +kernel
theorem dX6_wake_51 : decode cX6_wake 51 = .ok (.ireturn, 1) := by decide +kernel
theorem dX6_whyNotSet_0 : decode cX6_whyNotSet 0 = .ok (.aload_n 0, 1) := by decide +kernel
theorem dX6_whyNotSet_1 : decode cX6_whyNotSet 1 = .ok (.iload_n 1, 1) := by decide +kernel
theorem dX6_whyNotSet_2 : decode cX6_whyNotSet 2 = .ok (.iload_n 2, 1) := by decide +kernel
theorem dX6_whyNotSet_3 : decode cX6_whyNotSet 3 = .ok (.iload_n 3, 1) := by decide +kernel
theorem dX6_whyNotSet_4 : decode cX6_whyNotSet 4 = .ok (.invokevirtual 145, 3) := by decide +kernel
theorem dX6_whyNotSet_7 : decode cX6_whyNotSet 7 = .ok (.istore 5, 2) := by decide +kernel
theorem dX6_whyNotSet_9 : decode cX6_whyNotSet 9 = .ok (.iload 5, 2) := by decide +kernel
theorem dX6_whyNotSet_11 : decode cX6_whyNotSet 11 = .ok (.ifCond .le 8, 3) := by decide +kernel
theorem dX6_whyNotSet_14 : decode cX6_whyNotSet 14 = .ok (.iload 5, 2) := by decide +kernel
theorem dX6_whyNotSet_16 : decode cX6_whyNotSet 16 = .ok (.goto 32, 3) := by decide +kernel
theorem dX6_whyNotSet_19 : decode cX6_whyNotSet 19 = .ok (.iload 4, 2) := by decide +kernel
theorem dX6_whyNotSet_21 : decode cX6_whyNotSet 21 = .ok (.ifCond .eq 26, 3) := by decide +kernel
theorem dX6_whyNotSet_24 : decode cX6_whyNotSet 24 = .ok (.aload_n 0, 1) := by decide +kernel
theorem dX6_whyNotSet_25 : decode cX6_whyNotSet 25 = .ok (.iload_n 1, 1) := by decide +kernel
theorem dX6_whyNotSet_26 : decode cX6_whyNotSet 26 = .ok (.iload_n 2, 1) := by decide +kernel
theorem dX6_whyNotSet_27 : decode cX6_whyNotSet 27 = .ok (.iload_n 3, 1) := by decide +kernel
theorem dX6_whyNotSet_28 : decode cX6_whyNotSet 28 = .ok (.invokevirtual 94, 3) := by decide +kernel
theorem dX6_whyNotSet_31 : decode cX6_whyNotSet 31 = .ok (.ifCond .ne 16, 3) := by decide +kernel
theorem dX6_whyNotSet_34 : decode cX6_whyNotSet 34 = .ok (.aload_n 0, 1) := by decide +kernel
theorem dX6_whyNotSet_35 : decode cX6_whyNotSet 35 = .ok (.invokevirtual 64, 3) := by decide +kernel
theorem dX6_whyNotSet_38 : decode cX6_whyNotSet 38 = .ok (.bipush 30, 2) := by decide +kernel
theorem dX6_whyNotSet_40 : decode cX6_whyNotSet 40 = .ok (.if_icmp .ne 7, 3) := by decide +kernel
theorem dX6_whyNotSet_43 : decode cX6_whyNotSet 43 = .ok (.iconst 3, 1) := by decide +kernel
theorem dX6_whyNotSet_44 : decode cX6_whyNotSet 44 = .ok (.goto 4, 3) := by decide +kernel
theorem dX6_whyNotSet_47 : decode cX6_whyNotSet 47 = .ok (.iconst 0, 1) := by decide +kernel
theorem dX6_whyNotSet_48 : decode cX6_whyNotSet 48 = .ok (.ireturn, 1) := by decide +kernel
theorem dX6_put_0 : decode cX6_put 0 = .ok (.aload_n 0, 1) := by decide +kernel
theorem dX6_put_1 : decode cX6_put 1 = .ok (.getfield 7, 3) := by decide +kernel
theorem dX6_put_4 : decode cX6_put 4 = .ok (.bipush 8, 2) := by decide +kernel
theorem dX6_put_6 : decode cX6_put 6 = .ok (.iload_n 1, 1) := by decide +kernel
theorem dX6_put_7 : decode cX6_put 7 = .ok (.iload_n 3, 1) := by decide +kernel
theorem dX6_put_8 : decode cX6_put 8 = .ok (.invokestatic 68, 3) := by decide +kernel
theorem dX6_put_11 : decode cX6_put 11 = .ok (.iadd, 1) := by decide +kernel
theorem dX6_put_12 : decode cX6_put 12 = .ok (.iaload, 1) := by decide +kernel
theorem dX6_put_13 : decode cX6_put 13 = .ok (.istore 5, 2) := by decide +kernel
theorem dX6_put_15 : decode cX6_put 15 = .ok (.aload_n 0, 1) := by decide +kernel
theorem dX6_put_16 : decode cX6_put 16 = .ok (.getfield 7, 3) := by decide +kernel
theorem dX6_put_19 : decode cX6_put 19 = .ok (.bipush 8, 2) := by decide +kernel
theorem dX6_put_21 : decode cX6_put 21 = .ok (.iload_n 1, 1) := by decide +kernel
theorem dX6_put_22 : decode cX6_put 22 = .ok (.iload_n 3, 1) := by decide +kernel
theorem dX6_put_23 : decode cX6_put 23 = .ok (.invokestatic 68, 3) := by decide +kernel
theorem dX6_put_26 : decode cX6_put 26 = .ok (.iadd, 1) := by decide +kernel
theorem dX6_put_27 : decode cX6_put 27 = .ok (.iload 4, 2) := by decide +kernel
theorem dX6_put_29 : decode cX6_put 29 = .ok (.ifCond .eq 12, 3) := by decide +kernel
theorem dX6_put_32 : decode cX6_put 32 = .ok (.iload 5, 2) := by decide +kernel
theorem dX6_put_34 : decode cX6_put 34 = .ok (.iconst 1, 1) := by decide +kernel
theorem dX6_put_35 : decode cX6_put 35 = .ok (.iload_n 2, 1) := by decide +kernel
theorem dX6_put_36 : decode cX6_put 36 = .ok (.ishl, 1) := by decide +kernel
theorem dX6_put_37 : decode cX6_put 37 = .ok (.ior, 1) := by decide +kernel
theorem dX6_put_38 : decode cX6_put 38 = .ok (.goto 11, 3) := by decide +kernel
theorem dX6_put_41 : decode cX6_put 41 = .ok (.iload 5, 2) := by decide +kernel
theorem dX6_put_43 : decode cX6_put 43 = .ok (.iconst 1, 1) := by decide +kernel
theorem dX6_put_44 : decode cX6_put 44 = .ok (.iload_n 2, 1) := by decide +kernel
theorem dX6_put_45 : decode cX6_put 45 = .ok (.ishl, 1) := by decide +kernel
theorem dX6_put_46 : decode cX6_put 46 = .ok (.iconst (-1), 1) := by decide +kernel
theorem dX6_put_47 : decode cX6_put 47 = .ok (.ixor, 1) := by decide +kernel
theorem dX6_put_48 : decode cX6_put 48 = .ok (.iand, 1) := by decide +kernel
theorem dX6_put_49 : decode cX6_put 49 = .ok (.iastore, 1) := by decide +kernel
theorem dX6_put_50 : decode cX6_put 50 = .ok (.return_, 1) := by decide +kernel
theorem dX6_set_0 : decode cX6_set 0 = .ok (.aload_n 0, 1) := by decide +kernel
theorem dX6_set_1 : decode cX6_set 1 = .ok (.aload_n 0, 1) := by decide +kernel
theorem dX6_set_2 : decode cX6_set 2 = .ok (.iload_n 1, 1) := by decide +kernel
theorem dX6_set_3 : decode cX6_set 3 = .ok (.iload_n 2, 1) := by decide +kernel
theorem dX6_set_4 : decode cX6_set 4 = .ok (.iload_n 3, 1) := by decide +kernel
theorem dX6_set_5 : decode cX6_set 5 = .ok (.iload 4, 2) := by decide +kernel
theorem dX6_set_7 : decode cX6_set 7 = .ok (.invokevirtual 162, 3) := by decide +kernel
theorem dX6_set_10 : decode cX6_set 10 = .ok (.putfield 53, 3) := by decide +kernel
theorem dX6_set_13 : decode cX6_set 13 = .ok (.aload_n 0, 1) := by decide +kernel
theorem dX6_set_14 : decode cX6_set 14 = .ok (.getfield 53, 3) := by decide +kernel
theorem dX6_set_17 : decode cX6_set 17 = .ok (.ifCond .le 5, 3) := by decide +kernel
theorem dX6_set_20 : decode cX6_set 20 = .ok (.iconst 0, 1) := by decide +kernel
theorem dX6_set_21 : decode cX6_set 21 = .ok (.ireturn, 1) := by decide +kernel
theorem dX6_set_22 : decode cX6_set 22 = .ok (.aload_n 0, 1) := by decide +kernel
theorem dX6_set_23 : decode cX6_set 23 = .ok (.invokevirtual 153, 3) := by decide +kernel
theorem dX6_set_26 : decode cX6_set 26 = .ok (.aload_n 0, 1) := by decide +kernel
theorem dX6_set_27 : decode cX6_set 27 = .ok (.iload_n 1, 1) := by decide +kernel
theorem dX6_set_28 : decode cX6_set 28 = .ok (.iload_n 2, 1) := by decide +kernel
theorem dX6_set_29 : decode cX6_set 29 = .ok (.iload_n 3, 1) := by decide +kernel
theorem dX6_set_30 : decode cX6_set 30 = .ok (.invokevirtual 94, 3) := by decide +kernel
theorem dX6_set_33 : decode cX6_set 33 = .ok (.istore 5, 2) := by decide +kernel
theorem dX6_set_35 : decode cX6_set 35 = .ok (.aload_n 0, 1) := by decide +kernel
theorem dX6_set_36 : decode cX6_set 36 = .ok (.iload_n 1, 1) := by decide +kernel
theorem dX6_set_37 : decode cX6_set 37 = .ok (.iload_n 2, 1) := by decide +kernel
theorem dX6_set_38 : decode cX6_set 38 = .ok (.iload_n 3, 1) := by decide +kernel
theorem dX6_set_39 : decode cX6_set 39 = .ok (.iload 4, 2) := by decide +kernel
theorem dX6_set_41 : decode cX6_set 41 = .ok (.invokevirtual 166, 3) := by decide +kernel
theorem dX6_set_44 : decode cX6_set 44 = .ok (.iload 5, 2) := by decide +kernel
theorem dX6_set_46 : decode cX6_set 46 = .ok (.ireturn, 1) := by decide +kernel
theorem dX6_whyNotStep_0 : decode cX6_whyNotStep 0 = .ok (.aload_n 0, 1) := by decide +kernel
theorem dX6_whyNotStep_1 : decode cX6_whyNotStep 1 = .ok (.iload_n 1, 1) := by decide +kernel
theorem dX6_whyNotStep_2 : decode cX6_whyNotStep 2 = .ok (.invokevirtual 142, 3) := by decide +kernel
theorem dX6_whyNotStep_5 : decode cX6_whyNotStep 5 = .ok (.ifCond .eq 20, 3) := by decide +kernel
theorem dX6_whyNotStep_8 : decode cX6_whyNotStep 8 = .ok (.aload_n 0, 1) := by decide +kernel
theorem dX6_whyNotStep_9 : decode cX6_whyNotStep 9 = .ok (.iload_n 2, 1) := by decide +kernel
theorem dX6_whyNotStep_10 : decode cX6_whyNotStep 10 = .ok (.invokevirtual 142, 3) := by decide +kernel
theorem dX6_whyNotStep_13 : decode cX6_whyNotStep 13 = .ok (.ifCond .eq 12, 3) := by decide +kernel
theorem dX6_whyNotStep_16 : decode cX6_whyNotStep 16 = .ok (.aload_n 0, 1) := by decide +kernel
theorem dX6_whyNotStep_17 : decode cX6_whyNotStep 17 = .ok (.iload 4, 2) := by decide +kernel
theorem dX6_whyNotStep_19 : decode cX6_whyNotStep 19 = .ok (.invokevirtual 142, 3) := by decide +kernel
theorem dX6_whyNotStep_22 : decode cX6_whyNotStep 22 = .ok (.ifCond .ne 5, 3) := by decide +kernel
theorem dX6_whyNotStep_25 : decode cX6_whyNotStep 25 = .ok (.iconst 1, 1) := by decide +kernel
theorem dX6_whyNotStep_26 : decode cX6_whyNotStep 26 = .ok (.ireturn, 1) := by decide +kernel
theorem dX6_whyNotStep_27 : decode cX6_whyNotStep 27 = .ok (.iload_n 1, 1) := by decide +kernel
theorem dX6_whyNotStep_28 : decode cX6_whyNotStep 28 = .ok (.iload_n 2, 1) := by decide +kernel
theorem dX6_whyNotStep_29 : decode cX6_whyNotStep 29 = .ok (.if_icmp .eq 24, 3) := by decide +kernel
theorem dX6_whyNotStep_32 : decode cX6_whyNotStep 32 = .ok (.iload_n 1, 1) := by decide +kernel
theorem dX6_whyNotStep_33 : decode cX6_whyNotStep 33 = .ok (.iload 4, 2) := by decide +kernel
theorem dX6_whyNotStep_35 : decode cX6_whyNotStep 35 = .ok (.if_icmp .eq 18, 3) := by decide +kernel
theorem dX6_whyNotStep_38 : decode cX6_whyNotStep 38 = .ok (.iload_n 2, 1) := by decide +kernel
theorem dX6_whyNotStep_39 : decode cX6_whyNotStep 39 = .ok (.iload 4, 2) := by decide +kernel
theorem dX6_whyNotStep_41 : decode cX6_whyNotStep 41 = .ok (.if_icmp .eq 12, 3) := by decide +kernel
theorem dX6_whyNotStep_44 : decode cX6_whyNotStep 44 = .ok (.iload_n 3, 1) := by decide +kernel
theorem dX6_whyNotStep_45 : decode cX6_whyNotStep 45 = .ok (.iconst 0, 1) := by decide +kernel
theorem dX6_whyNotStep_46 : decode cX6_whyNotStep 46 = .ok (.iconst 3, 1) := by decide +kernel
theorem dX6_whyNotStep_47 : decode cX6_whyNotStep 47 = .ok (.invokestatic 60, 3) := by decide +kernel
theorem dX6_whyNotStep_50 : decode cX6_whyNotStep 50 = .ok (.ifCond .ne 7, 3) := by decide +kernel
theorem dX6_whyNotStep_53 : decode cX6_whyNotStep 53 = .ok (.iconst 2, 1) := by decide +kernel
theorem dX6_whyNotStep_54 : decode cX6_whyNotStep 54 = .ok (.goto 4, 3) := by decide +kernel
theorem dX6_whyNotStep_57 : decode cX6_whyNotStep 57 = .ok (.iconst 0, 1) := by decide +kernel
theorem dX6_whyNotStep_58 : decode cX6_whyNotStep 58 = .ok (.ireturn, 1) := by decide +kernel
theorem dX6_hinders_0 : decode cX6_hinders 0 = .ok (.aload_n 0, 1) := by decide +kernel
theorem dX6_hinders_1 : decode cX6_hinders 1 = .ok (.iload_n 2, 1) := by decide +kernel
theorem dX6_hinders_2 : decode cX6_hinders 2 = .ok (.invokevirtual 97, 3) := by decide +kernel
theorem dX6_hinders_5 : decode cX6_hinders 5 = .ok (.ifCond .ne 5, 3) := by decide +kernel
theorem dX6_hinders_8 : decode cX6_hinders 8 = .ok (.iconst 1, 1) := by decide +kernel
theorem dX6_hinders_9 : decode cX6_hinders 9 = .ok (.ireturn, 1) := by decide +kernel
theorem dX6_hinders_10 : decode cX6_hinders 10 = .ok (.aload_n 0, 1) := by decide +kernel
theorem dX6_hinders_11 : decode cX6_hinders 11 = .ok (.getfield 7, 3) := by decide +kernel
theorem dX6_hinders_14 : decode cX6_hinders 14 = .ok (.iconst 1, 1) := by decide +kernel
theorem dX6_hinders_15 : decode cX6_hinders 15 = .ok (.iload_n 2, 1) := by decide +kernel
theorem dX6_hinders_16 : decode cX6_hinders 16 = .ok (.iadd, 1) := by decide +kernel
theorem dX6_hinders_17 : decode cX6_hinders 17 = .ok (.iaload, 1) := by decide +kernel
theorem dX6_hinders_18 : decode cX6_hinders 18 = .ok (.iconst 2, 1) := by decide +kernel
theorem dX6_hinders_19 : decode cX6_hinders 19 = .ok (.if_icmp .ne 5, 3) := by decide +kernel
theorem dX6_hinders_22 : decode cX6_hinders 22 = .ok (.iconst 2, 1) := by decide +kernel
theorem dX6_hinders_23 : decode cX6_hinders 23 = .ok (.ireturn, 1) := by decide +kernel
theorem dX6_hinders_24 : decode cX6_hinders 24 = .ok (.aload_n 0, 1) := by decide +kernel
theorem dX6_hinders_25 : decode cX6_hinders 25 = .ok (.iload_n 2, 1) := by decide +kernel
theorem dX6_hinders_26 : decode cX6_hinders 26 = .ok (.iload_n 1, 1) := by decide +kernel
theorem dX6_hinders_27 : decode cX6_hinders 27 = .ok (.ifCond .eq 7, 3) := by decide +kernel
theorem dX6_hinders_30 : decode cX6_hinders 30 = .ok (.iconst 1, 1) := by decide +kernel
theorem dX6_hinders_31 : decode cX6_hinders 31 = .ok (.goto 4, 3) := by decide +kernel
theorem dX6_hinders_34 : decode cX6_hinders 34 = .ok (.iconst 0, 1) := by decide +kernel
theorem dX6_hinders_35 : decode cX6_hinders 35 = .ok (.iload_n 3, 1) := by decide +kernel
theorem dX6_hinders_36 : decode cX6_hinders 36 = .ok (.invokevirtual 94, 3) := by decide +kernel
theorem dX6_hinders_39 : decode cX6_hinders 39 = .ok (.ifCond .ne 5, 3) := by decide +kernel
theorem dX6_hinders_42 : decode cX6_hinders 42 = .ok (.iconst 3, 1) := by decide +kernel
theorem dX6_hinders_43 : decode cX6_hinders 43 = .ok (.ireturn, 1) := by decide +kernel
theorem dX6_hinders_44 : decode cX6_hinders 44 = .ok (.aload_n 0, 1) := by decide +kernel
theorem dX6_hinders_45 : decode cX6_hinders 45 = .ok (.iload_n 1, 1) := by decide +kernel
theorem dX6_hinders_46 : decode cX6_hinders 46 = .ok (.ifCond .eq 7, 3) := by decide +kernel
theorem dX6_hinders_49 : decode cX6_hinders 49 = .ok (.iload_n 2, 1) := by decide +kernel
theorem dX6_hinders_50 : decode cX6_hinders 50 = .ok (.goto 4, 3) := by decide +kernel
theorem dX6_hinders_53 : decode cX6_hinders 53 = .ok (.iload_n 3, 1) := by decide +kernel
theorem dX6_hinders_54 : decode cX6_hinders 54 = .ok (.iload 4, 2) := by decide +kernel
theorem dX6_hinders_56 : decode cX6_hinders 56 = .ok (.iload 5, 2) := by decide +kernel
theorem dX6_hinders_58 : decode cX6_hinders 58 = .ok (.invokevirtual 94, 3) := by decide +kernel
theorem dX6_hinders_61 : decode cX6_hinders 61 = .ok (.ifCond .eq 7, 3) := by decide +kernel
theorem dX6_hinders_64 : decode cX6_hinders 64 = .ok (.iconst 0, 1) := by decide +kernel
theorem dX6_hinders_65 : decode cX6_hinders 65 = .ok (.goto 4, 3) := by decide +kernel
theorem dX6_hinders_68 : decode cX6_hinders 68 = .ok (.iconst 4, 1) := by decide +kernel
theorem dX6_hinders_69 : decode cX6_hinders 69 = .ok (.ireturn, 1) := by decide +kernel
theorem dX6_whyNotDo_0 : decode cX6_whyNotDo 0 = .ok (.aload_n 0, 1) := by decide +kernel
theorem dX6_whyNotDo_1 : decode cX6_whyNotDo 1 = .ok (.iload_n 2, 1) := by decide +kernel
theorem dX6_whyNotDo_2 : decode cX6_whyNotDo 2 = .ok (.iload_n 3, 1) := by decide +kernel
theorem dX6_whyNotDo_3 : decode cX6_whyNotDo 3 = .ok (.iload 4, 2) := by decide +kernel
theorem dX6_whyNotDo_5 : decode cX6_whyNotDo 5 = .ok (.iload 5, 2) := by decide +kernel
theorem dX6_whyNotDo_7 : decode cX6_whyNotDo 7 = .ok (.invokevirtual 170, 3) := by decide +kernel
theorem dX6_whyNotDo_10 : decode cX6_whyNotDo 10 = .ok (.istore 6, 2) := by decide +kernel
theorem dX6_whyNotDo_12 : decode cX6_whyNotDo 12 = .ok (.iload 6, 2) := by decide +kernel
theorem dX6_whyNotDo_14 : decode cX6_whyNotDo 14 = .ok (.ifCond .le 6, 3) := by decide +kernel
theorem dX6_whyNotDo_17 : decode cX6_whyNotDo 17 = .ok (.iload 6, 2) := by decide +kernel
theorem dX6_whyNotDo_19 : decode cX6_whyNotDo 19 = .ok (.ireturn, 1) := by decide +kernel
theorem dX6_whyNotDo_20 : decode cX6_whyNotDo 20 = .ok (.aload_n 0, 1) := by decide +kernel
theorem dX6_whyNotDo_21 : decode cX6_whyNotDo 21 = .ok (.iload_n 1, 1) := by decide +kernel
theorem dX6_whyNotDo_22 : decode cX6_whyNotDo 22 = .ok (.ifCond .eq 7, 3) := by decide +kernel
theorem dX6_whyNotDo_25 : decode cX6_whyNotDo 25 = .ok (.iload_n 3, 1) := by decide +kernel
theorem dX6_whyNotDo_26 : decode cX6_whyNotDo 26 = .ok (.goto 4, 3) := by decide +kernel
theorem dX6_whyNotDo_29 : decode cX6_whyNotDo 29 = .ok (.iload_n 2, 1) := by decide +kernel
theorem dX6_whyNotDo_30 : decode cX6_whyNotDo 30 = .ok (.iload 4, 2) := by decide +kernel
theorem dX6_whyNotDo_32 : decode cX6_whyNotDo 32 = .ok (.iload 5, 2) := by decide +kernel
theorem dX6_whyNotDo_34 : decode cX6_whyNotDo 34 = .ok (.invokevirtual 94, 3) := by decide +kernel
theorem dX6_whyNotDo_37 : decode cX6_whyNotDo 37 = .ok (.istore 7, 2) := by decide +kernel
theorem dX6_whyNotDo_39 : decode cX6_whyNotDo 39 = .ok (.aload_n 0, 1) := by decide +kernel
theorem dX6_whyNotDo_40 : decode cX6_whyNotDo 40 = .ok (.iload_n 1, 1) := by decide +kernel
theorem dX6_whyNotDo_41 : decode cX6_whyNotDo 41 = .ok (.iload_n 2, 1) := by decide +kernel
theorem dX6_whyNotDo_42 : decode cX6_whyNotDo 42 = .ok (.iload_n 3, 1) := by decide +kernel
theorem dX6_whyNotDo_43 : decode cX6_whyNotDo 43 = .ok (.iload 4, 2) := by decide +kernel
theorem dX6_whyNotDo_45 : decode cX6_whyNotDo 45 = .ok (.iload 5, 2) := by decide +kernel
theorem dX6_whyNotDo_47 : decode cX6_whyNotDo 47 = .ok (.invokevirtual 173, 3) := by decide +kernel
theorem dX6_whyNotDo_50 : decode cX6_whyNotDo 50 = .ok (.ifCond .gt 17, 3) := by decide +kernel
theorem dX6_whyNotDo_53 : decode cX6_whyNotDo 53 = .ok (.iload 7, 2) := by decide +kernel
theorem dX6_whyNotDo_55 : decode cX6_whyNotDo 55 = .ok (.ifCond .ne 16, 3) := by decide +kernel
theorem dX6_whyNotDo_58 : decode cX6_whyNotDo 58 = .ok (.aload_n 0, 1) := by decide +kernel
theorem dX6_whyNotDo_59 : decode cX6_whyNotDo 59 = .ok (.invokevirtual 64, 3) := by decide +kernel
theorem dX6_whyNotDo_62 : decode cX6_whyNotDo 62 = .ok (.bipush 30, 2) := by decide +kernel
theorem dX6_whyNotDo_64 : decode cX6_whyNotDo 64 = .ok (.if_icmp .ne 7, 3) := by decide +kernel
theorem dX6_whyNotDo_67 : decode cX6_whyNotDo 67 = .ok (.iconst 3, 1) := by decide +kernel
theorem dX6_whyNotDo_68 : decode cX6_whyNotDo 68 = .ok (.goto 4, 3) := by decide +kernel
theorem dX6_whyNotDo_71 : decode cX6_whyNotDo 71 = .ok (.iconst 0, 1) := by decide +kernel
theorem dX6_whyNotDo_72 : decode cX6_whyNotDo 72 = .ok (.ireturn, 1) := by decide +kernel
theorem dX6_take_0 : decode cX6_take 0 = .ok (.aload_n 0, 1) := by decide +kernel
theorem dX6_take_1 : decode cX6_take 1 = .ok (.aload_n 0, 1) := by decide +kernel
theorem dX6_take_2 : decode cX6_take 2 = .ok (.iconst 0, 1) := by decide +kernel
theorem dX6_take_3 : decode cX6_take 3 = .ok (.iload_n 1, 1) := by decide +kernel
theorem dX6_take_4 : decode cX6_take 4 = .ok (.iload_n 2, 1) := by decide +kernel
theorem dX6_take_5 : decode cX6_take 5 = .ok (.iload_n 3, 1) := by decide +kernel
theorem dX6_take_6 : decode cX6_take 6 = .ok (.iload 4, 2) := by decide +kernel
theorem dX6_take_8 : decode cX6_take 8 = .ok (.invokevirtual 177, 3) := by decide +kernel
theorem dX6_take_11 : decode cX6_take 11 = .ok (.putfield 53, 3) := by decide +kernel
theorem dX6_take_14 : decode cX6_take 14 = .ok (.aload_n 0, 1) := by decide +kernel
theorem dX6_take_15 : decode cX6_take 15 = .ok (.getfield 53, 3) := by decide +kernel
theorem dX6_take_18 : decode cX6_take 18 = .ok (.ifCond .le 5, 3) := by decide +kernel
theorem dX6_take_21 : decode cX6_take 21 = .ok (.iconst 0, 1) := by decide +kernel
theorem dX6_take_22 : decode cX6_take 22 = .ok (.ireturn, 1) := by decide +kernel
theorem dX6_take_23 : decode cX6_take 23 = .ok (.aload_n 0, 1) := by decide +kernel
theorem dX6_take_24 : decode cX6_take 24 = .ok (.invokevirtual 153, 3) := by decide +kernel
theorem dX6_take_27 : decode cX6_take 27 = .ok (.aload_n 0, 1) := by decide +kernel
theorem dX6_take_28 : decode cX6_take 28 = .ok (.iload_n 1, 1) := by decide +kernel
theorem dX6_take_29 : decode cX6_take 29 = .ok (.iload_n 3, 1) := by decide +kernel
theorem dX6_take_30 : decode cX6_take 30 = .ok (.iload 4, 2) := by decide +kernel
theorem dX6_take_32 : decode cX6_take 32 = .ok (.iconst 1, 1) := by decide +kernel
theorem dX6_take_33 : decode cX6_take 33 = .ok (.invokevirtual 166, 3) := by decide +kernel
theorem dX6_take_36 : decode cX6_take 36 = .ok (.aload_n 0, 1) := by decide +kernel
theorem dX6_take_37 : decode cX6_take 37 = .ok (.invokevirtual 64, 3) := by decide +kernel
theorem dX6_take_40 : decode cX6_take 40 = .ok (.ireturn, 1) := by decide +kernel
theorem dX6_give_0 : decode cX6_give 0 = .ok (.aload_n 0, 1) := by decide +kernel
theorem dX6_give_1 : decode cX6_give 1 = .ok (.aload_n 0, 1) := by decide +kernel
theorem dX6_give_2 : decode cX6_give 2 = .ok (.iconst 1, 1) := by decide +kernel
theorem dX6_give_3 : decode cX6_give 3 = .ok (.iload_n 1, 1) := by decide +kernel
theorem dX6_give_4 : decode cX6_give 4 = .ok (.iload_n 2, 1) := by decide +kernel
theorem dX6_give_5 : decode cX6_give 5 = .ok (.iload_n 3, 1) := by decide +kernel
theorem dX6_give_6 : decode cX6_give 6 = .ok (.iload 4, 2) := by decide +kernel
theorem dX6_give_8 : decode cX6_give 8 = .ok (.invokevirtual 177, 3) := by decide +kernel
theorem dX6_give_11 : decode cX6_give 11 = .ok (.putfield 53, 3) := by decide +kernel
theorem dX6_give_14 : decode cX6_give 14 = .ok (.aload_n 0, 1) := by decide +kernel
theorem dX6_give_15 : decode cX6_give 15 = .ok (.getfield 53, 3) := by decide +kernel
theorem dX6_give_18 : decode cX6_give 18 = .ok (.ifCond .le 5, 3) := by decide +kernel
theorem dX6_give_21 : decode cX6_give 21 = .ok (.iconst 0, 1) := by decide +kernel
theorem dX6_give_22 : decode cX6_give 22 = .ok (.ireturn, 1) := by decide +kernel
theorem dX6_give_23 : decode cX6_give 23 = .ok (.aload_n 0, 1) := by decide +kernel
theorem dX6_give_24 : decode cX6_give 24 = .ok (.invokevirtual 153, 3) := by decide +kernel
theorem dX6_give_27 : decode cX6_give 27 = .ok (.aload_n 0, 1) := by decide +kernel
theorem dX6_give_28 : decode cX6_give 28 = .ok (.iload_n 2, 1) := by decide +kernel
theorem dX6_give_29 : decode cX6_give 29 = .ok (.iload_n 3, 1) := by decide +kernel
theorem dX6_give_30 : decode cX6_give 30 = .ok (.iload 4, 2) := by decide +kernel
theorem dX6_give_32 : decode cX6_give 32 = .ok (.iconst 1, 1) := by decide +kernel
theorem dX6_give_33 : decode cX6_give 33 = .ok (.invokevirtual 166, 3) := by decide +kernel
theorem dX6_give_36 : decode cX6_give 36 = .ok (.aload_n 0, 1) := by decide +kernel
theorem dX6_give_37 : decode cX6_give 37 = .ok (.invokevirtual 64, 3) := by decide +kernel
theorem dX6_give_40 : decode cX6_give 40 = .ok (.ireturn, 1) := by decide +kernel
theorem dX6_whyNot_0 : decode cX6_whyNot 0 = .ok (.aload_n 0, 1) := by decide +kernel
theorem dX6_whyNot_1 : decode cX6_whyNot 1 = .ok (.aload_n 0, 1) := by decide +kernel
theorem dX6_whyNot_2 : decode cX6_whyNot 2 = .ok (.iload_n 2, 1) := by decide +kernel
theorem dX6_whyNot_3 : decode cX6_whyNot 3 = .ok (.iload_n 3, 1) := by decide +kernel
theorem dX6_whyNot_4 : decode cX6_whyNot 4 = .ok (.iload 4, 2) := by decide +kernel
theorem dX6_whyNot_6 : decode cX6_whyNot 6 = .ok (.iload 5, 2) := by decide +kernel
theorem dX6_whyNot_8 : decode cX6_whyNot 8 = .ok (.invokevirtual 170, 3) := by decide +kernel
theorem dX6_whyNot_11 : decode cX6_whyNot 11 = .ok (.putfield 53, 3) := by decide +kernel
theorem dX6_whyNot_14 : decode cX6_whyNot 14 = .ok (.aload_n 0, 1) := by decide +kernel
theorem dX6_whyNot_15 : decode cX6_whyNot 15 = .ok (.getfield 53, 3) := by decide +kernel
theorem dX6_whyNot_18 : decode cX6_whyNot 18 = .ok (.ifCond .le 7, 3) := by decide +kernel
theorem dX6_whyNot_21 : decode cX6_whyNot 21 = .ok (.iconst 0, 1) := by decide +kernel
theorem dX6_whyNot_22 : decode cX6_whyNot 22 = .ok (.goto 14, 3) := by decide +kernel
theorem dX6_whyNot_25 : decode cX6_whyNot 25 = .ok (.aload_n 0, 1) := by decide +kernel
theorem dX6_whyNot_26 : decode cX6_whyNot 26 = .ok (.iload_n 1, 1) := by decide +kernel
theorem dX6_whyNot_27 : decode cX6_whyNot 27 = .ok (.iload_n 2, 1) := by decide +kernel
theorem dX6_whyNot_28 : decode cX6_whyNot 28 = .ok (.iload_n 3, 1) := by decide +kernel
theorem dX6_whyNot_29 : decode cX6_whyNot 29 = .ok (.iload 4, 2) := by decide +kernel
theorem dX6_whyNot_31 : decode cX6_whyNot 31 = .ok (.iload 5, 2) := by decide +kernel
theorem dX6_whyNot_33 : decode cX6_whyNot 33 = .ok (.invokevirtual 173, 3) := by decide +kernel
theorem dX6_whyNot_36 : decode cX6_whyNot 36 = .ok (.ireturn, 1) := by decide +kernel
theorem dX6_needed_0 : decode cX6_needed 0 = .ok (.aload_n 0, 1) := by decide +kernel
theorem dX6_needed_1 : decode cX6_needed 1 = .ok (.aload_n 0, 1) := by decide +kernel
theorem dX6_needed_2 : decode cX6_needed 2 = .ok (.iload_n 1, 1) := by decide +kernel
theorem dX6_needed_3 : decode cX6_needed 3 = .ok (.iload_n 2, 1) := by decide +kernel
theorem dX6_needed_4 : decode cX6_needed 4 = .ok (.iload_n 3, 1) := by decide +kernel
theorem dX6_needed_5 : decode cX6_needed 5 = .ok (.invokevirtual 145, 3) := by decide +kernel
theorem dX6_needed_8 : decode cX6_needed 8 = .ok (.putfield 53, 3) := by decide +kernel
theorem dX6_needed_11 : decode cX6_needed 11 = .ok (.aload_n 0, 1) := by decide +kernel
theorem dX6_needed_12 : decode cX6_needed 12 = .ok (.getfield 53, 3) := by decide +kernel
theorem dX6_needed_15 : decode cX6_needed 15 = .ok (.ifCond .le 5, 3) := by decide +kernel
theorem dX6_needed_18 : decode cX6_needed 18 = .ok (.iconst 0, 1) := by decide +kernel
theorem dX6_needed_19 : decode cX6_needed 19 = .ok (.ireturn, 1) := by decide +kernel
theorem dX6_needed_20 : decode cX6_needed 20 = .ok (.aload_n 0, 1) := by decide +kernel
theorem dX6_needed_21 : decode cX6_needed 21 = .ok (.invokevirtual 125, 3) := by decide +kernel
theorem dX6_needed_24 : decode cX6_needed 24 = .ok (.istore 4, 2) := by decide +kernel
theorem dX6_needed_26 : decode cX6_needed 26 = .ok (.bipush (-9), 2) := by decide +kernel
theorem dX6_needed_28 : decode cX6_needed 28 = .ok (.istore 5, 2) := by decide +kernel
theorem dX6_needed_30 : decode cX6_needed 30 = .ok (.iconst 0, 1) := by decide +kernel
theorem dX6_needed_31 : decode cX6_needed 31 = .ok (.istore 6, 2) := by decide +kernel
theorem dX6_needed_33 : decode cX6_needed 33 = .ok (.iload 6, 2) := by decide +kernel
theorem dX6_needed_35 : decode cX6_needed 35 = .ok (.sipush 128, 3) := by decide +kernel
theorem dX6_needed_38 : decode cX6_needed 38 = .ok (.if_icmp .ge 64, 3) := by decide +kernel
theorem dX6_needed_41 : decode cX6_needed 41 = .ok (.iload 6, 2) := by decide +kernel
theorem dX6_needed_43 : decode cX6_needed 43 = .ok (.iload 4, 2) := by decide +kernel
theorem dX6_needed_45 : decode cX6_needed 45 = .ok (.iconst (-1), 1) := by decide +kernel
theorem dX6_needed_46 : decode cX6_needed 46 = .ok (.ixor, 1) := by decide +kernel
theorem dX6_needed_47 : decode cX6_needed 47 = .ok (.iand, 1) := by decide +kernel
theorem dX6_needed_48 : decode cX6_needed 48 = .ok (.ifCond .ne 48, 3) := by decide +kernel
theorem dX6_needed_51 : decode cX6_needed 51 = .ok (.iload 5, 2) := by decide +kernel
theorem dX6_needed_53 : decode cX6_needed 53 = .ok (.bipush (-9), 2) := by decide +kernel
theorem dX6_needed_55 : decode cX6_needed 55 = .ok (.if_icmp .eq 16, 3) := by decide +kernel
theorem dX6_needed_58 : decode cX6_needed 58 = .ok (.iload 6, 2) := by decide +kernel
theorem dX6_needed_60 : decode cX6_needed 60 = .ok (.invokestatic 72, 3) := by decide +kernel
theorem dX6_needed_63 : decode cX6_needed 63 = .ok (.iload 5, 2) := by decide +kernel
theorem dX6_needed_65 : decode cX6_needed 65 = .ok (.invokestatic 72, 3) := by decide +kernel
theorem dX6_needed_68 : decode cX6_needed 68 = .ok (.if_icmp .ge 28, 3) := by decide +kernel
theorem dX6_needed_71 : decode cX6_needed 71 = .ok (.aload_n 0, 1) := by decide +kernel
theorem dX6_needed_72 : decode cX6_needed 72 = .ok (.iload 6, 2) := by decide +kernel
theorem dX6_needed_74 : decode cX6_needed 74 = .ok (.invokevirtual 128, 3) := by decide +kernel
theorem dX6_needed_77 : decode cX6_needed 77 = .ok (.aload_n 0, 1) := by decide +kernel
theorem dX6_needed_78 : decode cX6_needed 78 = .ok (.iload_n 1, 1) := by decide +kernel
theorem dX6_needed_79 : decode cX6_needed 79 = .ok (.iload_n 2, 1) := by decide +kernel
theorem dX6_needed_80 : decode cX6_needed 80 = .ok (.iload_n 3, 1) := by decide +kernel
theorem dX6_needed_81 : decode cX6_needed 81 = .ok (.invokevirtual 80, 3) := by decide +kernel
theorem dX6_needed_84 : decode cX6_needed 84 = .ok (.ifCond .eq 8, 3) := by decide +kernel
theorem dX6_needed_87 : decode cX6_needed 87 = .ok (.iload 6, 2) := by decide +kernel
theorem dX6_needed_89 : decode cX6_needed 89 = .ok (.goto 5, 3) := by decide +kernel
theorem dX6_needed_92 : decode cX6_needed 92 = .ok (.iload 5, 2) := by decide +kernel
theorem dX6_needed_94 : decode cX6_needed 94 = .ok (.istore 5, 2) := by decide +kernel
theorem dX6_needed_96 : decode cX6_needed 96 = .ok (.iinc 6 1, 3) := by decide +kernel
theorem dX6_needed_99 : decode cX6_needed 99 = .ok (.goto (-66), 3) := by decide +kernel
theorem dX6_needed_102 : decode cX6_needed 102 = .ok (.iload 5, 2) := by decide +kernel
theorem dX6_needed_104 : decode cX6_needed 104 = .ok (.ireturn, 1) := by decide +kernel
theorem dX6_listRights_0 : decode cX6_listRights 0 = .ok (.iconst 0, 1) := by decide +kernel
theorem dX6_listRights_1 : decode cX6_listRights 1 = .ok (.istore_n 1, 1) := by decide +kernel
theorem dX6_listRights_2 : decode cX6_listRights 2 = .ok (.iconst 0, 1) := by decide +kernel
theorem dX6_listRights_3 : decode cX6_listRights 3 = .ok (.istore_n 2, 1) := by decide +kernel
theorem dX6_listRights_4 : decode cX6_listRights 4 = .ok (.iload_n 2, 1) := by decide +kernel
theorem dX6_listRights_5 : decode cX6_listRights 5 = .ok (.aload_n 0, 1) := by decide +kernel
theorem dX6_listRights_6 : decode cX6_listRights 6 = .ok (.getfield 7, 3) := by decide +kernel
theorem dX6_listRights_9 : decode cX6_listRights 9 = .ok (.iconst 0, 1) := by decide +kernel
theorem dX6_listRights_10 : decode cX6_listRights 10 = .ok (.iaload, 1) := by decide +kernel
theorem dX6_listRights_11 : decode cX6_listRights 11 = .ok (.if_icmp .ge 74, 3) := by decide +kernel
theorem dX6_listRights_14 : decode cX6_listRights 14 = .ok (.iconst 0, 1) := by decide +kernel
theorem dX6_listRights_15 : decode cX6_listRights 15 = .ok (.istore_n 3, 1) := by decide +kernel
theorem dX6_listRights_16 : decode cX6_listRights 16 = .ok (.iload_n 3, 1) := by decide +kernel
theorem dX6_listRights_17 : decode cX6_listRights 17 = .ok (.iconst 4, 1) := by decide +kernel
theorem dX6_listRights_18 : decode cX6_listRights 18 = .ok (.if_icmp .ge 61, 3) := by decide +kernel
theorem dX6_listRights_21 : decode cX6_listRights 21 = .ok (.iconst 0, 1) := by decide +kernel
theorem dX6_listRights_22 : decode cX6_listRights 22 = .ok (.istore 4, 2) := by decide +kernel
theorem dX6_listRights_24 : decode cX6_listRights 24 = .ok (.iload 4, 2) := by decide +kernel
theorem dX6_listRights_26 : decode cX6_listRights 26 = .ok (.aload_n 0, 1) := by decide +kernel
theorem dX6_listRights_27 : decode cX6_listRights 27 = .ok (.getfield 7, 3) := by decide +kernel
theorem dX6_listRights_30 : decode cX6_listRights 30 = .ok (.iconst 0, 1) := by decide +kernel
theorem dX6_listRights_31 : decode cX6_listRights 31 = .ok (.iaload, 1) := by decide +kernel
theorem dX6_listRights_32 : decode cX6_listRights 32 = .ok (.if_icmp .ge 41, 3) := by decide +kernel
theorem dX6_listRights_35 : decode cX6_listRights 35 = .ok (.aload_n 0, 1) := by decide +kernel
theorem dX6_listRights_36 : decode cX6_listRights 36 = .ok (.iload_n 2, 1) := by decide +kernel
theorem dX6_listRights_37 : decode cX6_listRights 37 = .ok (.iload_n 3, 1) := by decide +kernel
theorem dX6_listRights_38 : decode cX6_listRights 38 = .ok (.iload 4, 2) := by decide +kernel
theorem dX6_listRights_40 : decode cX6_listRights 40 = .ok (.invokevirtual 94, 3) := by decide +kernel
theorem dX6_listRights_43 : decode cX6_listRights 43 = .ok (.ifCond .eq 24, 3) := by decide +kernel
theorem dX6_listRights_46 : decode cX6_listRights 46 = .ok (.aload_n 0, 1) := by decide +kernel
theorem dX6_listRights_47 : decode cX6_listRights 47 = .ok (.getfield 50, 3) := by decide +kernel
theorem dX6_listRights_50 : decode cX6_listRights 50 = .ok (.iload_n 1, 1) := by decide +kernel
theorem dX6_listRights_51 : decode cX6_listRights 51 = .ok (.bipush 100, 2) := by decide +kernel
theorem dX6_listRights_53 : decode cX6_listRights 53 = .ok (.iload_n 2, 1) := by decide +kernel
theorem dX6_listRights_54 : decode cX6_listRights 54 = .ok (.imul, 1) := by decide +kernel
theorem dX6_listRights_55 : decode cX6_listRights 55 = .ok (.bipush 10, 2) := by decide +kernel
theorem dX6_listRights_57 : decode cX6_listRights 57 = .ok (.iload_n 3, 1) := by decide +kernel
theorem dX6_listRights_58 : decode cX6_listRights 58 = .ok (.imul, 1) := by decide +kernel
theorem dX6_listRights_59 : decode cX6_listRights 59 = .ok (.iadd, 1) := by decide +kernel
theorem dX6_listRights_60 : decode cX6_listRights 60 = .ok (.iload 4, 2) := by decide +kernel
theorem dX6_listRights_62 : decode cX6_listRights 62 = .ok (.iadd, 1) := by decide +kernel
theorem dX6_listRights_63 : decode cX6_listRights 63 = .ok (.iastore, 1) := by decide +kernel
theorem dX6_listRights_64 : decode cX6_listRights 64 = .ok (.iinc 1 1, 3) := by decide +kernel
theorem dX6_listRights_67 : decode cX6_listRights 67 = .ok (.iinc 4 1, 3) := by decide +kernel
theorem dX6_listRights_70 : decode cX6_listRights 70 = .ok (.goto (-46), 3) := by decide +kernel
theorem dX6_listRights_73 : decode cX6_listRights 73 = .ok (.iinc 3 1, 3) := by decide +kernel
theorem dX6_listRights_76 : decode cX6_listRights 76 = .ok (.goto (-60), 3) := by decide +kernel
theorem dX6_listRights_79 : decode cX6_listRights 79 = .ok (.iinc 2 1, 3) := by decide +kernel
theorem dX6_listRights_82 : decode cX6_listRights 82 = .ok (.goto (-78), 3) := by decide +kernel
theorem dX6_listRights_85 : decode cX6_listRights 85 = .ok (.iload_n 1, 1) := by decide +kernel
theorem dX6_listRights_86 : decode cX6_listRights 86 = .ok (.ireturn, 1) := by decide +kernel
theorem dX6_putNumber_0 : decode cX6_putNumber 0 = .ok (.aload_n 0, 1) := by decide +kernel
theorem dX6_putNumber_1 : decode cX6_putNumber 1 = .ok (.iload_n 1, 1) := by decide +kernel
theorem dX6_putNumber_2 : decode cX6_putNumber 2 = .ok (.bipush 100, 2) := by decide +kernel
theorem dX6_putNumber_4 : decode cX6_putNumber 4 = .ok (.idiv, 1) := by decide +kernel
theorem dX6_putNumber_5 : decode cX6_putNumber 5 = .ok (.iload_n 1, 1) := by decide +kernel
theorem dX6_putNumber_6 : decode cX6_putNumber 6 = .ok (.bipush 10, 2) := by decide +kernel
theorem dX6_putNumber_8 : decode cX6_putNumber 8 = .ok (.idiv, 1) := by decide +kernel
theorem dX6_putNumber_9 : decode cX6_putNumber 9 = .ok (.bipush 10, 2) := by decide +kernel
theorem dX6_putNumber_11 : decode cX6_putNumber 11 = .ok (.irem, 1) := by decide +kernel
theorem dX6_putNumber_12 : decode cX6_putNumber 12 = .ok (.iload_n 1, 1) := by decide +kernel
theorem dX6_putNumber_13 : decode cX6_putNumber 13 = .ok (.bipush 10, 2) := by decide +kernel
theorem dX6_putNumber_15 : decode cX6_putNumber 15 = .ok (.irem, 1) := by decide +kernel
theorem dX6_putNumber_16 : decode cX6_putNumber 16 = .ok (.iload_n 2, 1) := by decide +kernel
theorem dX6_putNumber_17 : decode cX6_putNumber 17 = .ok (.invokevirtual 166, 3) := by decide +kernel
theorem dX6_putNumber_20 : decode cX6_putNumber 20 = .ok (.return_, 1) := by decide +kernel
theorem dX6_endsWithout_0 : decode cX6_endsWithout 0 = .ok (.iload 4, 2) := by decide +kernel
theorem dX6_endsWithout_2 : decode cX6_endsWithout 2 = .ok (.bipush (-9), 2) := by decide +kernel
theorem dX6_endsWithout_4 : decode cX6_endsWithout 4 = .ok (.if_icmp .eq 10, 3) := by decide +kernel
theorem dX6_endsWithout_7 : decode cX6_endsWithout 7 = .ok (.aload_n 0, 1) := by decide +kernel
theorem dX6_endsWithout_8 : decode cX6_endsWithout 8 = .ok (.iload 4, 2) := by decide +kernel
theorem dX6_endsWithout_10 : decode cX6_endsWithout 10 = .ok (.iconst 0, 1) := by decide +kernel
theorem dX6_endsWithout_11 : decode cX6_endsWithout 11 = .ok (.invokevirtual 180, 3) := by decide +kernel
theorem dX6_endsWithout_14 : decode cX6_endsWithout 14 = .ok (.iload 5, 2) := by decide +kernel
theorem dX6_endsWithout_16 : decode cX6_endsWithout 16 = .ok (.bipush (-9), 2) := by decide +kernel
theorem dX6_endsWithout_18 : decode cX6_endsWithout 18 = .ok (.if_icmp .eq 10, 3) := by decide +kernel
theorem dX6_endsWithout_21 : decode cX6_endsWithout 21 = .ok (.aload_n 0, 1) := by decide +kernel
theorem dX6_endsWithout_22 : decode cX6_endsWithout 22 = .ok (.iload 5, 2) := by decide +kernel
theorem dX6_endsWithout_24 : decode cX6_endsWithout 24 = .ok (.iconst 0, 1) := by decide +kernel
theorem dX6_endsWithout_25 : decode cX6_endsWithout 25 = .ok (.invokevirtual 180, 3) := by decide +kernel
theorem dX6_endsWithout_28 : decode cX6_endsWithout 28 = .ok (.aload_n 0, 1) := by decide +kernel
theorem dX6_endsWithout_29 : decode cX6_endsWithout 29 = .ok (.aload_n 0, 1) := by decide +kernel
theorem dX6_endsWithout_30 : decode cX6_endsWithout 30 = .ok (.invokevirtual 125, 3) := by decide +kernel
theorem dX6_endsWithout_33 : decode cX6_endsWithout 33 = .ok (.invokevirtual 128, 3) := by decide +kernel
theorem dX6_endsWithout_36 : decode cX6_endsWithout 36 = .ok (.aload_n 0, 1) := by decide +kernel
theorem dX6_endsWithout_37 : decode cX6_endsWithout 37 = .ok (.iload_n 1, 1) := by decide +kernel
theorem dX6_endsWithout_38 : decode cX6_endsWithout 38 = .ok (.iload_n 2, 1) := by decide +kernel
theorem dX6_endsWithout_39 : decode cX6_endsWithout 39 = .ok (.iload_n 3, 1) := by decide +kernel
theorem dX6_endsWithout_40 : decode cX6_endsWithout 40 = .ok (.invokevirtual 80, 3) := by decide +kernel
theorem dX6_endsWithout_43 : decode cX6_endsWithout 43 = .ok (.istore 6, 2) := by decide +kernel
theorem dX6_endsWithout_45 : decode cX6_endsWithout 45 = .ok (.iload 4, 2) := by decide +kernel
theorem dX6_endsWithout_47 : decode cX6_endsWithout 47 = .ok (.bipush (-9), 2) := by decide +kernel
theorem dX6_endsWithout_49 : decode cX6_endsWithout 49 = .ok (.if_icmp .eq 10, 3) := by decide +kernel
theorem dX6_endsWithout_52 : decode cX6_endsWithout 52 = .ok (.aload_n 0, 1) := by decide +kernel
theorem dX6_endsWithout_53 : decode cX6_endsWithout 53 = .ok (.iload 4, 2) := by decide +kernel
theorem dX6_endsWithout_55 : decode cX6_endsWithout 55 = .ok (.iconst 1, 1) := by decide +kernel
theorem dX6_endsWithout_56 : decode cX6_endsWithout 56 = .ok (.invokevirtual 180, 3) := by decide +kernel
theorem dX6_endsWithout_59 : decode cX6_endsWithout 59 = .ok (.iload 5, 2) := by decide +kernel
theorem dX6_endsWithout_61 : decode cX6_endsWithout 61 = .ok (.bipush (-9), 2) := by decide +kernel
theorem dX6_endsWithout_63 : decode cX6_endsWithout 63 = .ok (.if_icmp .eq 10, 3) := by decide +kernel
theorem dX6_endsWithout_66 : decode cX6_endsWithout 66 = .ok (.aload_n 0, 1) := by decide +kernel
theorem dX6_endsWithout_67 : decode cX6_endsWithout 67 = .ok (.iload 5, 2) := by decide +kernel
theorem dX6_endsWithout_69 : decode cX6_endsWithout 69 = .ok (.iconst 1, 1) := by decide +kernel
theorem dX6_endsWithout_70 : decode cX6_endsWithout 70 = .ok (.invokevirtual 180, 3) := by decide +kernel
theorem dX6_endsWithout_73 : decode cX6_endsWithout 73 = .ok (.iload 6, 2) := by decide +kernel
theorem dX6_endsWithout_75 : decode cX6_endsWithout 75 = .ok (.ireturn, 1) := by decide +kernel
theorem dX6_cuts_0 : decode cX6_cuts 0 = .ok (.aload_n 0, 1) := by decide +kernel
theorem dX6_cuts_1 : decode cX6_cuts 1 = .ok (.bipush (-9), 2) := by decide +kernel
theorem dX6_cuts_3 : decode cX6_cuts 3 = .ok (.putfield 184, 3) := by decide +kernel
theorem dX6_cuts_6 : decode cX6_cuts 6 = .ok (.aload_n 0, 1) := by decide +kernel
theorem dX6_cuts_7 : decode cX6_cuts 7 = .ok (.bipush (-9), 2) := by decide +kernel
theorem dX6_cuts_9 : decode cX6_cuts 9 = .ok (.putfield 187, 3) := by decide +kernel
theorem dX6_cuts_12 : decode cX6_cuts 12 = .ok (.aload_n 0, 1) := by decide +kernel
theorem dX6_cuts_13 : decode cX6_cuts 13 = .ok (.iload_n 1, 1) := by decide +kernel
theorem dX6_cuts_14 : decode cX6_cuts 14 = .ok (.iload_n 2, 1) := by decide +kernel
theorem dX6_cuts_15 : decode cX6_cuts 15 = .ok (.iload_n 3, 1) := by decide +kernel
theorem dX6_cuts_16 : decode cX6_cuts 16 = .ok (.bipush (-9), 2) := by decide +kernel
theorem dX6_cuts_18 : decode cX6_cuts 18 = .ok (.bipush (-9), 2) := by decide +kernel
theorem dX6_cuts_20 : decode cX6_cuts 20 = .ok (.invokevirtual 190, 3) := by decide +kernel
theorem dX6_cuts_23 : decode cX6_cuts 23 = .ok (.ifCond .ne 5, 3) := by decide +kernel
theorem dX6_cuts_26 : decode cX6_cuts 26 = .ok (.iconst 0, 1) := by decide +kernel
theorem dX6_cuts_27 : decode cX6_cuts 27 = .ok (.ireturn, 1) := by decide +kernel
theorem dX6_cuts_28 : decode cX6_cuts 28 = .ok (.aload_n 0, 1) := by decide +kernel
theorem dX6_cuts_29 : decode cX6_cuts 29 = .ok (.invokevirtual 194, 3) := by decide +kernel
theorem dX6_cuts_32 : decode cX6_cuts 32 = .ok (.istore 4, 2) := by decide +kernel
theorem dX6_cuts_34 : decode cX6_cuts 34 = .ok (.iconst 0, 1) := by decide +kernel
theorem dX6_cuts_35 : decode cX6_cuts 35 = .ok (.istore 5, 2) := by decide +kernel
theorem dX6_cuts_37 : decode cX6_cuts 37 = .ok (.iload 5, 2) := by decide +kernel
theorem dX6_cuts_39 : decode cX6_cuts 39 = .ok (.iload 4, 2) := by decide +kernel
theorem dX6_cuts_41 : decode cX6_cuts 41 = .ok (.if_icmp .ge 41, 3) := by decide +kernel
theorem dX6_cuts_44 : decode cX6_cuts 44 = .ok (.aload_n 0, 1) := by decide +kernel
theorem dX6_cuts_45 : decode cX6_cuts 45 = .ok (.iload_n 1, 1) := by decide +kernel
theorem dX6_cuts_46 : decode cX6_cuts 46 = .ok (.iload_n 2, 1) := by decide +kernel
theorem dX6_cuts_47 : decode cX6_cuts 47 = .ok (.iload_n 3, 1) := by decide +kernel
theorem dX6_cuts_48 : decode cX6_cuts 48 = .ok (.aload_n 0, 1) := by decide +kernel
theorem dX6_cuts_49 : decode cX6_cuts 49 = .ok (.getfield 50, 3) := by decide +kernel
theorem dX6_cuts_52 : decode cX6_cuts 52 = .ok (.iload 5, 2) := by decide +kernel
theorem dX6_cuts_54 : decode cX6_cuts 54 = .ok (.iaload, 1) := by decide +kernel
theorem dX6_cuts_55 : decode cX6_cuts 55 = .ok (.bipush (-9), 2) := by decide +kernel
theorem dX6_cuts_57 : decode cX6_cuts 57 = .ok (.invokevirtual 190, 3) := by decide +kernel
theorem dX6_cuts_60 : decode cX6_cuts 60 = .ok (.ifCond .ne 16, 3) := by decide +kernel
theorem dX6_cuts_63 : decode cX6_cuts 63 = .ok (.aload_n 0, 1) := by decide +kernel
theorem dX6_cuts_64 : decode cX6_cuts 64 = .ok (.aload_n 0, 1) := by decide +kernel
theorem dX6_cuts_65 : decode cX6_cuts 65 = .ok (.getfield 50, 3) := by decide +kernel
theorem dX6_cuts_68 : decode cX6_cuts 68 = .ok (.iload 5, 2) := by decide +kernel
theorem dX6_cuts_70 : decode cX6_cuts 70 = .ok (.iaload, 1) := by decide +kernel
theorem dX6_cuts_71 : decode cX6_cuts 71 = .ok (.putfield 184, 3) := by decide +kernel
theorem dX6_cuts_74 : decode cX6_cuts 74 = .ok (.iconst 1, 1) := by decide +kernel
theorem dX6_cuts_75 : decode cX6_cuts 75 = .ok (.ireturn, 1) := by decide +kernel
theorem dX6_cuts_76 : decode cX6_cuts 76 = .ok (.iinc 5 1, 3) := by decide +kernel
theorem dX6_cuts_79 : decode cX6_cuts 79 = .ok (.goto (-42), 3) := by decide +kernel
theorem dX6_cuts_82 : decode cX6_cuts 82 = .ok (.iconst 0, 1) := by decide +kernel
theorem dX6_cuts_83 : decode cX6_cuts 83 = .ok (.istore 5, 2) := by decide +kernel
theorem dX6_cuts_85 : decode cX6_cuts 85 = .ok (.iload 5, 2) := by decide +kernel
theorem dX6_cuts_87 : decode cX6_cuts 87 = .ok (.iload 4, 2) := by decide +kernel
theorem dX6_cuts_89 : decode cX6_cuts 89 = .ok (.if_icmp .ge 76, 3) := by decide +kernel
theorem dX6_cuts_92 : decode cX6_cuts 92 = .ok (.iload 5, 2) := by decide +kernel
theorem dX6_cuts_94 : decode cX6_cuts 94 = .ok (.iconst 1, 1) := by decide +kernel
theorem dX6_cuts_95 : decode cX6_cuts 95 = .ok (.iadd, 1) := by decide +kernel
theorem dX6_cuts_96 : decode cX6_cuts 96 = .ok (.istore 6, 2) := by decide +kernel
theorem dX6_cuts_98 : decode cX6_cuts 98 = .ok (.iload 6, 2) := by decide +kernel
theorem dX6_cuts_100 : decode cX6_cuts 100 = .ok (.iload 4, 2) := by decide +kernel
theorem dX6_cuts_102 : decode cX6_cuts 102 = .ok (.if_icmp .ge 57, 3) := by decide +kernel
theorem dX6_cuts_105 : decode cX6_cuts 105 = .ok (.aload_n 0, 1) := by decide +kernel
theorem dX6_cuts_106 : decode cX6_cuts 106 = .ok (.iload_n 1, 1) := by decide +kernel
theorem dX6_cuts_107 : decode cX6_cuts 107 = .ok (.iload_n 2, 1) := by decide +kernel
theorem dX6_cuts_108 : decode cX6_cuts 108 = .ok (.iload_n 3, 1) := by decide +kernel
theorem dX6_cuts_109 : decode cX6_cuts 109 = .ok (.aload_n 0, 1) := by decide +kernel
theorem dX6_cuts_110 : decode cX6_cuts 110 = .ok (.getfield 50, 3) := by decide +kernel
theorem dX6_cuts_113 : decode cX6_cuts 113 = .ok (.iload 5, 2) := by decide +kernel
theorem dX6_cuts_115 : decode cX6_cuts 115 = .ok (.iaload, 1) := by decide +kernel
theorem dX6_cuts_116 : decode cX6_cuts 116 = .ok (.aload_n 0, 1) := by decide +kernel
theorem dX6_cuts_117 : decode cX6_cuts 117 = .ok (.getfield 50, 3) := by decide +kernel
theorem dX6_cuts_120 : decode cX6_cuts 120 = .ok (.iload 6, 2) := by decide +kernel
theorem dX6_cuts_122 : decode cX6_cuts 122 = .ok (.iaload, 1) := by decide +kernel
theorem dX6_cuts_123 : decode cX6_cuts 123 = .ok (.invokevirtual 190, 3) := by decide +kernel
theorem dX6_cuts_126 : decode cX6_cuts 126 = .ok (.ifCond .ne 27, 3) := by decide +kernel
theorem dX6_cuts_129 : decode cX6_cuts 129 = .ok (.aload_n 0, 1) := by decide +kernel
theorem dX6_cuts_130 : decode cX6_cuts 130 = .ok (.aload_n 0, 1) := by decide +kernel
theorem dX6_cuts_131 : decode cX6_cuts 131 = .ok (.getfield 50, 3) := by decide +kernel
theorem dX6_cuts_134 : decode cX6_cuts 134 = .ok (.iload 5, 2) := by decide +kernel
theorem dX6_cuts_136 : decode cX6_cuts 136 = .ok (.iaload, 1) := by decide +kernel
theorem dX6_cuts_137 : decode cX6_cuts 137 = .ok (.putfield 184, 3) := by decide +kernel
theorem dX6_cuts_140 : decode cX6_cuts 140 = .ok (.aload_n 0, 1) := by decide +kernel
theorem dX6_cuts_141 : decode cX6_cuts 141 = .ok (.aload_n 0, 1) := by decide +kernel
theorem dX6_cuts_142 : decode cX6_cuts 142 = .ok (.getfield 50, 3) := by decide +kernel
theorem dX6_cuts_145 : decode cX6_cuts 145 = .ok (.iload 6, 2) := by decide +kernel
theorem dX6_cuts_147 : decode cX6_cuts 147 = .ok (.iaload, 1) := by decide +kernel
theorem dX6_cuts_148 : decode cX6_cuts 148 = .ok (.putfield 187, 3) := by decide +kernel
theorem dX6_cuts_151 : decode cX6_cuts 151 = .ok (.iconst 2, 1) := by decide +kernel
theorem dX6_cuts_152 : decode cX6_cuts 152 = .ok (.ireturn, 1) := by decide +kernel
theorem dX6_cuts_153 : decode cX6_cuts 153 = .ok (.iinc 6 1, 3) := by decide +kernel
theorem dX6_cuts_156 : decode cX6_cuts 156 = .ok (.goto (-58), 3) := by decide +kernel
theorem dX6_cuts_159 : decode cX6_cuts 159 = .ok (.iinc 5 1, 3) := by decide +kernel
theorem dX6_cuts_162 : decode cX6_cuts 162 = .ok (.goto (-77), 3) := by decide +kernel
theorem dX6_cuts_165 : decode cX6_cuts 165 = .ok (.bipush (-9), 2) := by decide +kernel
theorem dX6_cuts_167 : decode cX6_cuts 167 = .ok (.ireturn, 1) := by decide +kernel
theorem dX6_cut_0 : decode cX6_cut 0 = .ok (.aload_n 0, 1) := by decide +kernel
theorem dX6_cut_1 : decode cX6_cut 1 = .ok (.aload_n 0, 1) := by decide +kernel
theorem dX6_cut_2 : decode cX6_cut 2 = .ok (.iload_n 1, 1) := by decide +kernel
theorem dX6_cut_3 : decode cX6_cut 3 = .ok (.iload_n 2, 1) := by decide +kernel
theorem dX6_cut_4 : decode cX6_cut 4 = .ok (.iload_n 3, 1) := by decide +kernel
theorem dX6_cut_5 : decode cX6_cut 5 = .ok (.invokevirtual 145, 3) := by decide +kernel
theorem dX6_cut_8 : decode cX6_cut 8 = .ok (.putfield 53, 3) := by decide +kernel
theorem dX6_cut_11 : decode cX6_cut 11 = .ok (.aload_n 0, 1) := by decide +kernel
theorem dX6_cut_12 : decode cX6_cut 12 = .ok (.getfield 53, 3) := by decide +kernel
theorem dX6_cut_15 : decode cX6_cut 15 = .ok (.ifCond .le 7, 3) := by decide +kernel
theorem dX6_cut_18 : decode cX6_cut 18 = .ok (.iconst 0, 1) := by decide +kernel
theorem dX6_cut_19 : decode cX6_cut 19 = .ok (.goto 10, 3) := by decide +kernel
theorem dX6_cut_22 : decode cX6_cut 22 = .ok (.aload_n 0, 1) := by decide +kernel
theorem dX6_cut_23 : decode cX6_cut 23 = .ok (.iload_n 1, 1) := by decide +kernel
theorem dX6_cut_24 : decode cX6_cut 24 = .ok (.iload_n 2, 1) := by decide +kernel
theorem dX6_cut_25 : decode cX6_cut 25 = .ok (.iload_n 3, 1) := by decide +kernel
theorem dX6_cut_26 : decode cX6_cut 26 = .ok (.invokevirtual 197, 3) := by decide +kernel
theorem dX6_cut_29 : decode cX6_cut 29 = .ok (.ireturn, 1) := by decide +kernel
theorem dX6_cutAt_0 : decode cX6_cutAt 0 = .ok (.aload_n 0, 1) := by decide +kernel
theorem dX6_cutAt_1 : decode cX6_cutAt 1 = .ok (.aload_n 0, 1) := by decide +kernel
theorem dX6_cutAt_2 : decode cX6_cutAt 2 = .ok (.iload_n 1, 1) := by decide +kernel
theorem dX6_cutAt_3 : decode cX6_cutAt 3 = .ok (.iload_n 2, 1) := by decide +kernel
theorem dX6_cutAt_4 : decode cX6_cutAt 4 = .ok (.iload_n 3, 1) := by decide +kernel
theorem dX6_cutAt_5 : decode cX6_cutAt 5 = .ok (.invokevirtual 145, 3) := by decide +kernel
theorem dX6_cutAt_8 : decode cX6_cutAt 8 = .ok (.putfield 53, 3) := by decide +kernel
theorem dX6_cutAt_11 : decode cX6_cutAt 11 = .ok (.aload_n 0, 1) := by decide +kernel
theorem dX6_cutAt_12 : decode cX6_cutAt 12 = .ok (.aload_n 0, 1) := by decide +kernel
theorem dX6_cutAt_13 : decode cX6_cutAt 13 = .ok (.getfield 53, 3) := by decide +kernel
theorem dX6_cutAt_16 : decode cX6_cutAt 16 = .ok (.ifCond .ne 17, 3) := by decide +kernel
theorem dX6_cutAt_19 : decode cX6_cutAt 19 = .ok (.iload 4, 2) := by decide +kernel
theorem dX6_cutAt_21 : decode cX6_cutAt 21 = .ok (.iconst 0, 1) := by decide +kernel
theorem dX6_cutAt_22 : decode cX6_cutAt 22 = .ok (.iconst 1, 1) := by decide +kernel
theorem dX6_cutAt_23 : decode cX6_cutAt 23 = .ok (.invokestatic 60, 3) := by decide +kernel
theorem dX6_cutAt_26 : decode cX6_cutAt 26 = .ok (.ifCond .ne 7, 3) := by decide +kernel
theorem dX6_cutAt_29 : decode cX6_cutAt 29 = .ok (.iconst 2, 1) := by decide +kernel
theorem dX6_cutAt_30 : decode cX6_cutAt 30 = .ok (.goto 7, 3) := by decide +kernel
theorem dX6_cutAt_33 : decode cX6_cutAt 33 = .ok (.aload_n 0, 1) := by decide +kernel
theorem dX6_cutAt_34 : decode cX6_cutAt 34 = .ok (.getfield 53, 3) := by decide +kernel
theorem dX6_cutAt_37 : decode cX6_cutAt 37 = .ok (.putfield 53, 3) := by decide +kernel
theorem dX6_cutAt_40 : decode cX6_cutAt 40 = .ok (.aload_n 0, 1) := by decide +kernel
theorem dX6_cutAt_41 : decode cX6_cutAt 41 = .ok (.getfield 53, 3) := by decide +kernel
theorem dX6_cutAt_44 : decode cX6_cutAt 44 = .ok (.ifCond .le 5, 3) := by decide +kernel
theorem dX6_cutAt_47 : decode cX6_cutAt 47 = .ok (.iconst 0, 1) := by decide +kernel
theorem dX6_cutAt_48 : decode cX6_cutAt 48 = .ok (.ireturn, 1) := by decide +kernel
theorem dX6_cutAt_49 : decode cX6_cutAt 49 = .ok (.aload_n 0, 1) := by decide +kernel
theorem dX6_cutAt_50 : decode cX6_cutAt 50 = .ok (.iload_n 1, 1) := by decide +kernel
theorem dX6_cutAt_51 : decode cX6_cutAt 51 = .ok (.iload_n 2, 1) := by decide +kernel
theorem dX6_cutAt_52 : decode cX6_cutAt 52 = .ok (.iload_n 3, 1) := by decide +kernel
theorem dX6_cutAt_53 : decode cX6_cutAt 53 = .ok (.invokevirtual 197, 3) := by decide +kernel
theorem dX6_cutAt_56 : decode cX6_cutAt 56 = .ok (.pop, 1) := by decide +kernel
theorem dX6_cutAt_57 : decode cX6_cutAt 57 = .ok (.iload 4, 2) := by decide +kernel
theorem dX6_cutAt_59 : decode cX6_cutAt 59 = .ok (.ifCond .ne 10, 3) := by decide +kernel
theorem dX6_cutAt_62 : decode cX6_cutAt 62 = .ok (.aload_n 0, 1) := by decide +kernel
theorem dX6_cutAt_63 : decode cX6_cutAt 63 = .ok (.getfield 184, 3) := by decide +kernel
theorem dX6_cutAt_66 : decode cX6_cutAt 66 = .ok (.goto 7, 3) := by decide +kernel
theorem dX6_cutAt_69 : decode cX6_cutAt 69 = .ok (.aload_n 0, 1) := by decide +kernel
theorem dX6_cutAt_70 : decode cX6_cutAt 70 = .ok (.getfield 187, 3) := by decide +kernel
theorem dX6_cutAt_73 : decode cX6_cutAt 73 = .ok (.ireturn, 1) := by decide +kernel
theorem dX6_sleeper_0 : decode cX6_sleeper 0 = .ok (.aload_n 0, 1) := by decide +kernel
theorem dX6_sleeper_1 : decode cX6_sleeper 1 = .ok (.iconst 0, 1) := by decide +kernel
theorem dX6_sleeper_2 : decode cX6_sleeper 2 = .ok (.putfield 53, 3) := by decide +kernel
theorem dX6_sleeper_5 : decode cX6_sleeper 5 = .ok (.aload_n 0, 1) := by decide +kernel
theorem dX6_sleeper_6 : decode cX6_sleeper 6 = .ok (.invokevirtual 125, 3) := by decide +kernel
theorem dX6_sleeper_9 : decode cX6_sleeper 9 = .ok (.istore_n 1, 1) := by decide +kernel
theorem dX6_sleeper_10 : decode cX6_sleeper 10 = .ok (.bipush (-9), 2) := by decide +kernel
theorem dX6_sleeper_12 : decode cX6_sleeper 12 = .ok (.istore_n 2, 1) := by decide +kernel
theorem dX6_sleeper_13 : decode cX6_sleeper 13 = .ok (.iconst 0, 1) := by decide +kernel
theorem dX6_sleeper_14 : decode cX6_sleeper 14 = .ok (.istore_n 3, 1) := by decide +kernel
theorem dX6_sleeper_15 : decode cX6_sleeper 15 = .ok (.iconst 0, 1) := by decide +kernel
theorem dX6_sleeper_16 : decode cX6_sleeper 16 = .ok (.istore 4, 2) := by decide +kernel
theorem dX6_sleeper_18 : decode cX6_sleeper 18 = .ok (.iload 4, 2) := by decide +kernel
theorem dX6_sleeper_20 : decode cX6_sleeper 20 = .ok (.aload_n 0, 1) := by decide +kernel
theorem dX6_sleeper_21 : decode cX6_sleeper 21 = .ok (.getfield 7, 3) := by decide +kernel
theorem dX6_sleeper_24 : decode cX6_sleeper 24 = .ok (.iconst 0, 1) := by decide +kernel
theorem dX6_sleeper_25 : decode cX6_sleeper 25 = .ok (.iaload, 1) := by decide +kernel
theorem dX6_sleeper_26 : decode cX6_sleeper 26 = .ok (.if_icmp .ge 54, 3) := by decide +kernel
theorem dX6_sleeper_29 : decode cX6_sleeper 29 = .ok (.iload_n 1, 1) := by decide +kernel
theorem dX6_sleeper_30 : decode cX6_sleeper 30 = .ok (.iload 4, 2) := by decide +kernel
theorem dX6_sleeper_32 : decode cX6_sleeper 32 = .ok (.invokestatic 76, 3) := by decide +kernel
theorem dX6_sleeper_35 : decode cX6_sleeper 35 = .ok (.ifCond .eq 39, 3) := by decide +kernel
theorem dX6_sleeper_38 : decode cX6_sleeper 38 = .ok (.aload_n 0, 1) := by decide +kernel
theorem dX6_sleeper_39 : decode cX6_sleeper 39 = .ok (.iload_n 1, 1) := by decide +kernel
theorem dX6_sleeper_40 : decode cX6_sleeper 40 = .ok (.iconst 1, 1) := by decide +kernel
theorem dX6_sleeper_41 : decode cX6_sleeper 41 = .ok (.iload 4, 2) := by decide +kernel
theorem dX6_sleeper_43 : decode cX6_sleeper 43 = .ok (.ishl, 1) := by decide +kernel
theorem dX6_sleeper_44 : decode cX6_sleeper 44 = .ok (.iconst (-1), 1) := by decide +kernel
theorem dX6_sleeper_45 : decode cX6_sleeper 45 = .ok (.ixor, 1) := by decide +kernel
theorem dX6_sleeper_46 : decode cX6_sleeper 46 = .ok (.iand, 1) := by decide +kernel
theorem dX6_sleeper_47 : decode cX6_sleeper 47 = .ok (.invokevirtual 128, 3) := by decide +kernel
theorem dX6_sleeper_50 : decode cX6_sleeper 50 = .ok (.aload_n 0, 1) := by decide +kernel
theorem dX6_sleeper_51 : decode cX6_sleeper 51 = .ok (.invokevirtual 135, 3) := by decide +kernel
theorem dX6_sleeper_54 : decode cX6_sleeper 54 = .ok (.istore 5, 2) := by decide +kernel
theorem dX6_sleeper_56 : decode cX6_sleeper 56 = .ok (.iload_n 2, 1) := by decide +kernel
theorem dX6_sleeper_57 : decode cX6_sleeper 57 = .ok (.bipush (-9), 2) := by decide +kernel
theorem dX6_sleeper_59 : decode cX6_sleeper 59 = .ok (.if_icmp .eq 9, 3) := by decide +kernel
theorem dX6_sleeper_62 : decode cX6_sleeper 62 = .ok (.iload 5, 2) := by decide +kernel
theorem dX6_sleeper_64 : decode cX6_sleeper 64 = .ok (.iload_n 3, 1) := by decide +kernel
theorem dX6_sleeper_65 : decode cX6_sleeper 65 = .ok (.if_icmp .ge 9, 3) := by decide +kernel
theorem dX6_sleeper_68 : decode cX6_sleeper 68 = .ok (.iload 4, 2) := by decide +kernel
theorem dX6_sleeper_70 : decode cX6_sleeper 70 = .ok (.istore_n 2, 1) := by decide +kernel
theorem dX6_sleeper_71 : decode cX6_sleeper 71 = .ok (.iload 5, 2) := by decide +kernel
theorem dX6_sleeper_73 : decode cX6_sleeper 73 = .ok (.istore_n 3, 1) := by decide +kernel
theorem dX6_sleeper_74 : decode cX6_sleeper 74 = .ok (.iinc 4 1, 3) := by decide +kernel
theorem dX6_sleeper_77 : decode cX6_sleeper 77 = .ok (.goto (-59), 3) := by decide +kernel
theorem dX6_sleeper_80 : decode cX6_sleeper 80 = .ok (.iload_n 2, 1) := by decide +kernel
theorem dX6_sleeper_81 : decode cX6_sleeper 81 = .ok (.ireturn, 1) := by decide +kernel
theorem dX6_danger_0 : decode cX6_danger 0 = .ok (.aload_n 0, 1) := by decide +kernel
theorem dX6_danger_1 : decode cX6_danger 1 = .ok (.iconst 0, 1) := by decide +kernel
theorem dX6_danger_2 : decode cX6_danger 2 = .ok (.putfield 53, 3) := by decide +kernel
theorem dX6_danger_5 : decode cX6_danger 5 = .ok (.bipush (-9), 2) := by decide +kernel
theorem dX6_danger_7 : decode cX6_danger 7 = .ok (.istore_n 1, 1) := by decide +kernel
theorem dX6_danger_8 : decode cX6_danger 8 = .ok (.iconst 0, 1) := by decide +kernel
theorem dX6_danger_9 : decode cX6_danger 9 = .ok (.istore_n 2, 1) := by decide +kernel
theorem dX6_danger_10 : decode cX6_danger 10 = .ok (.iconst 0, 1) := by decide +kernel
theorem dX6_danger_11 : decode cX6_danger 11 = .ok (.istore_n 3, 1) := by decide +kernel
theorem dX6_danger_12 : decode cX6_danger 12 = .ok (.iload_n 3, 1) := by decide +kernel
theorem dX6_danger_13 : decode cX6_danger 13 = .ok (.sipush 700, 3) := by decide +kernel
theorem dX6_danger_16 : decode cX6_danger 16 = .ok (.if_icmp .ge 131, 3) := by decide +kernel
theorem dX6_danger_19 : decode cX6_danger 19 = .ok (.iload_n 3, 1) := by decide +kernel
theorem dX6_danger_20 : decode cX6_danger 20 = .ok (.bipush 100, 2) := by decide +kernel
theorem dX6_danger_22 : decode cX6_danger 22 = .ok (.idiv, 1) := by decide +kernel
theorem dX6_danger_23 : decode cX6_danger 23 = .ok (.istore 4, 2) := by decide +kernel
theorem dX6_danger_25 : decode cX6_danger 25 = .ok (.iload_n 3, 1) := by decide +kernel
theorem dX6_danger_26 : decode cX6_danger 26 = .ok (.bipush 10, 2) := by decide +kernel
theorem dX6_danger_28 : decode cX6_danger 28 = .ok (.idiv, 1) := by decide +kernel
theorem dX6_danger_29 : decode cX6_danger 29 = .ok (.bipush 10, 2) := by decide +kernel
theorem dX6_danger_31 : decode cX6_danger 31 = .ok (.irem, 1) := by decide +kernel
theorem dX6_danger_32 : decode cX6_danger 32 = .ok (.istore 5, 2) := by decide +kernel
theorem dX6_danger_34 : decode cX6_danger 34 = .ok (.iload_n 3, 1) := by decide +kernel
theorem dX6_danger_35 : decode cX6_danger 35 = .ok (.bipush 10, 2) := by decide +kernel
theorem dX6_danger_37 : decode cX6_danger 37 = .ok (.irem, 1) := by decide +kernel
theorem dX6_danger_38 : decode cX6_danger 38 = .ok (.istore 6, 2) := by decide +kernel
theorem dX6_danger_40 : decode cX6_danger 40 = .ok (.iload 4, 2) := by decide +kernel
theorem dX6_danger_42 : decode cX6_danger 42 = .ok (.aload_n 0, 1) := by decide +kernel
theorem dX6_danger_43 : decode cX6_danger 43 = .ok (.getfield 7, 3) := by decide +kernel
theorem dX6_danger_46 : decode cX6_danger 46 = .ok (.iconst 0, 1) := by decide +kernel
theorem dX6_danger_47 : decode cX6_danger 47 = .ok (.iaload, 1) := by decide +kernel
theorem dX6_danger_48 : decode cX6_danger 48 = .ok (.if_icmp .ge 93, 3) := by decide +kernel
theorem dX6_danger_51 : decode cX6_danger 51 = .ok (.iload 5, 2) := by decide +kernel
theorem dX6_danger_53 : decode cX6_danger 53 = .ok (.iconst 4, 1) := by decide +kernel
theorem dX6_danger_54 : decode cX6_danger 54 = .ok (.if_icmp .ge 87, 3) := by decide +kernel
theorem dX6_danger_57 : decode cX6_danger 57 = .ok (.iload 6, 2) := by decide +kernel
theorem dX6_danger_59 : decode cX6_danger 59 = .ok (.aload_n 0, 1) := by decide +kernel
theorem dX6_danger_60 : decode cX6_danger 60 = .ok (.getfield 7, 3) := by decide +kernel
theorem dX6_danger_63 : decode cX6_danger 63 = .ok (.iconst 0, 1) := by decide +kernel
theorem dX6_danger_64 : decode cX6_danger 64 = .ok (.iaload, 1) := by decide +kernel
theorem dX6_danger_65 : decode cX6_danger 65 = .ok (.if_icmp .ge 76, 3) := by decide +kernel
theorem dX6_danger_68 : decode cX6_danger 68 = .ok (.iload 4, 2) := by decide +kernel
theorem dX6_danger_70 : decode cX6_danger 70 = .ok (.iload 6, 2) := by decide +kernel
theorem dX6_danger_72 : decode cX6_danger 72 = .ok (.if_icmp .eq 69, 3) := by decide +kernel
theorem dX6_danger_75 : decode cX6_danger 75 = .ok (.aload_n 0, 1) := by decide +kernel
theorem dX6_danger_76 : decode cX6_danger 76 = .ok (.iload 4, 2) := by decide +kernel
theorem dX6_danger_78 : decode cX6_danger 78 = .ok (.iload 5, 2) := by decide +kernel
theorem dX6_danger_80 : decode cX6_danger 80 = .ok (.iload 6, 2) := by decide +kernel
theorem dX6_danger_82 : decode cX6_danger 82 = .ok (.invokevirtual 94, 3) := by decide +kernel
theorem dX6_danger_85 : decode cX6_danger 85 = .ok (.ifCond .ne 56, 3) := by decide +kernel
theorem dX6_danger_88 : decode cX6_danger 88 = .ok (.aload_n 0, 1) := by decide +kernel
theorem dX6_danger_89 : decode cX6_danger 89 = .ok (.iload 4, 2) := by decide +kernel
theorem dX6_danger_91 : decode cX6_danger 91 = .ok (.iload 5, 2) := by decide +kernel
theorem dX6_danger_93 : decode cX6_danger 93 = .ok (.iload 6, 2) := by decide +kernel
theorem dX6_danger_95 : decode cX6_danger 95 = .ok (.iconst 1, 1) := by decide +kernel
theorem dX6_danger_96 : decode cX6_danger 96 = .ok (.invokevirtual 166, 3) := by decide +kernel
theorem dX6_danger_99 : decode cX6_danger 99 = .ok (.aload_n 0, 1) := by decide +kernel
theorem dX6_danger_100 : decode cX6_danger 100 = .ok (.aload_n 0, 1) := by decide +kernel
theorem dX6_danger_101 : decode cX6_danger 101 = .ok (.invokevirtual 125, 3) := by decide +kernel
theorem dX6_danger_104 : decode cX6_danger 104 = .ok (.invokevirtual 128, 3) := by decide +kernel
theorem dX6_danger_107 : decode cX6_danger 107 = .ok (.aload_n 0, 1) := by decide +kernel
theorem dX6_danger_108 : decode cX6_danger 108 = .ok (.iload 4, 2) := by decide +kernel
theorem dX6_danger_110 : decode cX6_danger 110 = .ok (.iload 5, 2) := by decide +kernel
theorem dX6_danger_112 : decode cX6_danger 112 = .ok (.iload 6, 2) := by decide +kernel
theorem dX6_danger_114 : decode cX6_danger 114 = .ok (.iconst 0, 1) := by decide +kernel
theorem dX6_danger_115 : decode cX6_danger 115 = .ok (.invokevirtual 166, 3) := by decide +kernel
theorem dX6_danger_118 : decode cX6_danger 118 = .ok (.aload_n 0, 1) := by decide +kernel
theorem dX6_danger_119 : decode cX6_danger 119 = .ok (.invokevirtual 135, 3) := by decide +kernel
theorem dX6_danger_122 : decode cX6_danger 122 = .ok (.istore 7, 2) := by decide +kernel
theorem dX6_danger_124 : decode cX6_danger 124 = .ok (.iload_n 1, 1) := by decide +kernel
theorem dX6_danger_125 : decode cX6_danger 125 = .ok (.bipush (-9), 2) := by decide +kernel
theorem dX6_danger_127 : decode cX6_danger 127 = .ok (.if_icmp .eq 9, 3) := by decide +kernel
theorem dX6_danger_130 : decode cX6_danger 130 = .ok (.iload 7, 2) := by decide +kernel
theorem dX6_danger_132 : decode cX6_danger 132 = .ok (.iload_n 2, 1) := by decide +kernel
theorem dX6_danger_133 : decode cX6_danger 133 = .ok (.if_icmp .le 8, 3) := by decide +kernel
theorem dX6_danger_136 : decode cX6_danger 136 = .ok (.iload_n 3, 1) := by decide +kernel
theorem dX6_danger_137 : decode cX6_danger 137 = .ok (.istore_n 1, 1) := by decide +kernel
theorem dX6_danger_138 : decode cX6_danger 138 = .ok (.iload 7, 2) := by decide +kernel
theorem dX6_danger_140 : decode cX6_danger 140 = .ok (.istore_n 2, 1) := by decide +kernel
theorem dX6_danger_141 : decode cX6_danger 141 = .ok (.iinc 3 1, 3) := by decide +kernel
theorem dX6_danger_144 : decode cX6_danger 144 = .ok (.goto (-132), 3) := by decide +kernel
theorem dX6_danger_147 : decode cX6_danger 147 = .ok (.iload_n 1, 1) := by decide +kernel
theorem dX6_danger_148 : decode cX6_danger 148 = .ok (.ireturn, 1) := by decide +kernel
theorem dX6_changes_0 : decode cX6_changes 0 = .ok (.iload_n 1, 1) := by decide +kernel
theorem dX6_changes_1 : decode cX6_changes 1 = .ok (.iconst 3, 1) := by decide +kernel
theorem dX6_changes_2 : decode cX6_changes 2 = .ok (.if_icmp .ge 53, 3) := by decide +kernel
theorem dX6_changes_5 : decode cX6_changes 5 = .ok (.iload_n 1, 1) := by decide +kernel
theorem dX6_changes_6 : decode cX6_changes 6 = .ok (.iconst 2, 1) := by decide +kernel
theorem dX6_changes_7 : decode cX6_changes 7 = .ok (.if_icmp .ne 7, 3) := by decide +kernel
theorem dX6_changes_10 : decode cX6_changes 10 = .ok (.iconst 1, 1) := by decide +kernel
theorem dX6_changes_11 : decode cX6_changes 11 = .ok (.goto 4, 3) := by decide +kernel
theorem dX6_changes_14 : decode cX6_changes 14 = .ok (.iconst 0, 1) := by decide +kernel
theorem dX6_changes_15 : decode cX6_changes 15 = .ok (.istore 6, 2) := by decide +kernel
theorem dX6_changes_17 : decode cX6_changes 17 = .ok (.aload_n 0, 1) := by decide +kernel
theorem dX6_changes_18 : decode cX6_changes 18 = .ok (.iload 6, 2) := by decide +kernel
theorem dX6_changes_20 : decode cX6_changes 20 = .ok (.iload_n 2, 1) := by decide +kernel
theorem dX6_changes_21 : decode cX6_changes 21 = .ok (.iload_n 3, 1) := by decide +kernel
theorem dX6_changes_22 : decode cX6_changes 22 = .ok (.iload 4, 2) := by decide +kernel
theorem dX6_changes_24 : decode cX6_changes 24 = .ok (.iload 5, 2) := by decide +kernel
theorem dX6_changes_26 : decode cX6_changes 26 = .ok (.invokevirtual 177, 3) := by decide +kernel
theorem dX6_changes_29 : decode cX6_changes 29 = .ok (.ifCond .le 5, 3) := by decide +kernel
theorem dX6_changes_32 : decode cX6_changes 32 = .ok (.iconst 0, 1) := by decide +kernel
theorem dX6_changes_33 : decode cX6_changes 33 = .ok (.ireturn, 1) := by decide +kernel
theorem dX6_changes_34 : decode cX6_changes 34 = .ok (.aload_n 0, 1) := by decide +kernel
theorem dX6_changes_35 : decode cX6_changes 35 = .ok (.iload 6, 2) := by decide +kernel
theorem dX6_changes_37 : decode cX6_changes 37 = .ok (.ifCond .eq 7, 3) := by decide +kernel
theorem dX6_changes_40 : decode cX6_changes 40 = .ok (.iload_n 3, 1) := by decide +kernel
theorem dX6_changes_41 : decode cX6_changes 41 = .ok (.goto 4, 3) := by decide +kernel
theorem dX6_changes_44 : decode cX6_changes 44 = .ok (.iload_n 2, 1) := by decide +kernel
theorem dX6_changes_45 : decode cX6_changes 45 = .ok (.iload 4, 2) := by decide +kernel
theorem dX6_changes_47 : decode cX6_changes 47 = .ok (.iload 5, 2) := by decide +kernel
theorem dX6_changes_49 : decode cX6_changes 49 = .ok (.iconst 1, 1) := by decide +kernel
theorem dX6_changes_50 : decode cX6_changes 50 = .ok (.invokevirtual 166, 3) := by decide +kernel
theorem dX6_changes_53 : decode cX6_changes 53 = .ok (.iconst 1, 1) := by decide +kernel
theorem dX6_changes_54 : decode cX6_changes 54 = .ok (.ireturn, 1) := by decide +kernel
theorem dX6_changes_55 : decode cX6_changes 55 = .ok (.iload_n 1, 1) := by decide +kernel
theorem dX6_changes_56 : decode cX6_changes 56 = .ok (.iconst 3, 1) := by decide +kernel
theorem dX6_changes_57 : decode cX6_changes 57 = .ok (.if_icmp .ne 54, 3) := by decide +kernel
theorem dX6_changes_60 : decode cX6_changes 60 = .ok (.iload 5, 2) := by decide +kernel
theorem dX6_changes_62 : decode cX6_changes 62 = .ok (.iconst 1, 1) := by decide +kernel
theorem dX6_changes_63 : decode cX6_changes 63 = .ok (.if_icmp .gt 25, 3) := by decide +kernel
theorem dX6_changes_66 : decode cX6_changes 66 = .ok (.aload_n 0, 1) := by decide +kernel
theorem dX6_changes_67 : decode cX6_changes 67 = .ok (.iload_n 2, 1) := by decide +kernel
theorem dX6_changes_68 : decode cX6_changes 68 = .ok (.iload_n 3, 1) := by decide +kernel
theorem dX6_changes_69 : decode cX6_changes 69 = .ok (.iload 4, 2) := by decide +kernel
theorem dX6_changes_71 : decode cX6_changes 71 = .ok (.iload 5, 2) := by decide +kernel
theorem dX6_changes_73 : decode cX6_changes 73 = .ok (.iconst 1, 1) := by decide +kernel
theorem dX6_changes_74 : decode cX6_changes 74 = .ok (.if_icmp .ne 7, 3) := by decide +kernel
theorem dX6_changes_77 : decode cX6_changes 77 = .ok (.iconst 1, 1) := by decide +kernel
theorem dX6_changes_78 : decode cX6_changes 78 = .ok (.goto 4, 3) := by decide +kernel
theorem dX6_changes_81 : decode cX6_changes 81 = .ok (.iconst 0, 1) := by decide +kernel
theorem dX6_changes_82 : decode cX6_changes 82 = .ok (.invokevirtual 162, 3) := by decide +kernel
theorem dX6_changes_85 : decode cX6_changes 85 = .ok (.ifCond .le 5, 3) := by decide +kernel
theorem dX6_changes_88 : decode cX6_changes 88 = .ok (.iconst 0, 1) := by decide +kernel
theorem dX6_changes_89 : decode cX6_changes 89 = .ok (.ireturn, 1) := by decide +kernel
theorem dX6_changes_90 : decode cX6_changes 90 = .ok (.aload_n 0, 1) := by decide +kernel
theorem dX6_changes_91 : decode cX6_changes 91 = .ok (.iload_n 2, 1) := by decide +kernel
theorem dX6_changes_92 : decode cX6_changes 92 = .ok (.iload_n 3, 1) := by decide +kernel
theorem dX6_changes_93 : decode cX6_changes 93 = .ok (.iload 4, 2) := by decide +kernel
theorem dX6_changes_95 : decode cX6_changes 95 = .ok (.iload 5, 2) := by decide +kernel
theorem dX6_changes_97 : decode cX6_changes 97 = .ok (.iconst 1, 1) := by decide +kernel
theorem dX6_changes_98 : decode cX6_changes 98 = .ok (.if_icmp .ne 7, 3) := by decide +kernel
theorem dX6_changes_101 : decode cX6_changes 101 = .ok (.iconst 1, 1) := by decide +kernel
theorem dX6_changes_102 : decode cX6_changes 102 = .ok (.goto 4, 3) := by decide +kernel
theorem dX6_changes_105 : decode cX6_changes 105 = .ok (.iconst 0, 1) := by decide +kernel
theorem dX6_changes_106 : decode cX6_changes 106 = .ok (.invokevirtual 166, 3) := by decide +kernel
theorem dX6_changes_109 : decode cX6_changes 109 = .ok (.iconst 1, 1) := by decide +kernel
theorem dX6_changes_110 : decode cX6_changes 110 = .ok (.ireturn, 1) := by decide +kernel
theorem dX6_changes_111 : decode cX6_changes 111 = .ok (.iload_n 1, 1) := by decide +kernel
theorem dX6_changes_112 : decode cX6_changes 112 = .ok (.iconst 4, 1) := by decide +kernel
theorem dX6_changes_113 : decode cX6_changes 113 = .ok (.if_icmp .ne 48, 3) := by decide +kernel
theorem dX6_changes_116 : decode cX6_changes 116 = .ok (.iload_n 3, 1) := by decide +kernel
theorem dX6_changes_117 : decode cX6_changes 117 = .ok (.iconst 1, 1) := by decide +kernel
theorem dX6_changes_118 : decode cX6_changes 118 = .ok (.if_icmp .gt 21, 3) := by decide +kernel
theorem dX6_changes_121 : decode cX6_changes 121 = .ok (.iload 4, 2) := by decide +kernel
theorem dX6_changes_123 : decode cX6_changes 123 = .ok (.ifCond .gt 16, 3) := by decide +kernel
theorem dX6_changes_126 : decode cX6_changes 126 = .ok (.iload 5, 2) := by decide +kernel
theorem dX6_changes_128 : decode cX6_changes 128 = .ok (.ifCond .gt 11, 3) := by decide +kernel
theorem dX6_changes_131 : decode cX6_changes 131 = .ok (.aload_n 0, 1) := by decide +kernel
theorem dX6_changes_132 : decode cX6_changes 132 = .ok (.iload_n 2, 1) := by decide +kernel
theorem dX6_changes_133 : decode cX6_changes 133 = .ok (.invokevirtual 159, 3) := by decide +kernel
theorem dX6_changes_136 : decode cX6_changes 136 = .ok (.ifCond .le 5, 3) := by decide +kernel
theorem dX6_changes_139 : decode cX6_changes 139 = .ok (.iconst 0, 1) := by decide +kernel
theorem dX6_changes_140 : decode cX6_changes 140 = .ok (.ireturn, 1) := by decide +kernel
theorem dX6_changes_141 : decode cX6_changes 141 = .ok (.aload_n 0, 1) := by decide +kernel
theorem dX6_changes_142 : decode cX6_changes 142 = .ok (.getfield 7, 3) := by decide +kernel
theorem dX6_changes_145 : decode cX6_changes 145 = .ok (.iconst 1, 1) := by decide +kernel
theorem dX6_changes_146 : decode cX6_changes 146 = .ok (.iload_n 2, 1) := by decide +kernel
theorem dX6_changes_147 : decode cX6_changes 147 = .ok (.iadd, 1) := by decide +kernel
theorem dX6_changes_148 : decode cX6_changes 148 = .ok (.iload_n 3, 1) := by decide +kernel
theorem dX6_changes_149 : decode cX6_changes 149 = .ok (.iconst 1, 1) := by decide +kernel
theorem dX6_changes_150 : decode cX6_changes 150 = .ok (.if_icmp .ne 7, 3) := by decide +kernel
theorem dX6_changes_153 : decode cX6_changes 153 = .ok (.iconst 1, 1) := by decide +kernel
theorem dX6_changes_154 : decode cX6_changes 154 = .ok (.goto 4, 3) := by decide +kernel
theorem dX6_changes_157 : decode cX6_changes 157 = .ok (.iconst 2, 1) := by decide +kernel
theorem dX6_changes_158 : decode cX6_changes 158 = .ok (.iastore, 1) := by decide +kernel
theorem dX6_changes_159 : decode cX6_changes 159 = .ok (.iconst 1, 1) := by decide +kernel
theorem dX6_changes_160 : decode cX6_changes 160 = .ok (.ireturn, 1) := by decide +kernel
theorem dX6_changes_161 : decode cX6_changes 161 = .ok (.iload_n 3, 1) := by decide +kernel
theorem dX6_changes_162 : decode cX6_changes 162 = .ok (.ifCond .gt 21, 3) := by decide +kernel
theorem dX6_changes_165 : decode cX6_changes 165 = .ok (.iload 4, 2) := by decide +kernel
theorem dX6_changes_167 : decode cX6_changes 167 = .ok (.ifCond .gt 16, 3) := by decide +kernel
theorem dX6_changes_170 : decode cX6_changes 170 = .ok (.iload 5, 2) := by decide +kernel
theorem dX6_changes_172 : decode cX6_changes 172 = .ok (.ifCond .gt 11, 3) := by decide +kernel
theorem dX6_changes_175 : decode cX6_changes 175 = .ok (.aload_n 0, 1) := by decide +kernel
theorem dX6_changes_176 : decode cX6_changes 176 = .ok (.iload_n 2, 1) := by decide +kernel
theorem dX6_changes_177 : decode cX6_changes 177 = .ok (.invokevirtual 142, 3) := by decide +kernel
theorem dX6_changes_180 : decode cX6_changes 180 = .ok (.ifCond .ne 5, 3) := by decide +kernel
theorem dX6_changes_183 : decode cX6_changes 183 = .ok (.iconst 0, 1) := by decide +kernel
theorem dX6_changes_184 : decode cX6_changes 184 = .ok (.ireturn, 1) := by decide +kernel
theorem dX6_changes_185 : decode cX6_changes 185 = .ok (.aload_n 0, 1) := by decide +kernel
theorem dX6_changes_186 : decode cX6_changes 186 = .ok (.iload_n 2, 1) := by decide +kernel
theorem dX6_changes_187 : decode cX6_changes 187 = .ok (.invokevirtual 156, 3) := by decide +kernel
theorem dX6_changes_190 : decode cX6_changes 190 = .ok (.pop, 1) := by decide +kernel
theorem dX6_changes_191 : decode cX6_changes 191 = .ok (.iconst 1, 1) := by decide +kernel
theorem dX6_changes_192 : decode cX6_changes 192 = .ok (.ireturn, 1) := by decide +kernel
theorem dX6_asks_0 : decode cX6_asks 0 = .ok (.aload_n 0, 1) := by decide +kernel
theorem dX6_asks_1 : decode cX6_asks 1 = .ok (.aload_n 0, 1) := by decide +kernel
theorem dX6_asks_2 : decode cX6_asks 2 = .ok (.invokevirtual 125, 3) := by decide +kernel
theorem dX6_asks_5 : decode cX6_asks 5 = .ok (.invokevirtual 128, 3) := by decide +kernel
theorem dX6_asks_8 : decode cX6_asks 8 = .ok (.iload_n 1, 1) := by decide +kernel
theorem dX6_asks_9 : decode cX6_asks 9 = .ok (.bipush 8, 2) := by decide +kernel
theorem dX6_asks_11 : decode cX6_asks 11 = .ok (.if_icmp .ne 33, 3) := by decide +kernel
theorem dX6_asks_14 : decode cX6_asks 14 = .ok (.iload_n 2, 1) := by decide +kernel
theorem dX6_asks_15 : decode cX6_asks 15 = .ok (.ifCond .ne 27, 3) := by decide +kernel
theorem dX6_asks_18 : decode cX6_asks 18 = .ok (.aload_n 0, 1) := by decide +kernel
theorem dX6_asks_19 : decode cX6_asks 19 = .ok (.invokevirtual 135, 3) := by decide +kernel
theorem dX6_asks_22 : decode cX6_asks 22 = .ok (.bipush 100, 2) := by decide +kernel
theorem dX6_asks_24 : decode cX6_asks 24 = .ok (.iload_n 3, 1) := by decide +kernel
theorem dX6_asks_25 : decode cX6_asks 25 = .ok (.imul, 1) := by decide +kernel
theorem dX6_asks_26 : decode cX6_asks 26 = .ok (.bipush 10, 2) := by decide +kernel
theorem dX6_asks_28 : decode cX6_asks 28 = .ok (.iload 4, 2) := by decide +kernel
theorem dX6_asks_30 : decode cX6_asks 30 = .ok (.imul, 1) := by decide +kernel
theorem dX6_asks_31 : decode cX6_asks 31 = .ok (.iadd, 1) := by decide +kernel
theorem dX6_asks_32 : decode cX6_asks 32 = .ok (.iload 5, 2) := by decide +kernel
theorem dX6_asks_34 : decode cX6_asks 34 = .ok (.iadd, 1) := by decide +kernel
theorem dX6_asks_35 : decode cX6_asks 35 = .ok (.if_icmp .gt 7, 3) := by decide +kernel
theorem dX6_asks_38 : decode cX6_asks 38 = .ok (.iconst 1, 1) := by decide +kernel
theorem dX6_asks_39 : decode cX6_asks 39 = .ok (.goto 4, 3) := by decide +kernel
theorem dX6_asks_42 : decode cX6_asks 42 = .ok (.iconst 0, 1) := by decide +kernel
theorem dX6_asks_43 : decode cX6_asks 43 = .ok (.ireturn, 1) := by decide +kernel
theorem dX6_asks_44 : decode cX6_asks 44 = .ok (.iload_n 1, 1) := by decide +kernel
theorem dX6_asks_45 : decode cX6_asks 45 = .ok (.bipush 9, 2) := by decide +kernel
theorem dX6_asks_47 : decode cX6_asks 47 = .ok (.if_icmp .ne 52, 3) := by decide +kernel
theorem dX6_asks_50 : decode cX6_asks 50 = .ok (.iload 4, 2) := by decide +kernel
theorem dX6_asks_52 : decode cX6_asks 52 = .ok (.ifCond .gt 29, 3) := by decide +kernel
theorem dX6_asks_55 : decode cX6_asks 55 = .ok (.iload 5, 2) := by decide +kernel
theorem dX6_asks_57 : decode cX6_asks 57 = .ok (.ifCond .gt 24, 3) := by decide +kernel
theorem dX6_asks_60 : decode cX6_asks 60 = .ok (.aload_n 0, 1) := by decide +kernel
theorem dX6_asks_61 : decode cX6_asks 61 = .ok (.iload_n 2, 1) := by decide +kernel
theorem dX6_asks_62 : decode cX6_asks 62 = .ok (.invokevirtual 142, 3) := by decide +kernel
theorem dX6_asks_65 : decode cX6_asks 65 = .ok (.ifCond .eq 16, 3) := by decide +kernel
theorem dX6_asks_68 : decode cX6_asks 68 = .ok (.aload_n 0, 1) := by decide +kernel
theorem dX6_asks_69 : decode cX6_asks 69 = .ok (.iload_n 3, 1) := by decide +kernel
theorem dX6_asks_70 : decode cX6_asks 70 = .ok (.invokevirtual 142, 3) := by decide +kernel
theorem dX6_asks_73 : decode cX6_asks 73 = .ok (.ifCond .eq 8, 3) := by decide +kernel
theorem dX6_asks_76 : decode cX6_asks 76 = .ok (.iload_n 2, 1) := by decide +kernel
theorem dX6_asks_77 : decode cX6_asks 77 = .ok (.iload_n 3, 1) := by decide +kernel
theorem dX6_asks_78 : decode cX6_asks 78 = .ok (.if_icmp .ne 5, 3) := by decide +kernel
theorem dX6_asks_81 : decode cX6_asks 81 = .ok (.iconst 0, 1) := by decide +kernel
theorem dX6_asks_82 : decode cX6_asks 82 = .ok (.ireturn, 1) := by decide +kernel
theorem dX6_asks_83 : decode cX6_asks 83 = .ok (.aload_n 0, 1) := by decide +kernel
theorem dX6_asks_84 : decode cX6_asks 84 = .ok (.iconst 0, 1) := by decide +kernel
theorem dX6_asks_85 : decode cX6_asks 85 = .ok (.invokevirtual 100, 3) := by decide +kernel
theorem dX6_asks_88 : decode cX6_asks 88 = .ok (.aload_n 0, 1) := by decide +kernel
theorem dX6_asks_89 : decode cX6_asks 89 = .ok (.getfield 41, 3) := by decide +kernel
theorem dX6_asks_92 : decode cX6_asks 92 = .ok (.iload_n 2, 1) := by decide +kernel
theorem dX6_asks_93 : decode cX6_asks 93 = .ok (.iaload, 1) := by decide +kernel
theorem dX6_asks_94 : decode cX6_asks 94 = .ok (.iload_n 3, 1) := by decide +kernel
theorem dX6_asks_95 : decode cX6_asks 95 = .ok (.invokestatic 76, 3) := by decide +kernel
theorem dX6_asks_98 : decode cX6_asks 98 = .ok (.ireturn, 1) := by decide +kernel
theorem dX6_asks_99 : decode cX6_asks 99 = .ok (.iload 5, 2) := by decide +kernel
theorem dX6_asks_101 : decode cX6_asks 101 = .ok (.ifCond .gt 14, 3) := by decide +kernel
theorem dX6_asks_104 : decode cX6_asks 104 = .ok (.aload_n 0, 1) := by decide +kernel
theorem dX6_asks_105 : decode cX6_asks 105 = .ok (.iload_n 2, 1) := by decide +kernel
theorem dX6_asks_106 : decode cX6_asks 106 = .ok (.iload_n 3, 1) := by decide +kernel
theorem dX6_asks_107 : decode cX6_asks 107 = .ok (.iload 4, 2) := by decide +kernel
theorem dX6_asks_109 : decode cX6_asks 109 = .ok (.invokevirtual 145, 3) := by decide +kernel
theorem dX6_asks_112 : decode cX6_asks 112 = .ok (.ifCond .le 5, 3) := by decide +kernel
theorem dX6_asks_115 : decode cX6_asks 115 = .ok (.iconst 0, 1) := by decide +kernel
theorem dX6_asks_116 : decode cX6_asks 116 = .ok (.ireturn, 1) := by decide +kernel
theorem dX6_asks_117 : decode cX6_asks 117 = .ok (.iload_n 1, 1) := by decide +kernel
theorem dX6_asks_118 : decode cX6_asks 118 = .ok (.bipush 6, 2) := by decide +kernel
theorem dX6_asks_120 : decode cX6_asks 120 = .ok (.if_icmp .ne 14, 3) := by decide +kernel
theorem dX6_asks_123 : decode cX6_asks 123 = .ok (.aload_n 0, 1) := by decide +kernel
theorem dX6_asks_124 : decode cX6_asks 124 = .ok (.iload_n 2, 1) := by decide +kernel
theorem dX6_asks_125 : decode cX6_asks 125 = .ok (.iload_n 3, 1) := by decide +kernel
theorem dX6_asks_126 : decode cX6_asks 126 = .ok (.iload 4, 2) := by decide +kernel
theorem dX6_asks_128 : decode cX6_asks 128 = .ok (.invokevirtual 94, 3) := by decide +kernel
theorem dX6_asks_131 : decode cX6_asks 131 = .ok (.goto 11, 3) := by decide +kernel
theorem dX6_asks_134 : decode cX6_asks 134 = .ok (.aload_n 0, 1) := by decide +kernel
theorem dX6_asks_135 : decode cX6_asks 135 = .ok (.iload_n 2, 1) := by decide +kernel
theorem dX6_asks_136 : decode cX6_asks 136 = .ok (.iload_n 3, 1) := by decide +kernel
theorem dX6_asks_137 : decode cX6_asks 137 = .ok (.iload 4, 2) := by decide +kernel
theorem dX6_asks_139 : decode cX6_asks 139 = .ok (.invokevirtual 80, 3) := by decide +kernel
theorem dX6_asks_142 : decode cX6_asks 142 = .ok (.ireturn, 1) := by decide +kernel
theorem dX6_succeeds_0 : decode cX6_succeeds 0 = .ok (.iload_n 1, 1) := by decide +kernel
theorem dX6_succeeds_1 : decode cX6_succeeds 1 = .ok (.sipush 10000, 3) := by decide +kernel
theorem dX6_succeeds_4 : decode cX6_succeeds 4 = .ok (.idiv, 1) := by decide +kernel
theorem dX6_succeeds_5 : decode cX6_succeeds 5 = .ok (.istore_n 2, 1) := by decide +kernel
theorem dX6_succeeds_6 : decode cX6_succeeds 6 = .ok (.iload_n 1, 1) := by decide +kernel
theorem dX6_succeeds_7 : decode cX6_succeeds 7 = .ok (.sipush 1000, 3) := by decide +kernel
theorem dX6_succeeds_10 : decode cX6_succeeds 10 = .ok (.idiv, 1) := by decide +kernel
theorem dX6_succeeds_11 : decode cX6_succeeds 11 = .ok (.bipush 10, 2) := by decide +kernel
theorem dX6_succeeds_13 : decode cX6_succeeds 13 = .ok (.irem, 1) := by decide +kernel
theorem dX6_succeeds_14 : decode cX6_succeeds 14 = .ok (.istore_n 3, 1) := by decide +kernel
theorem dX6_succeeds_15 : decode cX6_succeeds 15 = .ok (.iload_n 1, 1) := by decide +kernel
theorem dX6_succeeds_16 : decode cX6_succeeds 16 = .ok (.bipush 100, 2) := by decide +kernel
theorem dX6_succeeds_18 : decode cX6_succeeds 18 = .ok (.idiv, 1) := by decide +kernel
theorem dX6_succeeds_19 : decode cX6_succeeds 19 = .ok (.bipush 10, 2) := by decide +kernel
theorem dX6_succeeds_21 : decode cX6_succeeds 21 = .ok (.irem, 1) := by decide +kernel
theorem dX6_succeeds_22 : decode cX6_succeeds 22 = .ok (.istore 4, 2) := by decide +kernel
theorem dX6_succeeds_24 : decode cX6_succeeds 24 = .ok (.iload_n 1, 1) := by decide +kernel
theorem dX6_succeeds_25 : decode cX6_succeeds 25 = .ok (.bipush 10, 2) := by decide +kernel
theorem dX6_succeeds_27 : decode cX6_succeeds 27 = .ok (.idiv, 1) := by decide +kernel
theorem dX6_succeeds_28 : decode cX6_succeeds 28 = .ok (.bipush 10, 2) := by decide +kernel
theorem dX6_succeeds_30 : decode cX6_succeeds 30 = .ok (.irem, 1) := by decide +kernel
theorem dX6_succeeds_31 : decode cX6_succeeds 31 = .ok (.istore 5, 2) := by decide +kernel
theorem dX6_succeeds_33 : decode cX6_succeeds 33 = .ok (.iload_n 1, 1) := by decide +kernel
theorem dX6_succeeds_34 : decode cX6_succeeds 34 = .ok (.bipush 10, 2) := by decide +kernel
theorem dX6_succeeds_36 : decode cX6_succeeds 36 = .ok (.irem, 1) := by decide +kernel
theorem dX6_succeeds_37 : decode cX6_succeeds 37 = .ok (.istore 6, 2) := by decide +kernel
theorem dX6_succeeds_39 : decode cX6_succeeds 39 = .ok (.iload_n 2, 1) := by decide +kernel
theorem dX6_succeeds_40 : decode cX6_succeeds 40 = .ok (.ifCond .ne 5, 3) := by decide +kernel
theorem dX6_succeeds_43 : decode cX6_succeeds 43 = .ok (.iconst 0, 1) := by decide +kernel
theorem dX6_succeeds_44 : decode cX6_succeeds 44 = .ok (.ireturn, 1) := by decide +kernel
theorem dX6_succeeds_45 : decode cX6_succeeds 45 = .ok (.iload_n 2, 1) := by decide +kernel
theorem dX6_succeeds_46 : decode cX6_succeeds 46 = .ok (.bipush 6, 2) := by decide +kernel
theorem dX6_succeeds_48 : decode cX6_succeeds 48 = .ok (.if_icmp .ge 18, 3) := by decide +kernel
theorem dX6_succeeds_51 : decode cX6_succeeds 51 = .ok (.aload_n 0, 1) := by decide +kernel
theorem dX6_succeeds_52 : decode cX6_succeeds 52 = .ok (.iload_n 2, 1) := by decide +kernel
theorem dX6_succeeds_53 : decode cX6_succeeds 53 = .ok (.iload_n 3, 1) := by decide +kernel
theorem dX6_succeeds_54 : decode cX6_succeeds 54 = .ok (.iload 4, 2) := by decide +kernel
theorem dX6_succeeds_56 : decode cX6_succeeds 56 = .ok (.iload 5, 2) := by decide +kernel
theorem dX6_succeeds_58 : decode cX6_succeeds 58 = .ok (.iload 6, 2) := by decide +kernel
theorem dX6_succeeds_60 : decode cX6_succeeds 60 = .ok (.invokevirtual 200, 3) := by decide +kernel
theorem dX6_succeeds_63 : decode cX6_succeeds 63 = .ok (.goto 15, 3) := by decide +kernel
theorem dX6_succeeds_66 : decode cX6_succeeds 66 = .ok (.aload_n 0, 1) := by decide +kernel
theorem dX6_succeeds_67 : decode cX6_succeeds 67 = .ok (.iload_n 2, 1) := by decide +kernel
theorem dX6_succeeds_68 : decode cX6_succeeds 68 = .ok (.iload_n 3, 1) := by decide +kernel
theorem dX6_succeeds_69 : decode cX6_succeeds 69 = .ok (.iload 4, 2) := by decide +kernel
theorem dX6_succeeds_71 : decode cX6_succeeds 71 = .ok (.iload 5, 2) := by decide +kernel
theorem dX6_succeeds_73 : decode cX6_succeeds 73 = .ok (.iload 6, 2) := by decide +kernel
theorem dX6_succeeds_75 : decode cX6_succeeds 75 = .ok (.invokevirtual 203, 3) := by decide +kernel
theorem dX6_succeeds_78 : decode cX6_succeeds 78 = .ok (.ireturn, 1) := by decide +kernel
theorem dX6_runScript_0 : decode cX6_runScript 0 = .ok (.iload_n 1, 1) := by decide +kernel
theorem dX6_runScript_1 : decode cX6_runScript 1 = .ok (.iconst 1, 1) := by decide +kernel
theorem dX6_runScript_2 : decode cX6_runScript 2 = .ok (.iconst 3, 1) := by decide +kernel
theorem dX6_runScript_3 : decode cX6_runScript 3 = .ok (.invokestatic 60, 3) := by decide +kernel
theorem dX6_runScript_6 : decode cX6_runScript 6 = .ok (.ifCond .eq 13, 3) := by decide +kernel
theorem dX6_runScript_9 : decode cX6_runScript 9 = .ok (.lload_n 2, 1) := by decide +kernel
theorem dX6_runScript_10 : decode cX6_runScript 10 = .ok (.lconst 0, 1) := by decide +kernel
theorem dX6_runScript_11 : decode cX6_runScript 11 = .ok (.lcmp, 1) := by decide +kernel
theorem dX6_runScript_12 : decode cX6_runScript 12 = .ok (.ifCond .lt 7, 3) := by decide +kernel
theorem dX6_runScript_15 : decode cX6_runScript 15 = .ok (.iconst 1, 1) := by decide +kernel
theorem dX6_runScript_16 : decode cX6_runScript 16 = .ok (.goto 4, 3) := by decide +kernel
theorem dX6_runScript_19 : decode cX6_runScript 19 = .ok (.iconst 0, 1) := by decide +kernel
theorem dX6_runScript_20 : decode cX6_runScript 20 = .ok (.istore 4, 2) := by decide +kernel
theorem dX6_runScript_22 : decode cX6_runScript 22 = .ok (.ldc2_w 206, 3) := by decide +kernel
theorem dX6_runScript_25 : decode cX6_runScript 25 = .ok (.lstore 5, 2) := by decide +kernel
theorem dX6_runScript_27 : decode cX6_runScript 27 = .ok (.iconst 1, 1) := by decide +kernel
theorem dX6_runScript_28 : decode cX6_runScript 28 = .ok (.istore 7, 2) := by decide +kernel
theorem dX6_runScript_30 : decode cX6_runScript 30 = .ok (.iload 7, 2) := by decide +kernel
theorem dX6_runScript_32 : decode cX6_runScript 32 = .ok (.iload_n 1, 1) := by decide +kernel
theorem dX6_runScript_33 : decode cX6_runScript 33 = .ok (.if_icmp .ge 22, 3) := by decide +kernel
theorem dX6_runScript_36 : decode cX6_runScript 36 = .ok (.iload 4, 2) := by decide +kernel
theorem dX6_runScript_38 : decode cX6_runScript 38 = .ok (.ifCond .eq 17, 3) := by decide +kernel
theorem dX6_runScript_41 : decode cX6_runScript 41 = .ok (.lload 5, 2) := by decide +kernel
theorem dX6_runScript_43 : decode cX6_runScript 43 = .ok (.ldc2_w 206, 3) := by decide +kernel
theorem dX6_runScript_46 : decode cX6_runScript 46 = .ok (.lmul, 1) := by decide +kernel
theorem dX6_runScript_47 : decode cX6_runScript 47 = .ok (.lstore 5, 2) := by decide +kernel
theorem dX6_runScript_49 : decode cX6_runScript 49 = .ok (.iinc 7 1, 3) := by decide +kernel
theorem dX6_runScript_52 : decode cX6_runScript 52 = .ok (.goto (-22), 3) := by decide +kernel
theorem dX6_runScript_55 : decode cX6_runScript 55 = .ok (.aload_n 0, 1) := by decide +kernel
theorem dX6_runScript_56 : decode cX6_runScript 56 = .ok (.iload 4, 2) := by decide +kernel
theorem dX6_runScript_58 : decode cX6_runScript 58 = .ok (.ifCond .eq 14, 3) := by decide +kernel
theorem dX6_runScript_61 : decode cX6_runScript 61 = .ok (.lload_n 2, 1) := by decide +kernel
theorem dX6_runScript_62 : decode cX6_runScript 62 = .ok (.lload 5, 2) := by decide +kernel
theorem dX6_runScript_64 : decode cX6_runScript 64 = .ok (.lcmp, 1) := by decide +kernel
theorem dX6_runScript_65 : decode cX6_runScript 65 = .ok (.ifCond .ge 7, 3) := by decide +kernel
theorem dX6_runScript_68 : decode cX6_runScript 68 = .ok (.iconst 0, 1) := by decide +kernel
theorem dX6_runScript_69 : decode cX6_runScript 69 = .ok (.goto 4, 3) := by decide +kernel
theorem dX6_runScript_72 : decode cX6_runScript 72 = .ok (.iconst 1, 1) := by decide +kernel
theorem dX6_runScript_73 : decode cX6_runScript 73 = .ok (.putfield 53, 3) := by decide +kernel
theorem dX6_runScript_76 : decode cX6_runScript 76 = .ok (.aload_n 0, 1) := by decide +kernel
theorem dX6_runScript_77 : decode cX6_runScript 77 = .ok (.getfield 53, 3) := by decide +kernel
theorem dX6_runScript_80 : decode cX6_runScript 80 = .ok (.ifCond .le 5, 3) := by decide +kernel
theorem dX6_runScript_83 : decode cX6_runScript 83 = .ok (.iconst 0, 1) := by decide +kernel
theorem dX6_runScript_84 : decode cX6_runScript 84 = .ok (.ireturn, 1) := by decide +kernel
theorem dX6_runScript_85 : decode cX6_runScript 85 = .ok (.aload_n 0, 1) := by decide +kernel
theorem dX6_runScript_86 : decode cX6_runScript 86 = .ok (.invokevirtual 208, 3) := by decide +kernel
theorem dX6_runScript_89 : decode cX6_runScript 89 = .ok (.bipush (-9), 2) := by decide +kernel
theorem dX6_runScript_91 : decode cX6_runScript 91 = .ok (.istore 7, 2) := by decide +kernel
theorem dX6_runScript_93 : decode cX6_runScript 93 = .ok (.iconst 0, 1) := by decide +kernel
theorem dX6_runScript_94 : decode cX6_runScript 94 = .ok (.istore 8, 2) := by decide +kernel
theorem dX6_runScript_96 : decode cX6_runScript 96 = .ok (.iload 8, 2) := by decide +kernel
theorem dX6_runScript_98 : decode cX6_runScript 98 = .ok (.iload_n 1, 1) := by decide +kernel
theorem dX6_runScript_99 : decode cX6_runScript 99 = .ok (.if_icmp .ge 53, 3) := by decide +kernel
theorem dX6_runScript_102 : decode cX6_runScript 102 = .ok (.iload 7, 2) := by decide +kernel
theorem dX6_runScript_104 : decode cX6_runScript 104 = .ok (.bipush (-9), 2) := by decide +kernel
theorem dX6_runScript_106 : decode cX6_runScript 106 = .ok (.if_icmp .ne 46, 3) := by decide +kernel
theorem dX6_runScript_109 : decode cX6_runScript 109 = .ok (.lload 5, 2) := by decide +kernel
theorem dX6_runScript_111 : decode cX6_runScript 111 = .ok (.ldc2_w 206, 3) := by decide +kernel
theorem dX6_runScript_114 : decode cX6_runScript 114 = .ok (.ldiv, 1) := by decide +kernel
theorem dX6_runScript_115 : decode cX6_runScript 115 = .ok (.lstore 5, 2) := by decide +kernel
theorem dX6_runScript_117 : decode cX6_runScript 117 = .ok (.lload_n 2, 1) := by decide +kernel
theorem dX6_runScript_118 : decode cX6_runScript 118 = .ok (.lload 5, 2) := by decide +kernel
theorem dX6_runScript_120 : decode cX6_runScript 120 = .ok (.ldiv, 1) := by decide +kernel
theorem dX6_runScript_121 : decode cX6_runScript 121 = .ok (.ldc2_w 206, 3) := by decide +kernel
theorem dX6_runScript_124 : decode cX6_runScript 124 = .ok (.lrem, 1) := by decide +kernel
theorem dX6_runScript_125 : decode cX6_runScript 125 = .ok (.l2i, 1) := by decide +kernel
theorem dX6_runScript_126 : decode cX6_runScript 126 = .ok (.istore 9, 2) := by decide +kernel
theorem dX6_runScript_128 : decode cX6_runScript 128 = .ok (.aload_n 0, 1) := by decide +kernel
theorem dX6_runScript_129 : decode cX6_runScript 129 = .ok (.iload 9, 2) := by decide +kernel
theorem dX6_runScript_131 : decode cX6_runScript 131 = .ok (.invokevirtual 211, 3) := by decide +kernel
theorem dX6_runScript_134 : decode cX6_runScript 134 = .ok (.ifCond .eq 8, 3) := by decide +kernel
theorem dX6_runScript_137 : decode cX6_runScript 137 = .ok (.bipush (-9), 2) := by decide +kernel
theorem dX6_runScript_139 : decode cX6_runScript 139 = .ok (.goto 5, 3) := by decide +kernel
theorem dX6_runScript_142 : decode cX6_runScript 142 = .ok (.iload 8, 2) := by decide +kernel
theorem dX6_runScript_144 : decode cX6_runScript 144 = .ok (.istore 7, 2) := by decide +kernel
theorem dX6_runScript_146 : decode cX6_runScript 146 = .ok (.iinc 8 1, 3) := by decide +kernel
theorem dX6_runScript_149 : decode cX6_runScript 149 = .ok (.goto (-53), 3) := by decide +kernel
theorem dX6_runScript_152 : decode cX6_runScript 152 = .ok (.aload_n 0, 1) := by decide +kernel
theorem dX6_runScript_153 : decode cX6_runScript 153 = .ok (.invokevirtual 214, 3) := by decide +kernel
theorem dX6_runScript_156 : decode cX6_runScript 156 = .ok (.iload 7, 2) := by decide +kernel
theorem dX6_runScript_158 : decode cX6_runScript 158 = .ok (.ireturn, 1) := by decide +kernel
theorem dX6_tries_0 : decode cX6_tries 0 = .ok (.aload_n 0, 1) := by decide +kernel
theorem dX6_tries_1 : decode cX6_tries 1 = .ok (.getfield 7, 3) := by decide +kernel
theorem dX6_tries_4 : decode cX6_tries 4 = .ok (.iconst 0, 1) := by decide +kernel
theorem dX6_tries_5 : decode cX6_tries 5 = .ok (.iaload, 1) := by decide +kernel
theorem dX6_tries_6 : decode cX6_tries 6 = .ok (.istore_n 2, 1) := by decide +kernel
theorem dX6_tries_7 : decode cX6_tries 7 = .ok (.iload_n 2, 1) := by decide +kernel
theorem dX6_tries_8 : decode cX6_tries 8 = .ok (.iconst 3, 1) := by decide +kernel
theorem dX6_tries_9 : decode cX6_tries 9 = .ok (.if_icmp .ge 5, 3) := by decide +kernel
theorem dX6_tries_12 : decode cX6_tries 12 = .ok (.iconst 0, 1) := by decide +kernel
theorem dX6_tries_13 : decode cX6_tries 13 = .ok (.ireturn, 1) := by decide +kernel
theorem dX6_tries_14 : decode cX6_tries 14 = .ok (.iload_n 1, 1) := by decide +kernel
theorem dX6_tries_15 : decode cX6_tries 15 = .ok (.iconst 2, 1) := by decide +kernel
theorem dX6_tries_16 : decode cX6_tries 16 = .ok (.idiv, 1) := by decide +kernel
theorem dX6_tries_17 : decode cX6_tries 17 = .ok (.iload_n 2, 1) := by decide +kernel
theorem dX6_tries_18 : decode cX6_tries 18 = .ok (.irem, 1) := by decide +kernel
theorem dX6_tries_19 : decode cX6_tries 19 = .ok (.istore_n 3, 1) := by decide +kernel
theorem dX6_tries_20 : decode cX6_tries 20 = .ok (.iload_n 3, 1) := by decide +kernel
theorem dX6_tries_21 : decode cX6_tries 21 = .ok (.iconst 1, 1) := by decide +kernel
theorem dX6_tries_22 : decode cX6_tries 22 = .ok (.iadd, 1) := by decide +kernel
theorem dX6_tries_23 : decode cX6_tries 23 = .ok (.iload_n 1, 1) := by decide +kernel
theorem dX6_tries_24 : decode cX6_tries 24 = .ok (.bipush 16, 2) := by decide +kernel
theorem dX6_tries_26 : decode cX6_tries 26 = .ok (.idiv, 1) := by decide +kernel
theorem dX6_tries_27 : decode cX6_tries 27 = .ok (.iload_n 2, 1) := by decide +kernel
theorem dX6_tries_28 : decode cX6_tries 28 = .ok (.iconst 1, 1) := by decide +kernel
theorem dX6_tries_29 : decode cX6_tries 29 = .ok (.isub, 1) := by decide +kernel
theorem dX6_tries_30 : decode cX6_tries 30 = .ok (.irem, 1) := by decide +kernel
theorem dX6_tries_31 : decode cX6_tries 31 = .ok (.iadd, 1) := by decide +kernel
theorem dX6_tries_32 : decode cX6_tries 32 = .ok (.iload_n 2, 1) := by decide +kernel
theorem dX6_tries_33 : decode cX6_tries 33 = .ok (.irem, 1) := by decide +kernel
theorem dX6_tries_34 : decode cX6_tries 34 = .ok (.istore 4, 2) := by decide +kernel
theorem dX6_tries_36 : decode cX6_tries 36 = .ok (.iload_n 1, 1) := by decide +kernel
theorem dX6_tries_37 : decode cX6_tries 37 = .ok (.sipush 128, 3) := by decide +kernel
theorem dX6_tries_40 : decode cX6_tries 40 = .ok (.idiv, 1) := by decide +kernel
theorem dX6_tries_41 : decode cX6_tries 41 = .ok (.iload_n 2, 1) := by decide +kernel
theorem dX6_tries_42 : decode cX6_tries 42 = .ok (.iconst 2, 1) := by decide +kernel
theorem dX6_tries_43 : decode cX6_tries 43 = .ok (.isub, 1) := by decide +kernel
theorem dX6_tries_44 : decode cX6_tries 44 = .ok (.irem, 1) := by decide +kernel
theorem dX6_tries_45 : decode cX6_tries 45 = .ok (.istore 5, 2) := by decide +kernel
theorem dX6_tries_47 : decode cX6_tries 47 = .ok (.bipush (-9), 2) := by decide +kernel
theorem dX6_tries_49 : decode cX6_tries 49 = .ok (.istore 6, 2) := by decide +kernel
theorem dX6_tries_51 : decode cX6_tries 51 = .ok (.iconst 0, 1) := by decide +kernel
theorem dX6_tries_52 : decode cX6_tries 52 = .ok (.istore 7, 2) := by decide +kernel
theorem dX6_tries_54 : decode cX6_tries 54 = .ok (.iload 7, 2) := by decide +kernel
theorem dX6_tries_56 : decode cX6_tries 56 = .ok (.iload_n 2, 1) := by decide +kernel
theorem dX6_tries_57 : decode cX6_tries 57 = .ok (.if_icmp .ge 39, 3) := by decide +kernel
theorem dX6_tries_60 : decode cX6_tries 60 = .ok (.iload 7, 2) := by decide +kernel
theorem dX6_tries_62 : decode cX6_tries 62 = .ok (.iload_n 3, 1) := by decide +kernel
theorem dX6_tries_63 : decode cX6_tries 63 = .ok (.if_icmp .eq 27, 3) := by decide +kernel
theorem dX6_tries_66 : decode cX6_tries 66 = .ok (.iload 7, 2) := by decide +kernel
theorem dX6_tries_68 : decode cX6_tries 68 = .ok (.iload 4, 2) := by decide +kernel
theorem dX6_tries_70 : decode cX6_tries 70 = .ok (.if_icmp .eq 20, 3) := by decide +kernel
theorem dX6_tries_73 : decode cX6_tries 73 = .ok (.iload 5, 2) := by decide +kernel
theorem dX6_tries_75 : decode cX6_tries 75 = .ok (.ifCond .ne 8, 3) := by decide +kernel
theorem dX6_tries_78 : decode cX6_tries 78 = .ok (.iload 7, 2) := by decide +kernel
theorem dX6_tries_80 : decode cX6_tries 80 = .ok (.goto 5, 3) := by decide +kernel
theorem dX6_tries_83 : decode cX6_tries 83 = .ok (.iload 6, 2) := by decide +kernel
theorem dX6_tries_85 : decode cX6_tries 85 = .ok (.istore 6, 2) := by decide +kernel
theorem dX6_tries_87 : decode cX6_tries 87 = .ok (.iinc 5 (-1), 3) := by decide +kernel
theorem dX6_tries_90 : decode cX6_tries 90 = .ok (.iinc 7 1, 3) := by decide +kernel
theorem dX6_tries_93 : decode cX6_tries 93 = .ok (.goto (-39), 3) := by decide +kernel
theorem dX6_tries_96 : decode cX6_tries 96 = .ok (.iload_n 1, 1) := by decide +kernel
theorem dX6_tries_97 : decode cX6_tries 97 = .ok (.sipush 1024, 3) := by decide +kernel
theorem dX6_tries_100 : decode cX6_tries 100 = .ok (.idiv, 1) := by decide +kernel
theorem dX6_tries_101 : decode cX6_tries 101 = .ok (.iconst 4, 1) := by decide +kernel
theorem dX6_tries_102 : decode cX6_tries 102 = .ok (.irem, 1) := by decide +kernel
theorem dX6_tries_103 : decode cX6_tries 103 = .ok (.istore 7, 2) := by decide +kernel
theorem dX6_tries_105 : decode cX6_tries 105 = .ok (.iload_n 1, 1) := by decide +kernel
theorem dX6_tries_106 : decode cX6_tries 106 = .ok (.iconst 2, 1) := by decide +kernel
theorem dX6_tries_107 : decode cX6_tries 107 = .ok (.irem, 1) := by decide +kernel
theorem dX6_tries_108 : decode cX6_tries 108 = .ok (.iconst 1, 1) := by decide +kernel
theorem dX6_tries_109 : decode cX6_tries 109 = .ok (.if_icmp .ne 7, 3) := by decide +kernel
theorem dX6_tries_112 : decode cX6_tries 112 = .ok (.iconst 1, 1) := by decide +kernel
theorem dX6_tries_113 : decode cX6_tries 113 = .ok (.goto 4, 3) := by decide +kernel
theorem dX6_tries_116 : decode cX6_tries 116 = .ok (.iconst 0, 1) := by decide +kernel
theorem dX6_tries_117 : decode cX6_tries 117 = .ok (.istore 8, 2) := by decide +kernel
theorem dX6_tries_119 : decode cX6_tries 119 = .ok (.iload 8, 2) := by decide +kernel
theorem dX6_tries_121 : decode cX6_tries 121 = .ok (.ifCond .eq 8, 3) := by decide +kernel
theorem dX6_tries_124 : decode cX6_tries 124 = .ok (.iload 4, 2) := by decide +kernel
theorem dX6_tries_126 : decode cX6_tries 126 = .ok (.goto 4, 3) := by decide +kernel
theorem dX6_tries_129 : decode cX6_tries 129 = .ok (.iload_n 3, 1) := by decide +kernel
theorem dX6_tries_130 : decode cX6_tries 130 = .ok (.istore 9, 2) := by decide +kernel
theorem dX6_tries_132 : decode cX6_tries 132 = .ok (.aload_n 0, 1) := by decide +kernel
theorem dX6_tries_133 : decode cX6_tries 133 = .ok (.iload 8, 2) := by decide +kernel
theorem dX6_tries_135 : decode cX6_tries 135 = .ok (.iload_n 3, 1) := by decide +kernel
theorem dX6_tries_136 : decode cX6_tries 136 = .ok (.iload 4, 2) := by decide +kernel
theorem dX6_tries_138 : decode cX6_tries 138 = .ok (.iload 7, 2) := by decide +kernel
theorem dX6_tries_140 : decode cX6_tries 140 = .ok (.iload 6, 2) := by decide +kernel
theorem dX6_tries_142 : decode cX6_tries 142 = .ok (.invokevirtual 173, 3) := by decide +kernel
theorem dX6_tries_145 : decode cX6_tries 145 = .ok (.ifCond .gt 25, 3) := by decide +kernel
theorem dX6_tries_148 : decode cX6_tries 148 = .ok (.aload_n 0, 1) := by decide +kernel
theorem dX6_tries_149 : decode cX6_tries 149 = .ok (.iload 9, 2) := by decide +kernel
theorem dX6_tries_151 : decode cX6_tries 151 = .ok (.iload 7, 2) := by decide +kernel
theorem dX6_tries_153 : decode cX6_tries 153 = .ok (.iload 6, 2) := by decide +kernel
theorem dX6_tries_155 : decode cX6_tries 155 = .ok (.invokevirtual 94, 3) := by decide +kernel
theorem dX6_tries_158 : decode cX6_tries 158 = .ok (.ifCond .ne 12, 3) := by decide +kernel
theorem dX6_tries_161 : decode cX6_tries 161 = .ok (.aload_n 0, 1) := by decide +kernel
theorem dX6_tries_162 : decode cX6_tries 162 = .ok (.invokevirtual 64, 3) := by decide +kernel
theorem dX6_tries_165 : decode cX6_tries 165 = .ok (.bipush 30, 2) := by decide +kernel
theorem dX6_tries_167 : decode cX6_tries 167 = .ok (.if_icmp .ne 5, 3) := by decide +kernel
theorem dX6_tries_170 : decode cX6_tries 170 = .ok (.iconst 0, 1) := by decide +kernel
theorem dX6_tries_171 : decode cX6_tries 171 = .ok (.ireturn, 1) := by decide +kernel
theorem dX6_tries_172 : decode cX6_tries 172 = .ok (.aload_n 0, 1) := by decide +kernel
theorem dX6_tries_173 : decode cX6_tries 173 = .ok (.iload 9, 2) := by decide +kernel
theorem dX6_tries_175 : decode cX6_tries 175 = .ok (.iload 7, 2) := by decide +kernel
theorem dX6_tries_177 : decode cX6_tries 177 = .ok (.iload 6, 2) := by decide +kernel
theorem dX6_tries_179 : decode cX6_tries 179 = .ok (.iconst 1, 1) := by decide +kernel
theorem dX6_tries_180 : decode cX6_tries 180 = .ok (.invokevirtual 166, 3) := by decide +kernel
theorem dX6_tries_183 : decode cX6_tries 183 = .ok (.iconst 1, 1) := by decide +kernel
theorem dX6_tries_184 : decode cX6_tries 184 = .ok (.ireturn, 1) := by decide +kernel
theorem dX6_simulate_0 : decode cX6_simulate 0 = .ok (.aload_n 0, 1) := by decide +kernel
theorem dX6_simulate_1 : decode cX6_simulate 1 = .ok (.iload_n 3, 1) := by decide +kernel
theorem dX6_simulate_2 : decode cX6_simulate 2 = .ok (.iconst 1, 1) := by decide +kernel
theorem dX6_simulate_3 : decode cX6_simulate 3 = .ok (.bipush 99, 2) := by decide +kernel
theorem dX6_simulate_5 : decode cX6_simulate 5 = .ok (.invokestatic 60, 3) := by decide +kernel
theorem dX6_simulate_8 : decode cX6_simulate 8 = .ok (.ifCond .eq 7, 3) := by decide +kernel
theorem dX6_simulate_11 : decode cX6_simulate 11 = .ok (.iconst 0, 1) := by decide +kernel
theorem dX6_simulate_12 : decode cX6_simulate 12 = .ok (.goto 4, 3) := by decide +kernel
theorem dX6_simulate_15 : decode cX6_simulate 15 = .ok (.iconst 1, 1) := by decide +kernel
theorem dX6_simulate_16 : decode cX6_simulate 16 = .ok (.putfield 53, 3) := by decide +kernel
theorem dX6_simulate_19 : decode cX6_simulate 19 = .ok (.aload_n 0, 1) := by decide +kernel
theorem dX6_simulate_20 : decode cX6_simulate 20 = .ok (.getfield 53, 3) := by decide +kernel
theorem dX6_simulate_23 : decode cX6_simulate 23 = .ok (.ifCond .le 5, 3) := by decide +kernel
theorem dX6_simulate_26 : decode cX6_simulate 26 = .ok (.iconst 0, 1) := by decide +kernel
theorem dX6_simulate_27 : decode cX6_simulate 27 = .ok (.ireturn, 1) := by decide +kernel
theorem dX6_simulate_28 : decode cX6_simulate 28 = .ok (.aload_n 0, 1) := by decide +kernel
theorem dX6_simulate_29 : decode cX6_simulate 29 = .ok (.invokevirtual 208, 3) := by decide +kernel
theorem dX6_simulate_32 : decode cX6_simulate 32 = .ok (.lload_n 1, 1) := by decide +kernel
theorem dX6_simulate_33 : decode cX6_simulate 33 = .ok (.lstore 4, 2) := by decide +kernel
theorem dX6_simulate_35 : decode cX6_simulate 35 = .ok (.iconst 0, 1) := by decide +kernel
theorem dX6_simulate_36 : decode cX6_simulate 36 = .ok (.istore 6, 2) := by decide +kernel
theorem dX6_simulate_38 : decode cX6_simulate 38 = .ok (.iconst 0, 1) := by decide +kernel
theorem dX6_simulate_39 : decode cX6_simulate 39 = .ok (.istore 7, 2) := by decide +kernel
theorem dX6_simulate_41 : decode cX6_simulate 41 = .ok (.iload 7, 2) := by decide +kernel
theorem dX6_simulate_43 : decode cX6_simulate 43 = .ok (.iload_n 3, 1) := by decide +kernel
theorem dX6_simulate_44 : decode cX6_simulate 44 = .ok (.if_icmp .ge 44, 3) := by decide +kernel
theorem dX6_simulate_47 : decode cX6_simulate 47 = .ok (.lload 4, 2) := by decide +kernel
theorem dX6_simulate_49 : decode cX6_simulate 49 = .ok (.ldc2_w 217, 3) := by decide +kernel
theorem dX6_simulate_52 : decode cX6_simulate 52 = .ok (.lmul, 1) := by decide +kernel
theorem dX6_simulate_53 : decode cX6_simulate 53 = .ok (.ldc2_w 219, 3) := by decide +kernel
theorem dX6_simulate_56 : decode cX6_simulate 56 = .ok (.ladd, 1) := by decide +kernel
theorem dX6_simulate_57 : decode cX6_simulate 57 = .ok (.lstore 4, 2) := by decide +kernel
theorem dX6_simulate_59 : decode cX6_simulate 59 = .ok (.iload 6, 2) := by decide +kernel
theorem dX6_simulate_61 : decode cX6_simulate 61 = .ok (.aload_n 0, 1) := by decide +kernel
theorem dX6_simulate_62 : decode cX6_simulate 62 = .ok (.lload 4, 2) := by decide +kernel
theorem dX6_simulate_64 : decode cX6_simulate 64 = .ok (.bipush 33, 2) := by decide +kernel
theorem dX6_simulate_66 : decode cX6_simulate 66 = .ok (.lushr, 1) := by decide +kernel
theorem dX6_simulate_67 : decode cX6_simulate 67 = .ok (.l2i, 1) := by decide +kernel
theorem dX6_simulate_68 : decode cX6_simulate 68 = .ok (.invokevirtual 221, 3) := by decide +kernel
theorem dX6_simulate_71 : decode cX6_simulate 71 = .ok (.ifCond .eq 7, 3) := by decide +kernel
theorem dX6_simulate_74 : decode cX6_simulate 74 = .ok (.iconst 1, 1) := by decide +kernel
theorem dX6_simulate_75 : decode cX6_simulate 75 = .ok (.goto 4, 3) := by decide +kernel
theorem dX6_simulate_78 : decode cX6_simulate 78 = .ok (.iconst 0, 1) := by decide +kernel
theorem dX6_simulate_79 : decode cX6_simulate 79 = .ok (.iadd, 1) := by decide +kernel
theorem dX6_simulate_80 : decode cX6_simulate 80 = .ok (.istore 6, 2) := by decide +kernel
theorem dX6_simulate_82 : decode cX6_simulate 82 = .ok (.iinc 7 1, 3) := by decide +kernel
theorem dX6_simulate_85 : decode cX6_simulate 85 = .ok (.goto (-44), 3) := by decide +kernel
theorem dX6_simulate_88 : decode cX6_simulate 88 = .ok (.aload_n 0, 1) := by decide +kernel
theorem dX6_simulate_89 : decode cX6_simulate 89 = .ok (.invokevirtual 64, 3) := by decide +kernel
theorem dX6_simulate_92 : decode cX6_simulate 92 = .ok (.istore 7, 2) := by decide +kernel
theorem dX6_simulate_94 : decode cX6_simulate 94 = .ok (.aload_n 0, 1) := by decide +kernel
theorem dX6_simulate_95 : decode cX6_simulate 95 = .ok (.invokevirtual 214, 3) := by decide +kernel
theorem dX6_simulate_98 : decode cX6_simulate 98 = .ok (.bipush 100, 2) := by decide +kernel
theorem dX6_simulate_100 : decode cX6_simulate 100 = .ok (.iload 6, 2) := by decide +kernel
theorem dX6_simulate_102 : decode cX6_simulate 102 = .ok (.imul, 1) := by decide +kernel
theorem dX6_simulate_103 : decode cX6_simulate 103 = .ok (.iload 7, 2) := by decide +kernel
theorem dX6_simulate_105 : decode cX6_simulate 105 = .ok (.iadd, 1) := by decide +kernel
theorem dX6_simulate_106 : decode cX6_simulate 106 = .ok (.ireturn, 1) := by decide +kernel
