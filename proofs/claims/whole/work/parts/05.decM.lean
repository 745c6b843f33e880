theorem dX11_init_0 : decode cX11_init 0 = .ok (.aload_n 0, 1) := by decide +kernel
theorem dX11_init_1 : decode cX11_init 1 = .ok (.invokespecial 1, 3) := by decide +kernel
theorem dX11_init_4 : decode cX11_init 4 = .ok (.aload_n 0, 1) := by decide +kernel
theorem dX11_init_5 : decode cX11_init 5 = .ok (.sipush 258, 3) := by decide +kernel
theorem dX11_init_8 : decode cX11_init 8 = .ok (.newarray .int, 2) := by decide +kernel
theorem dX11_init_10 : decode cX11_init 10 = .ok (.putfield 7, 3) := by decide +kernel
theorem dX11_init_13 : decode cX11_init 13 = .ok (.aload_n 0, 1) := by decide +kernel
theorem dX11_init_14 : decode cX11_init 14 = .ok (.sipush 258, 3) := by decide +kernel
theorem dX11_init_17 : decode cX11_init 17 = .ok (.newarray .int, 2) := by decide +kernel
theorem dX11_init_19 : decode cX11_init 19 = .ok (.putfield 13, 3) := by decide +kernel
theorem dX11_init_22 : decode cX11_init 22 = .ok (.aload_n 0, 1) := by decide +kernel
theorem dX11_init_23 : decode cX11_init 23 = .ok (.sipush 258, 3) := by decide +kernel
theorem dX11_init_26 : decode cX11_init 26 = .ok (.newarray .int, 2) := by decide +kernel
theorem dX11_init_28 : decode cX11_init 28 = .ok (.putfield 16, 3) := by decide +kernel
theorem dX11_init_31 : decode cX11_init 31 = .ok (.aload_n 0, 1) := by decide +kernel
theorem dX11_init_32 : decode cX11_init 32 = .ok (.sipush 2064, 3) := by decide +kernel
theorem dX11_init_35 : decode cX11_init 35 = .ok (.newarray .int, 2) := by decide +kernel
theorem dX11_init_37 : decode cX11_init 37 = .ok (.putfield 19, 3) := by decide +kernel
theorem dX11_init_40 : decode cX11_init 40 = .ok (.aload_n 0, 1) := by decide +kernel
theorem dX11_init_41 : decode cX11_init 41 = .ok (.sipush 258, 3) := by decide +kernel
theorem dX11_init_44 : decode cX11_init 44 = .ok (.newarray .int, 2) := by decide +kernel
theorem dX11_init_46 : decode cX11_init 46 = .ok (.putfield 22, 3) := by decide +kernel
theorem dX11_init_49 : decode cX11_init 49 = .ok (.aload_n 0, 1) := by decide +kernel
theorem dX11_init_50 : decode cX11_init 50 = .ok (.bipush 60, 2) := by decide +kernel
theorem dX11_init_52 : decode cX11_init 52 = .ok (.newarray .int, 2) := by decide +kernel
theorem dX11_init_54 : decode cX11_init 54 = .ok (.putfield 25, 3) := by decide +kernel
theorem dX11_init_57 : decode cX11_init 57 = .ok (.aload_n 0, 1) := by decide +kernel
theorem dX11_init_58 : decode cX11_init 58 = .ok (.sipush 180, 3) := by decide +kernel
theorem dX11_init_61 : decode cX11_init 61 = .ok (.newarray .int, 2) := by decide +kernel
theorem dX11_init_63 : decode cX11_init 63 = .ok (.putfield 28, 3) := by decide +kernel
theorem dX11_init_66 : decode cX11_init 66 = .ok (.aload_n 0, 1) := by decide +kernel
theorem dX11_init_67 : decode cX11_init 67 = .ok (.bipush 40, 2) := by decide +kernel
theorem dX11_init_69 : decode cX11_init 69 = .ok (.newarray .int, 2) := by decide +kernel
theorem dX11_init_71 : decode cX11_init 71 = .ok (.putfield 31, 3) := by decide +kernel
theorem dX11_init_74 : decode cX11_init 74 = .ok (.aload_n 0, 1) := by decide +kernel
theorem dX11_init_75 : decode cX11_init 75 = .ok (.iconst (-1), 1) := by decide +kernel
theorem dX11_init_76 : decode cX11_init 76 = .ok (.putfield 34, 3) := by decide +kernel
theorem dX11_init_79 : decode cX11_init 79 = .ok (.aload_n 0, 1) := by decide +kernel
theorem dX11_init_80 : decode cX11_init 80 = .ok (.iconst (-1), 1) := by decide +kernel
theorem dX11_init_81 : decode cX11_init 81 = .ok (.putfield 38, 3) := by decide +kernel
theorem dX11_init_84 : decode cX11_init 84 = .ok (.return_, 1) := by decide +kernel
theorem dX11_thrown_0 : decode cX11_thrown 0 = .ok (.aload_n 0, 1) := by decide +kernel
theorem dX11_thrown_1 : decode cX11_thrown 1 = .ok (.getfield 41, 3) := by decide +kernel
theorem dX11_thrown_4 : decode cX11_thrown 4 = .ok (.ireturn, 1) := by decide +kernel
theorem dX11_fails_0 : decode cX11_fails 0 = .ok (.aload_n 0, 1) := by decide +kernel
theorem dX11_fails_1 : decode cX11_fails 1 = .ok (.iload_n 1, 1) := by decide +kernel
theorem dX11_fails_2 : decode cX11_fails 2 = .ok (.putfield 41, 3) := by decide +kernel
theorem dX11_fails_5 : decode cX11_fails 5 = .ok (.iconst 0, 1) := by decide +kernel
theorem dX11_fails_6 : decode cX11_fails 6 = .ok (.ireturn, 1) := by decide +kernel
theorem dX11_in_0 : decode cX11_in 0 = .ok (.iload_n 0, 1) := by decide +kernel
theorem dX11_in_1 : decode cX11_in 1 = .ok (.iload_n 1, 1) := by decide +kernel
theorem dX11_in_2 : decode cX11_in 2 = .ok (.if_icmp .lt 12, 3) := by decide +kernel
theorem dX11_in_5 : decode cX11_in 5 = .ok (.iload_n 0, 1) := by decide +kernel
theorem dX11_in_6 : decode cX11_in 6 = .ok (.iload_n 2, 1) := by decide +kernel
theorem dX11_in_7 : decode cX11_in 7 = .ok (.if_icmp .gt 7, 3) := by decide +kernel
theorem dX11_in_10 : decode cX11_in 10 = .ok (.iconst 1, 1) := by decide +kernel
theorem dX11_in_11 : decode cX11_in 11 = .ok (.goto 4, 3) := by decide +kernel
theorem dX11_in_14 : decode cX11_in 14 = .ok (.iconst 0, 1) := by decide +kernel
theorem dX11_in_15 : decode cX11_in 15 = .ok (.ireturn, 1) := by decide +kernel
theorem dX11_remembersAll_0 : decode cX11_remembersAll 0 = .ok (.aload_n 0, 1) := by decide +kernel
theorem dX11_remembersAll_1 : decode cX11_remembersAll 1 = .ok (.iconst 0, 1) := by decide +kernel
theorem dX11_remembersAll_2 : decode cX11_remembersAll 2 = .ok (.putfield 41, 3) := by decide +kernel
theorem dX11_remembersAll_5 : decode cX11_remembersAll 5 = .ok (.iconst 0, 1) := by decide +kernel
theorem dX11_remembersAll_6 : decode cX11_remembersAll 6 = .ok (.istore_n 1, 1) := by decide +kernel
theorem dX11_remembersAll_7 : decode cX11_remembersAll 7 = .ok (.iload_n 1, 1) := by decide +kernel
theorem dX11_remembersAll_8 : decode cX11_remembersAll 8 = .ok (.sipush 258, 3) := by decide +kernel
theorem dX11_remembersAll_11 : decode cX11_remembersAll 11 = .ok (.if_icmp .ge 21, 3) := by decide +kernel
theorem dX11_remembersAll_14 : decode cX11_remembersAll 14 = .ok (.aload_n 0, 1) := by decide +kernel
theorem dX11_remembersAll_15 : decode cX11_remembersAll 15 = .ok (.getfield 13, 3) := by decide +kernel
theorem dX11_remembersAll_18 : decode cX11_remembersAll 18 = .ok (.iload_n 1, 1) := by decide +kernel
theorem dX11_remembersAll_19 : decode cX11_remembersAll 19 = .ok (.aload_n 0, 1) := by decide +kernel
theorem dX11_remembersAll_20 : decode cX11_remembersAll 20 = .ok (.getfield 7, 3) := by decide +kernel
theorem dX11_remembersAll_23 : decode cX11_remembersAll 23 = .ok (.iload_n 1, 1) := by decide +kernel
theorem dX11_remembersAll_24 : decode cX11_remembersAll 24 = .ok (.iaload, 1) := by decide +kernel
theorem dX11_remembersAll_25 : decode cX11_remembersAll 25 = .ok (.iastore, 1) := by decide +kernel
theorem dX11_remembersAll_26 : decode cX11_remembersAll 26 = .ok (.iinc 1 1, 3) := by decide +kernel
theorem dX11_remembersAll_29 : decode cX11_remembersAll 29 = .ok (.goto (-22), 3) := by decide +kernel
theorem dX11_remembersAll_32 : decode cX11_remembersAll 32 = .ok (.return_, 1) := by decide +kernel
theorem dX11_changed_0 : decode cX11_changed 0 = .ok (.aload_n 0, 1) := by decide +kernel
theorem dX11_changed_1 : decode cX11_changed 1 = .ok (.getfield 44, 3) := by decide +kernel
theorem dX11_changed_4 : decode cX11_changed 4 = .ok (.bipush 8, 2) := by decide +kernel
theorem dX11_changed_6 : decode cX11_changed 6 = .ok (.if_icmp .ne 37, 3) := by decide +kernel
theorem dX11_changed_9 : decode cX11_changed 9 = .ok (.iconst 0, 1) := by decide +kernel
theorem dX11_changed_10 : decode cX11_changed 10 = .ok (.istore_n 2, 1) := by decide +kernel
theorem dX11_changed_11 : decode cX11_changed 11 = .ok (.iload_n 2, 1) := by decide +kernel
theorem dX11_changed_12 : decode cX11_changed 12 = .ok (.sipush 1806, 3) := by decide +kernel
theorem dX11_changed_15 : decode cX11_changed 15 = .ok (.if_icmp .ge 25, 3) := by decide +kernel
theorem dX11_changed_18 : decode cX11_changed 18 = .ok (.aload_n 0, 1) := by decide +kernel
theorem dX11_changed_19 : decode cX11_changed 19 = .ok (.getfield 19, 3) := by decide +kernel
theorem dX11_changed_22 : decode cX11_changed 22 = .ok (.iload_n 2, 1) := by decide +kernel
theorem dX11_changed_23 : decode cX11_changed 23 = .ok (.aload_n 0, 1) := by decide +kernel
theorem dX11_changed_24 : decode cX11_changed 24 = .ok (.getfield 19, 3) := by decide +kernel
theorem dX11_changed_27 : decode cX11_changed 27 = .ok (.iload_n 2, 1) := by decide +kernel
theorem dX11_changed_28 : decode cX11_changed 28 = .ok (.sipush 258, 3) := by decide +kernel
theorem dX11_changed_31 : decode cX11_changed 31 = .ok (.iadd, 1) := by decide +kernel
theorem dX11_changed_32 : decode cX11_changed 32 = .ok (.iaload, 1) := by decide +kernel
theorem dX11_changed_33 : decode cX11_changed 33 = .ok (.iastore, 1) := by decide +kernel
theorem dX11_changed_34 : decode cX11_changed 34 = .ok (.iinc 2 1, 3) := by decide +kernel
theorem dX11_changed_37 : decode cX11_changed 37 = .ok (.goto (-26), 3) := by decide +kernel
theorem dX11_changed_40 : decode cX11_changed 40 = .ok (.goto 13, 3) := by decide +kernel
theorem dX11_changed_43 : decode cX11_changed 43 = .ok (.aload_n 0, 1) := by decide +kernel
theorem dX11_changed_44 : decode cX11_changed 44 = .ok (.dup, 1) := by decide +kernel
theorem dX11_changed_45 : decode cX11_changed 45 = .ok (.getfield 44, 3) := by decide +kernel
theorem dX11_changed_48 : decode cX11_changed 48 = .ok (.iconst 1, 1) := by decide +kernel
theorem dX11_changed_49 : decode cX11_changed 49 = .ok (.iadd, 1) := by decide +kernel
theorem dX11_changed_50 : decode cX11_changed 50 = .ok (.putfield 44, 3) := by decide +kernel
theorem dX11_changed_53 : decode cX11_changed 53 = .ok (.iconst 0, 1) := by decide +kernel
theorem dX11_changed_54 : decode cX11_changed 54 = .ok (.istore_n 2, 1) := by decide +kernel
theorem dX11_changed_55 : decode cX11_changed 55 = .ok (.iload_n 2, 1) := by decide +kernel
theorem dX11_changed_56 : decode cX11_changed 56 = .ok (.sipush 258, 3) := by decide +kernel
theorem dX11_changed_59 : decode cX11_changed 59 = .ok (.if_icmp .ge 32, 3) := by decide +kernel
theorem dX11_changed_62 : decode cX11_changed 62 = .ok (.aload_n 0, 1) := by decide +kernel
theorem dX11_changed_63 : decode cX11_changed 63 = .ok (.getfield 19, 3) := by decide +kernel
theorem dX11_changed_66 : decode cX11_changed 66 = .ok (.sipush 258, 3) := by decide +kernel
theorem dX11_changed_69 : decode cX11_changed 69 = .ok (.aload_n 0, 1) := by decide +kernel
theorem dX11_changed_70 : decode cX11_changed 70 = .ok (.getfield 44, 3) := by decide +kernel
theorem dX11_changed_73 : decode cX11_changed 73 = .ok (.iconst 1, 1) := by decide +kernel
theorem dX11_changed_74 : decode cX11_changed 74 = .ok (.isub, 1) := by decide +kernel
theorem dX11_changed_75 : decode cX11_changed 75 = .ok (.imul, 1) := by decide +kernel
theorem dX11_changed_76 : decode cX11_changed 76 = .ok (.iload_n 2, 1) := by decide +kernel
theorem dX11_changed_77 : decode cX11_changed 77 = .ok (.iadd, 1) := by decide +kernel
theorem dX11_changed_78 : decode cX11_changed 78 = .ok (.aload_n 0, 1) := by decide +kernel
theorem dX11_changed_79 : decode cX11_changed 79 = .ok (.getfield 13, 3) := by decide +kernel
theorem dX11_changed_82 : decode cX11_changed 82 = .ok (.iload_n 2, 1) := by decide +kernel
theorem dX11_changed_83 : decode cX11_changed 83 = .ok (.iaload, 1) := by decide +kernel
theorem dX11_changed_84 : decode cX11_changed 84 = .ok (.iastore, 1) := by decide +kernel
theorem dX11_changed_85 : decode cX11_changed 85 = .ok (.iinc 2 1, 3) := by decide +kernel
theorem dX11_changed_88 : decode cX11_changed 88 = .ok (.goto (-33), 3) := by decide +kernel
theorem dX11_changed_91 : decode cX11_changed 91 = .ok (.iload_n 1, 1) := by decide +kernel
theorem dX11_changed_92 : decode cX11_changed 92 = .ok (.ireturn, 1) := by decide +kernel
theorem dX11_done_0 : decode cX11_done 0 = .ok (.aload_n 0, 1) := by decide +kernel
theorem dX11_done_1 : decode cX11_done 1 = .ok (.iload_n 1, 1) := by decide +kernel
theorem dX11_done_2 : decode cX11_done 2 = .ok (.putfield 47, 3) := by decide +kernel
theorem dX11_done_5 : decode cX11_done 5 = .ok (.iconst 0, 1) := by decide +kernel
theorem dX11_done_6 : decode cX11_done 6 = .ok (.ireturn, 1) := by decide +kernel
theorem dX11_ends_0 : decode cX11_ends 0 = .ok (.iload_n 1, 1) := by decide +kernel
theorem dX11_ends_1 : decode cX11_ends 1 = .ok (.ifCond .ne 14, 3) := by decide +kernel
theorem dX11_ends_4 : decode cX11_ends 4 = .ok (.aload_n 0, 1) := by decide +kernel
theorem dX11_ends_5 : decode cX11_ends 5 = .ok (.aload_n 0, 1) := by decide +kernel
theorem dX11_ends_6 : decode cX11_ends 6 = .ok (.getfield 47, 3) := by decide +kernel
theorem dX11_ends_9 : decode cX11_ends 9 = .ok (.invokevirtual 50, 3) := by decide +kernel
theorem dX11_ends_12 : decode cX11_ends 12 = .ok (.goto 8, 3) := by decide +kernel
theorem dX11_ends_15 : decode cX11_ends 15 = .ok (.aload_n 0, 1) := by decide +kernel
theorem dX11_ends_16 : decode cX11_ends 16 = .ok (.iload_n 1, 1) := by decide +kernel
theorem dX11_ends_17 : decode cX11_ends 17 = .ok (.invokevirtual 54, 3) := by decide +kernel
theorem dX11_ends_20 : decode cX11_ends 20 = .ok (.ireturn, 1) := by decide +kernel
theorem dX11_isNest_0 : decode cX11_isNest 0 = .ok (.iload_n 1, 1) := by decide +kernel
theorem dX11_isNest_1 : decode cX11_isNest 1 = .ok (.iconst 0, 1) := by decide +kernel
theorem dX11_isNest_2 : decode cX11_isNest 2 = .ok (.aload_n 0, 1) := by decide +kernel
theorem dX11_isNest_3 : decode cX11_isNest 3 = .ok (.getfield 7, 3) := by decide +kernel
theorem dX11_isNest_6 : decode cX11_isNest 6 = .ok (.iconst 0, 1) := by decide +kernel
theorem dX11_isNest_7 : decode cX11_isNest 7 = .ok (.iaload, 1) := by decide +kernel
theorem dX11_isNest_8 : decode cX11_isNest 8 = .ok (.iconst 1, 1) := by decide +kernel
theorem dX11_isNest_9 : decode cX11_isNest 9 = .ok (.isub, 1) := by decide +kernel
theorem dX11_isNest_10 : decode cX11_isNest 10 = .ok (.invokestatic 57, 3) := by decide +kernel
theorem dX11_isNest_13 : decode cX11_isNest 13 = .ok (.ireturn, 1) := by decide +kernel
theorem dX11_isCrow_0 : decode cX11_isCrow 0 = .ok (.iload_n 1, 1) := by decide +kernel
theorem dX11_isCrow_1 : decode cX11_isCrow 1 = .ok (.iconst 0, 1) := by decide +kernel
theorem dX11_isCrow_2 : decode cX11_isCrow 2 = .ok (.aload_n 0, 1) := by decide +kernel
theorem dX11_isCrow_3 : decode cX11_isCrow 3 = .ok (.getfield 7, 3) := by decide +kernel
theorem dX11_isCrow_6 : decode cX11_isCrow 6 = .ok (.iconst 1, 1) := by decide +kernel
theorem dX11_isCrow_7 : decode cX11_isCrow 7 = .ok (.iaload, 1) := by decide +kernel
theorem dX11_isCrow_8 : decode cX11_isCrow 8 = .ok (.iconst 1, 1) := by decide +kernel
theorem dX11_isCrow_9 : decode cX11_isCrow 9 = .ok (.isub, 1) := by decide +kernel
theorem dX11_isCrow_10 : decode cX11_isCrow 10 = .ok (.invokestatic 57, 3) := by decide +kernel
theorem dX11_isCrow_13 : decode cX11_isCrow 13 = .ok (.ireturn, 1) := by decide +kernel
theorem dX11_nest_0 : decode cX11_nest 0 = .ok (.aload_n 0, 1) := by decide +kernel
theorem dX11_nest_1 : decode cX11_nest 1 = .ok (.getfield 7, 3) := by decide +kernel
theorem dX11_nest_4 : decode cX11_nest 4 = .ok (.bipush 12, 2) := by decide +kernel
theorem dX11_nest_6 : decode cX11_nest 6 = .ok (.bipush 21, 2) := by decide +kernel
theorem dX11_nest_8 : decode cX11_nest 8 = .ok (.iload_n 1, 1) := by decide +kernel
theorem dX11_nest_9 : decode cX11_nest 9 = .ok (.imul, 1) := by decide +kernel
theorem dX11_nest_10 : decode cX11_nest 10 = .ok (.iadd, 1) := by decide +kernel
theorem dX11_nest_11 : decode cX11_nest 11 = .ok (.iload_n 2, 1) := by decide +kernel
theorem dX11_nest_12 : decode cX11_nest 12 = .ok (.iadd, 1) := by decide +kernel
theorem dX11_nest_13 : decode cX11_nest 13 = .ok (.iaload, 1) := by decide +kernel
theorem dX11_nest_14 : decode cX11_nest 14 = .ok (.ireturn, 1) := by decide +kernel
theorem dX11_setsNest_0 : decode cX11_setsNest 0 = .ok (.aload_n 0, 1) := by decide +kernel
theorem dX11_setsNest_1 : decode cX11_setsNest 1 = .ok (.getfield 7, 3) := by decide +kernel
theorem dX11_setsNest_4 : decode cX11_setsNest 4 = .ok (.bipush 12, 2) := by decide +kernel
theorem dX11_setsNest_6 : decode cX11_setsNest 6 = .ok (.bipush 21, 2) := by decide +kernel
theorem dX11_setsNest_8 : decode cX11_setsNest 8 = .ok (.iload_n 1, 1) := by decide +kernel
theorem dX11_setsNest_9 : decode cX11_setsNest 9 = .ok (.imul, 1) := by decide +kernel
theorem dX11_setsNest_10 : decode cX11_setsNest 10 = .ok (.iadd, 1) := by decide +kernel
theorem dX11_setsNest_11 : decode cX11_setsNest 11 = .ok (.iload_n 2, 1) := by decide +kernel
theorem dX11_setsNest_12 : decode cX11_setsNest 12 = .ok (.iadd, 1) := by decide +kernel
theorem dX11_setsNest_13 : decode cX11_setsNest 13 = .ok (.iload_n 3, 1) := by decide +kernel
theorem dX11_setsNest_14 : decode cX11_setsNest 14 = .ok (.iastore, 1) := by decide +kernel
theorem dX11_setsNest_15 : decode cX11_setsNest 15 = .ok (.return_, 1) := by decide +kernel
theorem dX11_of_0 : decode cX11_of 0 = .ok (.aload_n 0, 1) := by decide +kernel
theorem dX11_of_1 : decode cX11_of 1 = .ok (.getfield 7, 3) := by decide +kernel
theorem dX11_of_4 : decode cX11_of 4 = .ok (.sipush 146, 3) := by decide +kernel
theorem dX11_of_7 : decode cX11_of 7 = .ok (.bipush 7, 2) := by decide +kernel
theorem dX11_of_9 : decode cX11_of 9 = .ok (.iload_n 1, 1) := by decide +kernel
theorem dX11_of_10 : decode cX11_of 10 = .ok (.imul, 1) := by decide +kernel
theorem dX11_of_11 : decode cX11_of 11 = .ok (.iadd, 1) := by decide +kernel
theorem dX11_of_12 : decode cX11_of 12 = .ok (.iload_n 2, 1) := by decide +kernel
theorem dX11_of_13 : decode cX11_of 13 = .ok (.iadd, 1) := by decide +kernel
theorem dX11_of_14 : decode cX11_of 14 = .ok (.iaload, 1) := by decide +kernel
theorem dX11_of_15 : decode cX11_of 15 = .ok (.ireturn, 1) := by decide +kernel
theorem dX11_sets_0 : decode cX11_sets 0 = .ok (.aload_n 0, 1) := by decide +kernel
theorem dX11_sets_1 : decode cX11_sets 1 = .ok (.getfield 7, 3) := by decide +kernel
theorem dX11_sets_4 : decode cX11_sets 4 = .ok (.sipush 146, 3) := by decide +kernel
theorem dX11_sets_7 : decode cX11_sets 7 = .ok (.bipush 7, 2) := by decide +kernel
theorem dX11_sets_9 : decode cX11_sets 9 = .ok (.iload_n 1, 1) := by decide +kernel
theorem dX11_sets_10 : decode cX11_sets 10 = .ok (.imul, 1) := by decide +kernel
theorem dX11_sets_11 : decode cX11_sets 11 = .ok (.iadd, 1) := by decide +kernel
theorem dX11_sets_12 : decode cX11_sets 12 = .ok (.iload_n 2, 1) := by decide +kernel
theorem dX11_sets_13 : decode cX11_sets 13 = .ok (.iadd, 1) := by decide +kernel
theorem dX11_sets_14 : decode cX11_sets 14 = .ok (.iload_n 3, 1) := by decide +kernel
theorem dX11_sets_15 : decode cX11_sets 15 = .ok (.iastore, 1) := by decide +kernel
theorem dX11_sets_16 : decode cX11_sets 16 = .ok (.return_, 1) := by decide +kernel
theorem dX11_placeOf_0 : decode cX11_placeOf 0 = .ok (.iconst 0, 1) := by decide +kernel
theorem dX11_placeOf_1 : decode cX11_placeOf 1 = .ok (.istore_n 2, 1) := by decide +kernel
theorem dX11_placeOf_2 : decode cX11_placeOf 2 = .ok (.iload_n 2, 1) := by decide +kernel
theorem dX11_placeOf_3 : decode cX11_placeOf 3 = .ok (.aload_n 0, 1) := by decide +kernel
theorem dX11_placeOf_4 : decode cX11_placeOf 4 = .ok (.getfield 7, 3) := by decide +kernel
theorem dX11_placeOf_7 : decode cX11_placeOf 7 = .ok (.iconst 2, 1) := by decide +kernel
theorem dX11_placeOf_8 : decode cX11_placeOf 8 = .ok (.iaload, 1) := by decide +kernel
theorem dX11_placeOf_9 : decode cX11_placeOf 9 = .ok (.if_icmp .ge 21, 3) := by decide +kernel
theorem dX11_placeOf_12 : decode cX11_placeOf 12 = .ok (.aload_n 0, 1) := by decide +kernel
theorem dX11_placeOf_13 : decode cX11_placeOf 13 = .ok (.iload_n 2, 1) := by decide +kernel
theorem dX11_placeOf_14 : decode cX11_placeOf 14 = .ok (.iconst 0, 1) := by decide +kernel
theorem dX11_placeOf_15 : decode cX11_placeOf 15 = .ok (.invokevirtual 61, 3) := by decide +kernel
theorem dX11_placeOf_18 : decode cX11_placeOf 18 = .ok (.iload_n 1, 1) := by decide +kernel
theorem dX11_placeOf_19 : decode cX11_placeOf 19 = .ok (.if_icmp .ne 5, 3) := by decide +kernel
theorem dX11_placeOf_22 : decode cX11_placeOf 22 = .ok (.iload_n 2, 1) := by decide +kernel
theorem dX11_placeOf_23 : decode cX11_placeOf 23 = .ok (.ireturn, 1) := by decide +kernel
theorem dX11_placeOf_24 : decode cX11_placeOf 24 = .ok (.iinc 2 1, 3) := by decide +kernel
theorem dX11_placeOf_27 : decode cX11_placeOf 27 = .ok (.goto (-25), 3) := by decide +kernel
theorem dX11_placeOf_30 : decode cX11_placeOf 30 = .ok (.iconst (-1), 1) := by decide +kernel
theorem dX11_placeOf_31 : decode cX11_placeOf 31 = .ok (.ireturn, 1) := by decide +kernel
theorem dX11_ceases_0 : decode cX11_ceases 0 = .ok (.aload_n 0, 1) := by decide +kernel
theorem dX11_ceases_1 : decode cX11_ceases 1 = .ok (.getfield 7, 3) := by decide +kernel
theorem dX11_ceases_4 : decode cX11_ceases 4 = .ok (.iconst 2, 1) := by decide +kernel
theorem dX11_ceases_5 : decode cX11_ceases 5 = .ok (.iaload, 1) := by decide +kernel
theorem dX11_ceases_6 : decode cX11_ceases 6 = .ok (.iconst 1, 1) := by decide +kernel
theorem dX11_ceases_7 : decode cX11_ceases 7 = .ok (.isub, 1) := by decide +kernel
theorem dX11_ceases_8 : decode cX11_ceases 8 = .ok (.istore_n 2, 1) := by decide +kernel
theorem dX11_ceases_9 : decode cX11_ceases 9 = .ok (.bipush 7, 2) := by decide +kernel
theorem dX11_ceases_11 : decode cX11_ceases 11 = .ok (.iload_n 1, 1) := by decide +kernel
theorem dX11_ceases_12 : decode cX11_ceases 12 = .ok (.imul, 1) := by decide +kernel
theorem dX11_ceases_13 : decode cX11_ceases 13 = .ok (.istore_n 3, 1) := by decide +kernel
theorem dX11_ceases_14 : decode cX11_ceases 14 = .ok (.iload_n 3, 1) := by decide +kernel
theorem dX11_ceases_15 : decode cX11_ceases 15 = .ok (.bipush 7, 2) := by decide +kernel
theorem dX11_ceases_17 : decode cX11_ceases 17 = .ok (.iload_n 2, 1) := by decide +kernel
theorem dX11_ceases_18 : decode cX11_ceases 18 = .ok (.imul, 1) := by decide +kernel
theorem dX11_ceases_19 : decode cX11_ceases 19 = .ok (.if_icmp .ge 32, 3) := by decide +kernel
theorem dX11_ceases_22 : decode cX11_ceases 22 = .ok (.aload_n 0, 1) := by decide +kernel
theorem dX11_ceases_23 : decode cX11_ceases 23 = .ok (.getfield 7, 3) := by decide +kernel
theorem dX11_ceases_26 : decode cX11_ceases 26 = .ok (.sipush 146, 3) := by decide +kernel
theorem dX11_ceases_29 : decode cX11_ceases 29 = .ok (.iload_n 3, 1) := by decide +kernel
theorem dX11_ceases_30 : decode cX11_ceases 30 = .ok (.iadd, 1) := by decide +kernel
theorem dX11_ceases_31 : decode cX11_ceases 31 = .ok (.aload_n 0, 1) := by decide +kernel
theorem dX11_ceases_32 : decode cX11_ceases 32 = .ok (.getfield 7, 3) := by decide +kernel
theorem dX11_ceases_35 : decode cX11_ceases 35 = .ok (.sipush 146, 3) := by decide +kernel
theorem dX11_ceases_38 : decode cX11_ceases 38 = .ok (.iload_n 3, 1) := by decide +kernel
theorem dX11_ceases_39 : decode cX11_ceases 39 = .ok (.iadd, 1) := by decide +kernel
theorem dX11_ceases_40 : decode cX11_ceases 40 = .ok (.bipush 7, 2) := by decide +kernel
theorem dX11_ceases_42 : decode cX11_ceases 42 = .ok (.iadd, 1) := by decide +kernel
theorem dX11_ceases_43 : decode cX11_ceases 43 = .ok (.iaload, 1) := by decide +kernel
theorem dX11_ceases_44 : decode cX11_ceases 44 = .ok (.iastore, 1) := by decide +kernel
theorem dX11_ceases_45 : decode cX11_ceases 45 = .ok (.iinc 3 1, 3) := by decide +kernel
theorem dX11_ceases_48 : decode cX11_ceases 48 = .ok (.goto (-34), 3) := by decide +kernel
theorem dX11_ceases_51 : decode cX11_ceases 51 = .ok (.iconst 0, 1) := by decide +kernel
theorem dX11_ceases_52 : decode cX11_ceases 52 = .ok (.istore_n 3, 1) := by decide +kernel
theorem dX11_ceases_53 : decode cX11_ceases 53 = .ok (.iload_n 3, 1) := by decide +kernel
theorem dX11_ceases_54 : decode cX11_ceases 54 = .ok (.bipush 7, 2) := by decide +kernel
theorem dX11_ceases_56 : decode cX11_ceases 56 = .ok (.if_icmp .ge 25, 3) := by decide +kernel
theorem dX11_ceases_59 : decode cX11_ceases 59 = .ok (.aload_n 0, 1) := by decide +kernel
theorem dX11_ceases_60 : decode cX11_ceases 60 = .ok (.getfield 7, 3) := by decide +kernel
theorem dX11_ceases_63 : decode cX11_ceases 63 = .ok (.sipush 146, 3) := by decide +kernel
theorem dX11_ceases_66 : decode cX11_ceases 66 = .ok (.bipush 7, 2) := by decide +kernel
theorem dX11_ceases_68 : decode cX11_ceases 68 = .ok (.iload_n 2, 1) := by decide +kernel
theorem dX11_ceases_69 : decode cX11_ceases 69 = .ok (.imul, 1) := by decide +kernel
theorem dX11_ceases_70 : decode cX11_ceases 70 = .ok (.iadd, 1) := by decide +kernel
theorem dX11_ceases_71 : decode cX11_ceases 71 = .ok (.iload_n 3, 1) := by decide +kernel
theorem dX11_ceases_72 : decode cX11_ceases 72 = .ok (.iadd, 1) := by decide +kernel
theorem dX11_ceases_73 : decode cX11_ceases 73 = .ok (.iconst 0, 1) := by decide +kernel
theorem dX11_ceases_74 : decode cX11_ceases 74 = .ok (.iastore, 1) := by decide +kernel
theorem dX11_ceases_75 : decode cX11_ceases 75 = .ok (.iinc 3 1, 3) := by decide +kernel
theorem dX11_ceases_78 : decode cX11_ceases 78 = .ok (.goto (-25), 3) := by decide +kernel
theorem dX11_ceases_81 : decode cX11_ceases 81 = .ok (.aload_n 0, 1) := by decide +kernel
theorem dX11_ceases_82 : decode cX11_ceases 82 = .ok (.getfield 7, 3) := by decide +kernel
theorem dX11_ceases_85 : decode cX11_ceases 85 = .ok (.iconst 2, 1) := by decide +kernel
theorem dX11_ceases_86 : decode cX11_ceases 86 = .ok (.iload_n 2, 1) := by decide +kernel
theorem dX11_ceases_87 : decode cX11_ceases 87 = .ok (.iastore, 1) := by decide +kernel
theorem dX11_ceases_88 : decode cX11_ceases 88 = .ok (.return_, 1) := by decide +kernel
theorem dX11_knows_0 : decode cX11_knows 0 = .ok (.iconst 0, 1) := by decide +kernel
theorem dX11_knows_1 : decode cX11_knows 1 = .ok (.istore_n 3, 1) := by decide +kernel
theorem dX11_knows_2 : decode cX11_knows 2 = .ok (.iload_n 3, 1) := by decide +kernel
theorem dX11_knows_3 : decode cX11_knows 3 = .ok (.aload_n 0, 1) := by decide +kernel
theorem dX11_knows_4 : decode cX11_knows 4 = .ok (.iload_n 1, 1) := by decide +kernel
theorem dX11_knows_5 : decode cX11_knows 5 = .ok (.bipush 11, 2) := by decide +kernel
theorem dX11_knows_7 : decode cX11_knows 7 = .ok (.invokevirtual 65, 3) := by decide +kernel
theorem dX11_knows_10 : decode cX11_knows 10 = .ok (.if_icmp .ge 24, 3) := by decide +kernel
theorem dX11_knows_13 : decode cX11_knows 13 = .ok (.aload_n 0, 1) := by decide +kernel
theorem dX11_knows_14 : decode cX11_knows 14 = .ok (.iload_n 1, 1) := by decide +kernel
theorem dX11_knows_15 : decode cX11_knows 15 = .ok (.bipush 12, 2) := by decide +kernel
theorem dX11_knows_17 : decode cX11_knows 17 = .ok (.iload_n 3, 1) := by decide +kernel
theorem dX11_knows_18 : decode cX11_knows 18 = .ok (.iadd, 1) := by decide +kernel
theorem dX11_knows_19 : decode cX11_knows 19 = .ok (.invokevirtual 65, 3) := by decide +kernel
theorem dX11_knows_22 : decode cX11_knows 22 = .ok (.iload_n 2, 1) := by decide +kernel
theorem dX11_knows_23 : decode cX11_knows 23 = .ok (.if_icmp .ne 5, 3) := by decide +kernel
theorem dX11_knows_26 : decode cX11_knows 26 = .ok (.iconst 1, 1) := by decide +kernel
theorem dX11_knows_27 : decode cX11_knows 27 = .ok (.ireturn, 1) := by decide +kernel
theorem dX11_knows_28 : decode cX11_knows 28 = .ok (.iinc 3 1, 3) := by decide +kernel
theorem dX11_knows_31 : decode cX11_knows 31 = .ok (.goto (-29), 3) := by decide +kernel
theorem dX11_knows_34 : decode cX11_knows 34 = .ok (.iconst 0, 1) := by decide +kernel
theorem dX11_knows_35 : decode cX11_knows 35 = .ok (.ireturn, 1) := by decide +kernel
theorem dX11_learns_0 : decode cX11_learns 0 = .ok (.aload_n 0, 1) := by decide +kernel
theorem dX11_learns_1 : decode cX11_learns 1 = .ok (.iload_n 1, 1) := by decide +kernel
theorem dX11_learns_2 : decode cX11_learns 2 = .ok (.bipush 11, 2) := by decide +kernel
theorem dX11_learns_4 : decode cX11_learns 4 = .ok (.invokevirtual 65, 3) := by decide +kernel
theorem dX11_learns_7 : decode cX11_learns 7 = .ok (.istore_n 3, 1) := by decide +kernel
theorem dX11_learns_8 : decode cX11_learns 8 = .ok (.iload_n 3, 1) := by decide +kernel
theorem dX11_learns_9 : decode cX11_learns 9 = .ok (.bipush 8, 2) := by decide +kernel
theorem dX11_learns_11 : decode cX11_learns 11 = .ok (.if_icmp .ne 44, 3) := by decide +kernel
theorem dX11_learns_14 : decode cX11_learns 14 = .ok (.iconst 0, 1) := by decide +kernel
theorem dX11_learns_15 : decode cX11_learns 15 = .ok (.istore 4, 2) := by decide +kernel
theorem dX11_learns_17 : decode cX11_learns 17 = .ok (.iload 4, 2) := by decide +kernel
theorem dX11_learns_19 : decode cX11_learns 19 = .ok (.bipush 7, 2) := by decide +kernel
theorem dX11_learns_21 : decode cX11_learns 21 = .ok (.if_icmp .ge 31, 3) := by decide +kernel
theorem dX11_learns_24 : decode cX11_learns 24 = .ok (.aload_n 0, 1) := by decide +kernel
theorem dX11_learns_25 : decode cX11_learns 25 = .ok (.iload_n 1, 1) := by decide +kernel
theorem dX11_learns_26 : decode cX11_learns 26 = .ok (.bipush 12, 2) := by decide +kernel
theorem dX11_learns_28 : decode cX11_learns 28 = .ok (.iload 4, 2) := by decide +kernel
theorem dX11_learns_30 : decode cX11_learns 30 = .ok (.iadd, 1) := by decide +kernel
theorem dX11_learns_31 : decode cX11_learns 31 = .ok (.aload_n 0, 1) := by decide +kernel
theorem dX11_learns_32 : decode cX11_learns 32 = .ok (.iload_n 1, 1) := by decide +kernel
theorem dX11_learns_33 : decode cX11_learns 33 = .ok (.bipush 12, 2) := by decide +kernel
theorem dX11_learns_35 : decode cX11_learns 35 = .ok (.iload 4, 2) := by decide +kernel
theorem dX11_learns_37 : decode cX11_learns 37 = .ok (.iadd, 1) := by decide +kernel
theorem dX11_learns_38 : decode cX11_learns 38 = .ok (.iconst 1, 1) := by decide +kernel
theorem dX11_learns_39 : decode cX11_learns 39 = .ok (.iadd, 1) := by decide +kernel
theorem dX11_learns_40 : decode cX11_learns 40 = .ok (.invokevirtual 65, 3) := by decide +kernel
theorem dX11_learns_43 : decode cX11_learns 43 = .ok (.invokevirtual 68, 3) := by decide +kernel
theorem dX11_learns_46 : decode cX11_learns 46 = .ok (.iinc 4 1, 3) := by decide +kernel
theorem dX11_learns_49 : decode cX11_learns 49 = .ok (.goto (-32), 3) := by decide +kernel
theorem dX11_learns_52 : decode cX11_learns 52 = .ok (.bipush 7, 2) := by decide +kernel
theorem dX11_learns_54 : decode cX11_learns 54 = .ok (.istore_n 3, 1) := by decide +kernel
theorem dX11_learns_55 : decode cX11_learns 55 = .ok (.aload_n 0, 1) := by decide +kernel
theorem dX11_learns_56 : decode cX11_learns 56 = .ok (.iload_n 1, 1) := by decide +kernel
theorem dX11_learns_57 : decode cX11_learns 57 = .ok (.bipush 12, 2) := by decide +kernel
theorem dX11_learns_59 : decode cX11_learns 59 = .ok (.iload_n 3, 1) := by decide +kernel
theorem dX11_learns_60 : decode cX11_learns 60 = .ok (.iadd, 1) := by decide +kernel
theorem dX11_learns_61 : decode cX11_learns 61 = .ok (.iload_n 2, 1) := by decide +kernel
theorem dX11_learns_62 : decode cX11_learns 62 = .ok (.invokevirtual 68, 3) := by decide +kernel
theorem dX11_learns_65 : decode cX11_learns 65 = .ok (.aload_n 0, 1) := by decide +kernel
theorem dX11_learns_66 : decode cX11_learns 66 = .ok (.iload_n 1, 1) := by decide +kernel
theorem dX11_learns_67 : decode cX11_learns 67 = .ok (.bipush 11, 2) := by decide +kernel
theorem dX11_learns_69 : decode cX11_learns 69 = .ok (.iload_n 3, 1) := by decide +kernel
theorem dX11_learns_70 : decode cX11_learns 70 = .ok (.iconst 1, 1) := by decide +kernel
theorem dX11_learns_71 : decode cX11_learns 71 = .ok (.iadd, 1) := by decide +kernel
theorem dX11_learns_72 : decode cX11_learns 72 = .ok (.invokevirtual 68, 3) := by decide +kernel
theorem dX11_learns_75 : decode cX11_learns 75 = .ok (.return_, 1) := by decide +kernel
theorem dX11_isLost_0 : decode cX11_isLost 0 = .ok (.aload_n 0, 1) := by decide +kernel
theorem dX11_isLost_1 : decode cX11_isLost 1 = .ok (.iload_n 1, 1) := by decide +kernel
theorem dX11_isLost_2 : decode cX11_isLost 2 = .ok (.iconst 0, 1) := by decide +kernel
theorem dX11_isLost_3 : decode cX11_isLost 3 = .ok (.invokevirtual 61, 3) := by decide +kernel
theorem dX11_isLost_6 : decode cX11_isLost 6 = .ok (.iload_n 2, 1) := by decide +kernel
theorem dX11_isLost_7 : decode cX11_isLost 7 = .ok (.iadd, 1) := by decide +kernel
theorem dX11_isLost_8 : decode cX11_isLost 8 = .ok (.aload_n 0, 1) := by decide +kernel
theorem dX11_isLost_9 : decode cX11_isLost 9 = .ok (.getfield 7, 3) := by decide +kernel
theorem dX11_isLost_12 : decode cX11_isLost 12 = .ok (.iconst 5, 1) := by decide +kernel
theorem dX11_isLost_13 : decode cX11_isLost 13 = .ok (.iaload, 1) := by decide +kernel
theorem dX11_isLost_14 : decode cX11_isLost 14 = .ok (.iadd, 1) := by decide +kernel
theorem dX11_isLost_15 : decode cX11_isLost 15 = .ok (.iconst 5, 1) := by decide +kernel
theorem dX11_isLost_16 : decode cX11_isLost 16 = .ok (.irem, 1) := by decide +kernel
theorem dX11_isLost_17 : decode cX11_isLost 17 = .ok (.aload_n 0, 1) := by decide +kernel
theorem dX11_isLost_18 : decode cX11_isLost 18 = .ok (.aload_n 0, 1) := by decide +kernel
theorem dX11_isLost_19 : decode cX11_isLost 19 = .ok (.iload_n 1, 1) := by decide +kernel
theorem dX11_isLost_20 : decode cX11_isLost 20 = .ok (.iconst 1, 1) := by decide +kernel
theorem dX11_isLost_21 : decode cX11_isLost 21 = .ok (.invokevirtual 61, 3) := by decide +kernel
theorem dX11_isLost_24 : decode cX11_isLost 24 = .ok (.iconst 1, 1) := by decide +kernel
theorem dX11_isLost_25 : decode cX11_isLost 25 = .ok (.invokevirtual 65, 3) := by decide +kernel
theorem dX11_isLost_28 : decode cX11_isLost 28 = .ok (.if_icmp .ge 7, 3) := by decide +kernel
theorem dX11_isLost_31 : decode cX11_isLost 31 = .ok (.iconst 1, 1) := by decide +kernel
theorem dX11_isLost_32 : decode cX11_isLost 32 = .ok (.goto 4, 3) := by decide +kernel
theorem dX11_isLost_35 : decode cX11_isLost 35 = .ok (.iconst 0, 1) := by decide +kernel
theorem dX11_isLost_36 : decode cX11_isLost 36 = .ok (.ireturn, 1) := by decide +kernel
theorem dX11_arrives_0 : decode cX11_arrives 0 = .ok (.aload_n 0, 1) := by decide +kernel
theorem dX11_arrives_1 : decode cX11_arrives 1 = .ok (.iload_n 1, 1) := by decide +kernel
theorem dX11_arrives_2 : decode cX11_arrives 2 = .ok (.invokevirtual 72, 3) := by decide +kernel
theorem dX11_arrives_5 : decode cX11_arrives 5 = .ok (.istore_n 2, 1) := by decide +kernel
theorem dX11_arrives_6 : decode cX11_arrives 6 = .ok (.aload_n 0, 1) := by decide +kernel
theorem dX11_arrives_7 : decode cX11_arrives 7 = .ok (.iload_n 2, 1) := by decide +kernel
theorem dX11_arrives_8 : decode cX11_arrives 8 = .ok (.iconst 1, 1) := by decide +kernel
theorem dX11_arrives_9 : decode cX11_arrives 9 = .ok (.invokevirtual 61, 3) := by decide +kernel
theorem dX11_arrives_12 : decode cX11_arrives 12 = .ok (.istore_n 3, 1) := by decide +kernel
theorem dX11_arrives_13 : decode cX11_arrives 13 = .ok (.aload_n 0, 1) := by decide +kernel
theorem dX11_arrives_14 : decode cX11_arrives 14 = .ok (.iload_n 2, 1) := by decide +kernel
theorem dX11_arrives_15 : decode cX11_arrives 15 = .ok (.iconst 3, 1) := by decide +kernel
theorem dX11_arrives_16 : decode cX11_arrives 16 = .ok (.invokevirtual 61, 3) := by decide +kernel
theorem dX11_arrives_19 : decode cX11_arrives 19 = .ok (.iconst 1, 1) := by decide +kernel
theorem dX11_arrives_20 : decode cX11_arrives 20 = .ok (.iadd, 1) := by decide +kernel
theorem dX11_arrives_21 : decode cX11_arrives 21 = .ok (.istore 4, 2) := by decide +kernel
theorem dX11_arrives_23 : decode cX11_arrives 23 = .ok (.aload_n 0, 1) := by decide +kernel
theorem dX11_arrives_24 : decode cX11_arrives 24 = .ok (.iload_n 2, 1) := by decide +kernel
theorem dX11_arrives_25 : decode cX11_arrives 25 = .ok (.iconst 3, 1) := by decide +kernel
theorem dX11_arrives_26 : decode cX11_arrives 26 = .ok (.iload 4, 2) := by decide +kernel
theorem dX11_arrives_28 : decode cX11_arrives 28 = .ok (.invokevirtual 75, 3) := by decide +kernel
theorem dX11_arrives_31 : decode cX11_arrives 31 = .ok (.aload_n 0, 1) := by decide +kernel
theorem dX11_arrives_32 : decode cX11_arrives 32 = .ok (.getfield 7, 3) := by decide +kernel
theorem dX11_arrives_35 : decode cX11_arrives 35 = .ok (.bipush 10, 2) := by decide +kernel
theorem dX11_arrives_37 : decode cX11_arrives 37 = .ok (.dup2, 1) := by decide +kernel
theorem dX11_arrives_38 : decode cX11_arrives 38 = .ok (.iaload, 1) := by decide +kernel
theorem dX11_arrives_39 : decode cX11_arrives 39 = .ok (.iconst 1, 1) := by decide +kernel
theorem dX11_arrives_40 : decode cX11_arrives 40 = .ok (.iadd, 1) := by decide +kernel
theorem dX11_arrives_41 : decode cX11_arrives 41 = .ok (.iastore, 1) := by decide +kernel
theorem dX11_arrives_42 : decode cX11_arrives 42 = .ok (.aload_n 0, 1) := by decide +kernel
theorem dX11_arrives_43 : decode cX11_arrives 43 = .ok (.iload_n 2, 1) := by decide +kernel
theorem dX11_arrives_44 : decode cX11_arrives 44 = .ok (.iload 4, 2) := by decide +kernel
theorem dX11_arrives_46 : decode cX11_arrives 46 = .ok (.invokevirtual 78, 3) := by decide +kernel
theorem dX11_arrives_49 : decode cX11_arrives 49 = .ok (.istore 5, 2) := by decide +kernel
theorem dX11_arrives_51 : decode cX11_arrives 51 = .ok (.iload 5, 2) := by decide +kernel
theorem dX11_arrives_53 : decode cX11_arrives 53 = .ok (.ifCond .ne 34, 3) := by decide +kernel
theorem dX11_arrives_56 : decode cX11_arrives 56 = .ok (.aload_n 0, 1) := by decide +kernel
theorem dX11_arrives_57 : decode cX11_arrives 57 = .ok (.iload_n 3, 1) := by decide +kernel
theorem dX11_arrives_58 : decode cX11_arrives 58 = .ok (.aload_n 0, 1) := by decide +kernel
theorem dX11_arrives_59 : decode cX11_arrives 59 = .ok (.iload_n 2, 1) := by decide +kernel
theorem dX11_arrives_60 : decode cX11_arrives 60 = .ok (.iconst 2, 1) := by decide +kernel
theorem dX11_arrives_61 : decode cX11_arrives 61 = .ok (.invokevirtual 61, 3) := by decide +kernel
theorem dX11_arrives_64 : decode cX11_arrives 64 = .ok (.invokevirtual 82, 3) := by decide +kernel
theorem dX11_arrives_67 : decode cX11_arrives 67 = .ok (.ifCond .eq 20, 3) := by decide +kernel
theorem dX11_arrives_70 : decode cX11_arrives 70 = .ok (.aload_n 0, 1) := by decide +kernel
theorem dX11_arrives_71 : decode cX11_arrives 71 = .ok (.getfield 7, 3) := by decide +kernel
theorem dX11_arrives_74 : decode cX11_arrives 74 = .ok (.bipush 8, 2) := by decide +kernel
theorem dX11_arrives_76 : decode cX11_arrives 76 = .ok (.dup2, 1) := by decide +kernel
theorem dX11_arrives_77 : decode cX11_arrives 77 = .ok (.iaload, 1) := by decide +kernel
theorem dX11_arrives_78 : decode cX11_arrives 78 = .ok (.iconst 1, 1) := by decide +kernel
theorem dX11_arrives_79 : decode cX11_arrives 79 = .ok (.iadd, 1) := by decide +kernel
theorem dX11_arrives_80 : decode cX11_arrives 80 = .ok (.iastore, 1) := by decide +kernel
theorem dX11_arrives_81 : decode cX11_arrives 81 = .ok (.aload_n 0, 1) := by decide +kernel
theorem dX11_arrives_82 : decode cX11_arrives 82 = .ok (.iload_n 2, 1) := by decide +kernel
theorem dX11_arrives_83 : decode cX11_arrives 83 = .ok (.invokevirtual 85, 3) := by decide +kernel
theorem dX11_arrives_86 : decode cX11_arrives 86 = .ok (.return_, 1) := by decide +kernel
theorem dX11_arrives_87 : decode cX11_arrives 87 = .ok (.iload 5, 2) := by decide +kernel
theorem dX11_arrives_89 : decode cX11_arrives 89 = .ok (.ifCond .ne 89, 3) := by decide +kernel
theorem dX11_arrives_92 : decode cX11_arrives 92 = .ok (.aload_n 0, 1) := by decide +kernel
theorem dX11_arrives_93 : decode cX11_arrives 93 = .ok (.iload_n 3, 1) := by decide +kernel
theorem dX11_arrives_94 : decode cX11_arrives 94 = .ok (.iconst 2, 1) := by decide +kernel
theorem dX11_arrives_95 : decode cX11_arrives 95 = .ok (.invokevirtual 65, 3) := by decide +kernel
theorem dX11_arrives_98 : decode cX11_arrives 98 = .ok (.bipush 8, 2) := by decide +kernel
theorem dX11_arrives_100 : decode cX11_arrives 100 = .ok (.if_icmp .ge 78, 3) := by decide +kernel
theorem dX11_arrives_103 : decode cX11_arrives 103 = .ok (.aload_n 0, 1) := by decide +kernel
theorem dX11_arrives_104 : decode cX11_arrives 104 = .ok (.iload_n 2, 1) := by decide +kernel
theorem dX11_arrives_105 : decode cX11_arrives 105 = .ok (.iconst 4, 1) := by decide +kernel
theorem dX11_arrives_106 : decode cX11_arrives 106 = .ok (.bipush 100, 2) := by decide +kernel
theorem dX11_arrives_108 : decode cX11_arrives 108 = .ok (.invokevirtual 75, 3) := by decide +kernel
theorem dX11_arrives_111 : decode cX11_arrives 111 = .ok (.aload_n 0, 1) := by decide +kernel
theorem dX11_arrives_112 : decode cX11_arrives 112 = .ok (.iload_n 3, 1) := by decide +kernel
theorem dX11_arrives_113 : decode cX11_arrives 113 = .ok (.iconst 3, 1) := by decide +kernel
theorem dX11_arrives_114 : decode cX11_arrives 114 = .ok (.aload_n 0, 1) := by decide +kernel
theorem dX11_arrives_115 : decode cX11_arrives 115 = .ok (.iload_n 3, 1) := by decide +kernel
theorem dX11_arrives_116 : decode cX11_arrives 116 = .ok (.iconst 2, 1) := by decide +kernel
theorem dX11_arrives_117 : decode cX11_arrives 117 = .ok (.invokevirtual 65, 3) := by decide +kernel
theorem dX11_arrives_120 : decode cX11_arrives 120 = .ok (.iadd, 1) := by decide +kernel
theorem dX11_arrives_121 : decode cX11_arrives 121 = .ok (.iload_n 1, 1) := by decide +kernel
theorem dX11_arrives_122 : decode cX11_arrives 122 = .ok (.invokevirtual 68, 3) := by decide +kernel
theorem dX11_arrives_125 : decode cX11_arrives 125 = .ok (.aload_n 0, 1) := by decide +kernel
theorem dX11_arrives_126 : decode cX11_arrives 126 = .ok (.iload_n 3, 1) := by decide +kernel
theorem dX11_arrives_127 : decode cX11_arrives 127 = .ok (.iconst 2, 1) := by decide +kernel
theorem dX11_arrives_128 : decode cX11_arrives 128 = .ok (.aload_n 0, 1) := by decide +kernel
theorem dX11_arrives_129 : decode cX11_arrives 129 = .ok (.iload_n 3, 1) := by decide +kernel
theorem dX11_arrives_130 : decode cX11_arrives 130 = .ok (.iconst 2, 1) := by decide +kernel
theorem dX11_arrives_131 : decode cX11_arrives 131 = .ok (.invokevirtual 65, 3) := by decide +kernel
theorem dX11_arrives_134 : decode cX11_arrives 134 = .ok (.iconst 1, 1) := by decide +kernel
theorem dX11_arrives_135 : decode cX11_arrives 135 = .ok (.iadd, 1) := by decide +kernel
theorem dX11_arrives_136 : decode cX11_arrives 136 = .ok (.invokevirtual 68, 3) := by decide +kernel
theorem dX11_arrives_139 : decode cX11_arrives 139 = .ok (.aload_n 0, 1) := by decide +kernel
theorem dX11_arrives_140 : decode cX11_arrives 140 = .ok (.iload_n 3, 1) := by decide +kernel
theorem dX11_arrives_141 : decode cX11_arrives 141 = .ok (.bipush 20, 2) := by decide +kernel
theorem dX11_arrives_143 : decode cX11_arrives 143 = .ok (.aload_n 0, 1) := by decide +kernel
theorem dX11_arrives_144 : decode cX11_arrives 144 = .ok (.iload_n 3, 1) := by decide +kernel
theorem dX11_arrives_145 : decode cX11_arrives 145 = .ok (.bipush 20, 2) := by decide +kernel
theorem dX11_arrives_147 : decode cX11_arrives 147 = .ok (.invokevirtual 65, 3) := by decide +kernel
theorem dX11_arrives_150 : decode cX11_arrives 150 = .ok (.iconst 1, 1) := by decide +kernel
theorem dX11_arrives_151 : decode cX11_arrives 151 = .ok (.iadd, 1) := by decide +kernel
theorem dX11_arrives_152 : decode cX11_arrives 152 = .ok (.invokevirtual 68, 3) := by decide +kernel
theorem dX11_arrives_155 : decode cX11_arrives 155 = .ok (.aload_n 0, 1) := by decide +kernel
theorem dX11_arrives_156 : decode cX11_arrives 156 = .ok (.getfield 7, 3) := by decide +kernel
theorem dX11_arrives_159 : decode cX11_arrives 159 = .ok (.bipush 6, 2) := by decide +kernel
theorem dX11_arrives_161 : decode cX11_arrives 161 = .ok (.dup2, 1) := by decide +kernel
theorem dX11_arrives_162 : decode cX11_arrives 162 = .ok (.iaload, 1) := by decide +kernel
theorem dX11_arrives_163 : decode cX11_arrives 163 = .ok (.iconst 1, 1) := by decide +kernel
theorem dX11_arrives_164 : decode cX11_arrives 164 = .ok (.iadd, 1) := by decide +kernel
theorem dX11_arrives_165 : decode cX11_arrives 165 = .ok (.iastore, 1) := by decide +kernel
theorem dX11_arrives_166 : decode cX11_arrives 166 = .ok (.aload_n 0, 1) := by decide +kernel
theorem dX11_arrives_167 : decode cX11_arrives 167 = .ok (.iload_n 3, 1) := by decide +kernel
theorem dX11_arrives_168 : decode cX11_arrives 168 = .ok (.aload_n 0, 1) := by decide +kernel
theorem dX11_arrives_169 : decode cX11_arrives 169 = .ok (.iload_n 2, 1) := by decide +kernel
theorem dX11_arrives_170 : decode cX11_arrives 170 = .ok (.iconst 2, 1) := by decide +kernel
theorem dX11_arrives_171 : decode cX11_arrives 171 = .ok (.invokevirtual 61, 3) := by decide +kernel
theorem dX11_arrives_174 : decode cX11_arrives 174 = .ok (.invokevirtual 89, 3) := by decide +kernel
theorem dX11_arrives_177 : decode cX11_arrives 177 = .ok (.return_, 1) := by decide +kernel
theorem dX11_arrives_178 : decode cX11_arrives 178 = .ok (.iload 4, 2) := by decide +kernel
theorem dX11_arrives_180 : decode cX11_arrives 180 = .ok (.iconst 5, 1) := by decide +kernel
theorem dX11_arrives_181 : decode cX11_arrives 181 = .ok (.if_icmp .ne 20, 3) := by decide +kernel
theorem dX11_arrives_184 : decode cX11_arrives 184 = .ok (.aload_n 0, 1) := by decide +kernel
theorem dX11_arrives_185 : decode cX11_arrives 185 = .ok (.getfield 7, 3) := by decide +kernel
theorem dX11_arrives_188 : decode cX11_arrives 188 = .ok (.bipush 9, 2) := by decide +kernel
theorem dX11_arrives_190 : decode cX11_arrives 190 = .ok (.dup2, 1) := by decide +kernel
theorem dX11_arrives_191 : decode cX11_arrives 191 = .ok (.iaload, 1) := by decide +kernel
theorem dX11_arrives_192 : decode cX11_arrives 192 = .ok (.iconst 1, 1) := by decide +kernel
theorem dX11_arrives_193 : decode cX11_arrives 193 = .ok (.iadd, 1) := by decide +kernel
theorem dX11_arrives_194 : decode cX11_arrives 194 = .ok (.iastore, 1) := by decide +kernel
theorem dX11_arrives_195 : decode cX11_arrives 195 = .ok (.aload_n 0, 1) := by decide +kernel
theorem dX11_arrives_196 : decode cX11_arrives 196 = .ok (.iload_n 2, 1) := by decide +kernel
theorem dX11_arrives_197 : decode cX11_arrives 197 = .ok (.invokevirtual 85, 3) := by decide +kernel
theorem dX11_arrives_200 : decode cX11_arrives 200 = .ok (.return_, 1) := by decide +kernel
theorem dX11_arrives_201 : decode cX11_arrives 201 = .ok (.aload_n 0, 1) := by decide +kernel
theorem dX11_arrives_202 : decode cX11_arrives 202 = .ok (.iload_n 2, 1) := by decide +kernel
theorem dX11_arrives_203 : decode cX11_arrives 203 = .ok (.iconst 4, 1) := by decide +kernel
theorem dX11_arrives_204 : decode cX11_arrives 204 = .ok (.bipush 110, 2) := by decide +kernel
theorem dX11_arrives_206 : decode cX11_arrives 206 = .ok (.invokevirtual 75, 3) := by decide +kernel
theorem dX11_arrives_209 : decode cX11_arrives 209 = .ok (.aload_n 0, 1) := by decide +kernel
theorem dX11_arrives_210 : decode cX11_arrives 210 = .ok (.iload_n 2, 1) := by decide +kernel
theorem dX11_arrives_211 : decode cX11_arrives 211 = .ok (.iconst 5, 1) := by decide +kernel
theorem dX11_arrives_212 : decode cX11_arrives 212 = .ok (.iconst 1, 1) := by decide +kernel
theorem dX11_arrives_213 : decode cX11_arrives 213 = .ok (.iload 4, 2) := by decide +kernel
theorem dX11_arrives_215 : decode cX11_arrives 215 = .ok (.ishl, 1) := by decide +kernel
theorem dX11_arrives_216 : decode cX11_arrives 216 = .ok (.invokevirtual 75, 3) := by decide +kernel
theorem dX11_arrives_219 : decode cX11_arrives 219 = .ok (.aload_n 0, 1) := by decide +kernel
theorem dX11_arrives_220 : decode cX11_arrives 220 = .ok (.iload_n 2, 1) := by decide +kernel
theorem dX11_arrives_221 : decode cX11_arrives 221 = .ok (.bipush 6, 2) := by decide +kernel
theorem dX11_arrives_223 : decode cX11_arrives 223 = .ok (.iconst 1, 1) := by decide +kernel
theorem dX11_arrives_224 : decode cX11_arrives 224 = .ok (.invokevirtual 75, 3) := by decide +kernel
theorem dX11_arrives_227 : decode cX11_arrives 227 = .ok (.return_, 1) := by decide +kernel
theorem dX11_waiting_0 : decode cX11_waiting 0 = .ok (.iconst 0, 1) := by decide +kernel
theorem dX11_waiting_1 : decode cX11_waiting 1 = .ok (.istore_n 2, 1) := by decide +kernel
theorem dX11_waiting_2 : decode cX11_waiting 2 = .ok (.iload_n 2, 1) := by decide +kernel
theorem dX11_waiting_3 : decode cX11_waiting 3 = .ok (.aload_n 0, 1) := by decide +kernel
theorem dX11_waiting_4 : decode cX11_waiting 4 = .ok (.getfield 7, 3) := by decide +kernel
theorem dX11_waiting_7 : decode cX11_waiting 7 = .ok (.iconst 2, 1) := by decide +kernel
theorem dX11_waiting_8 : decode cX11_waiting 8 = .ok (.iaload, 1) := by decide +kernel
theorem dX11_waiting_9 : decode cX11_waiting 9 = .ok (.if_icmp .ge 110, 3) := by decide +kernel
theorem dX11_waiting_12 : decode cX11_waiting 12 = .ok (.aload_n 0, 1) := by decide +kernel
theorem dX11_waiting_13 : decode cX11_waiting 13 = .ok (.iload_n 2, 1) := by decide +kernel
theorem dX11_waiting_14 : decode cX11_waiting 14 = .ok (.iconst 4, 1) := by decide +kernel
theorem dX11_waiting_15 : decode cX11_waiting 15 = .ok (.invokevirtual 61, 3) := by decide +kernel
theorem dX11_waiting_18 : decode cX11_waiting 18 = .ok (.bipush 119, 2) := by decide +kernel
theorem dX11_waiting_20 : decode cX11_waiting 20 = .ok (.if_icmp .eq 6, 3) := by decide +kernel
theorem dX11_waiting_23 : decode cX11_waiting 23 = .ok (.goto 90, 3) := by decide +kernel
theorem dX11_waiting_26 : decode cX11_waiting 26 = .ok (.iconst 0, 1) := by decide +kernel
theorem dX11_waiting_27 : decode cX11_waiting 27 = .ok (.istore_n 3, 1) := by decide +kernel
theorem dX11_waiting_28 : decode cX11_waiting 28 = .ok (.iconst 0, 1) := by decide +kernel
theorem dX11_waiting_29 : decode cX11_waiting 29 = .ok (.istore 4, 2) := by decide +kernel
theorem dX11_waiting_31 : decode cX11_waiting 31 = .ok (.iload 4, 2) := by decide +kernel
theorem dX11_waiting_33 : decode cX11_waiting 33 = .ok (.aload_n 0, 1) := by decide +kernel
theorem dX11_waiting_34 : decode cX11_waiting 34 = .ok (.getfield 7, 3) := by decide +kernel
theorem dX11_waiting_37 : decode cX11_waiting 37 = .ok (.iconst 2, 1) := by decide +kernel
theorem dX11_waiting_38 : decode cX11_waiting 38 = .ok (.iaload, 1) := by decide +kernel
theorem dX11_waiting_39 : decode cX11_waiting 39 = .ok (.if_icmp .ge 67, 3) := by decide +kernel
theorem dX11_waiting_42 : decode cX11_waiting 42 = .ok (.iload_n 3, 1) := by decide +kernel
theorem dX11_waiting_43 : decode cX11_waiting 43 = .ok (.aload_n 0, 1) := by decide +kernel
theorem dX11_waiting_44 : decode cX11_waiting 44 = .ok (.iload 4, 2) := by decide +kernel
theorem dX11_waiting_46 : decode cX11_waiting 46 = .ok (.iconst 4, 1) := by decide +kernel
theorem dX11_waiting_47 : decode cX11_waiting 47 = .ok (.invokevirtual 61, 3) := by decide +kernel
theorem dX11_waiting_50 : decode cX11_waiting 50 = .ok (.bipush 119, 2) := by decide +kernel
theorem dX11_waiting_52 : decode cX11_waiting 52 = .ok (.if_icmp .ne 45, 3) := by decide +kernel
theorem dX11_waiting_55 : decode cX11_waiting 55 = .ok (.aload_n 0, 1) := by decide +kernel
theorem dX11_waiting_56 : decode cX11_waiting 56 = .ok (.iload 4, 2) := by decide +kernel
theorem dX11_waiting_58 : decode cX11_waiting 58 = .ok (.iconst 3, 1) := by decide +kernel
theorem dX11_waiting_59 : decode cX11_waiting 59 = .ok (.invokevirtual 61, 3) := by decide +kernel
theorem dX11_waiting_62 : decode cX11_waiting 62 = .ok (.aload_n 0, 1) := by decide +kernel
theorem dX11_waiting_63 : decode cX11_waiting 63 = .ok (.iload_n 2, 1) := by decide +kernel
theorem dX11_waiting_64 : decode cX11_waiting 64 = .ok (.iconst 3, 1) := by decide +kernel
theorem dX11_waiting_65 : decode cX11_waiting 65 = .ok (.invokevirtual 61, 3) := by decide +kernel
theorem dX11_waiting_68 : decode cX11_waiting 68 = .ok (.if_icmp .lt 25, 3) := by decide +kernel
theorem dX11_waiting_71 : decode cX11_waiting 71 = .ok (.aload_n 0, 1) := by decide +kernel
theorem dX11_waiting_72 : decode cX11_waiting 72 = .ok (.iload 4, 2) := by decide +kernel
theorem dX11_waiting_74 : decode cX11_waiting 74 = .ok (.iconst 3, 1) := by decide +kernel
theorem dX11_waiting_75 : decode cX11_waiting 75 = .ok (.invokevirtual 61, 3) := by decide +kernel
theorem dX11_waiting_78 : decode cX11_waiting 78 = .ok (.aload_n 0, 1) := by decide +kernel
theorem dX11_waiting_79 : decode cX11_waiting 79 = .ok (.iload_n 2, 1) := by decide +kernel
theorem dX11_waiting_80 : decode cX11_waiting 80 = .ok (.iconst 3, 1) := by decide +kernel
theorem dX11_waiting_81 : decode cX11_waiting 81 = .ok (.invokevirtual 61, 3) := by decide +kernel
theorem dX11_waiting_84 : decode cX11_waiting 84 = .ok (.if_icmp .ne 13, 3) := by decide +kernel
theorem dX11_waiting_87 : decode cX11_waiting 87 = .ok (.iload 4, 2) := by decide +kernel
theorem dX11_waiting_89 : decode cX11_waiting 89 = .ok (.iload_n 2, 1) := by decide +kernel
theorem dX11_waiting_90 : decode cX11_waiting 90 = .ok (.if_icmp .ge 7, 3) := by decide +kernel
theorem dX11_waiting_93 : decode cX11_waiting 93 = .ok (.iconst 1, 1) := by decide +kernel
theorem dX11_waiting_94 : decode cX11_waiting 94 = .ok (.goto 4, 3) := by decide +kernel
theorem dX11_waiting_97 : decode cX11_waiting 97 = .ok (.iconst 0, 1) := by decide +kernel
theorem dX11_waiting_98 : decode cX11_waiting 98 = .ok (.iadd, 1) := by decide +kernel
theorem dX11_waiting_99 : decode cX11_waiting 99 = .ok (.istore_n 3, 1) := by decide +kernel
theorem dX11_waiting_100 : decode cX11_waiting 100 = .ok (.iinc 4 1, 3) := by decide +kernel
theorem dX11_waiting_103 : decode cX11_waiting 103 = .ok (.goto (-72), 3) := by decide +kernel
theorem dX11_waiting_106 : decode cX11_waiting 106 = .ok (.iload_n 3, 1) := by decide +kernel
theorem dX11_waiting_107 : decode cX11_waiting 107 = .ok (.iload_n 1, 1) := by decide +kernel
theorem dX11_waiting_108 : decode cX11_waiting 108 = .ok (.if_icmp .ne 5, 3) := by decide +kernel
theorem dX11_waiting_111 : decode cX11_waiting 111 = .ok (.iload_n 2, 1) := by decide +kernel
theorem dX11_waiting_112 : decode cX11_waiting 112 = .ok (.ireturn, 1) := by decide +kernel
theorem dX11_waiting_113 : decode cX11_waiting 113 = .ok (.iinc 2 1, 3) := by decide +kernel
theorem dX11_waiting_116 : decode cX11_waiting 116 = .ok (.goto (-114), 3) := by decide +kernel
theorem dX11_waiting_119 : decode cX11_waiting 119 = .ok (.iconst (-1), 1) := by decide +kernel
theorem dX11_waiting_120 : decode cX11_waiting 120 = .ok (.ireturn, 1) := by decide +kernel
theorem dX11_minute_0 : decode cX11_minute 0 = .ok (.aload_n 0, 1) := by decide +kernel
theorem dX11_minute_1 : decode cX11_minute 1 = .ok (.getfield 7, 3) := by decide +kernel
theorem dX11_minute_4 : decode cX11_minute 4 = .ok (.iconst 4, 1) := by decide +kernel
theorem dX11_minute_5 : decode cX11_minute 5 = .ok (.dup2, 1) := by decide +kernel
theorem dX11_minute_6 : decode cX11_minute 6 = .ok (.iaload, 1) := by decide +kernel
theorem dX11_minute_7 : decode cX11_minute 7 = .ok (.iconst 1, 1) := by decide +kernel
theorem dX11_minute_8 : decode cX11_minute 8 = .ok (.iadd, 1) := by decide +kernel
theorem dX11_minute_9 : decode cX11_minute 9 = .ok (.iastore, 1) := by decide +kernel
theorem dX11_minute_10 : decode cX11_minute 10 = .ok (.iconst 0, 1) := by decide +kernel
theorem dX11_minute_11 : decode cX11_minute 11 = .ok (.istore_n 1, 1) := by decide +kernel
theorem dX11_minute_12 : decode cX11_minute 12 = .ok (.iload_n 1, 1) := by decide +kernel
theorem dX11_minute_13 : decode cX11_minute 13 = .ok (.aload_n 0, 1) := by decide +kernel
theorem dX11_minute_14 : decode cX11_minute 14 = .ok (.getfield 7, 3) := by decide +kernel
theorem dX11_minute_17 : decode cX11_minute 17 = .ok (.iconst 1, 1) := by decide +kernel
theorem dX11_minute_18 : decode cX11_minute 18 = .ok (.iaload, 1) := by decide +kernel
theorem dX11_minute_19 : decode cX11_minute 19 = .ok (.if_icmp .ge 88, 3) := by decide +kernel
theorem dX11_minute_22 : decode cX11_minute 22 = .ok (.aload_n 0, 1) := by decide +kernel
theorem dX11_minute_23 : decode cX11_minute 23 = .ok (.getfield 7, 3) := by decide +kernel
theorem dX11_minute_26 : decode cX11_minute 26 = .ok (.sipush 138, 3) := by decide +kernel
theorem dX11_minute_29 : decode cX11_minute 29 = .ok (.iconst 2, 1) := by decide +kernel
theorem dX11_minute_30 : decode cX11_minute 30 = .ok (.iload_n 1, 1) := by decide +kernel
theorem dX11_minute_31 : decode cX11_minute 31 = .ok (.imul, 1) := by decide +kernel
theorem dX11_minute_32 : decode cX11_minute 32 = .ok (.iadd, 1) := by decide +kernel
theorem dX11_minute_33 : decode cX11_minute 33 = .ok (.iaload, 1) := by decide +kernel
theorem dX11_minute_34 : decode cX11_minute 34 = .ok (.iconst 1, 1) := by decide +kernel
theorem dX11_minute_35 : decode cX11_minute 35 = .ok (.isub, 1) := by decide +kernel
theorem dX11_minute_36 : decode cX11_minute 36 = .ok (.istore_n 2, 1) := by decide +kernel
theorem dX11_minute_37 : decode cX11_minute 37 = .ok (.iload_n 2, 1) := by decide +kernel
theorem dX11_minute_38 : decode cX11_minute 38 = .ok (.iconst (-1), 1) := by decide +kernel
theorem dX11_minute_39 : decode cX11_minute 39 = .ok (.if_icmp .ne 6, 3) := by decide +kernel
theorem dX11_minute_42 : decode cX11_minute 42 = .ok (.goto 59, 3) := by decide +kernel
theorem dX11_minute_45 : decode cX11_minute 45 = .ok (.aload_n 0, 1) := by decide +kernel
theorem dX11_minute_46 : decode cX11_minute 46 = .ok (.getfield 7, 3) := by decide +kernel
theorem dX11_minute_49 : decode cX11_minute 49 = .ok (.sipush 138, 3) := by decide +kernel
theorem dX11_minute_52 : decode cX11_minute 52 = .ok (.iconst 2, 1) := by decide +kernel
theorem dX11_minute_53 : decode cX11_minute 53 = .ok (.iload_n 1, 1) := by decide +kernel
theorem dX11_minute_54 : decode cX11_minute 54 = .ok (.imul, 1) := by decide +kernel
theorem dX11_minute_55 : decode cX11_minute 55 = .ok (.iadd, 1) := by decide +kernel
theorem dX11_minute_56 : decode cX11_minute 56 = .ok (.iconst 1, 1) := by decide +kernel
theorem dX11_minute_57 : decode cX11_minute 57 = .ok (.iadd, 1) := by decide +kernel
theorem dX11_minute_58 : decode cX11_minute 58 = .ok (.dup2, 1) := by decide +kernel
theorem dX11_minute_59 : decode cX11_minute 59 = .ok (.iaload, 1) := by decide +kernel
theorem dX11_minute_60 : decode cX11_minute 60 = .ok (.iconst 1, 1) := by decide +kernel
theorem dX11_minute_61 : decode cX11_minute 61 = .ok (.isub, 1) := by decide +kernel
theorem dX11_minute_62 : decode cX11_minute 62 = .ok (.iastore, 1) := by decide +kernel
theorem dX11_minute_63 : decode cX11_minute 63 = .ok (.aload_n 0, 1) := by decide +kernel
theorem dX11_minute_64 : decode cX11_minute 64 = .ok (.getfield 7, 3) := by decide +kernel
theorem dX11_minute_67 : decode cX11_minute 67 = .ok (.sipush 138, 3) := by decide +kernel
theorem dX11_minute_70 : decode cX11_minute 70 = .ok (.iconst 2, 1) := by decide +kernel
theorem dX11_minute_71 : decode cX11_minute 71 = .ok (.iload_n 1, 1) := by decide +kernel
theorem dX11_minute_72 : decode cX11_minute 72 = .ok (.imul, 1) := by decide +kernel
theorem dX11_minute_73 : decode cX11_minute 73 = .ok (.iadd, 1) := by decide +kernel
theorem dX11_minute_74 : decode cX11_minute 74 = .ok (.iconst 1, 1) := by decide +kernel
theorem dX11_minute_75 : decode cX11_minute 75 = .ok (.iadd, 1) := by decide +kernel
theorem dX11_minute_76 : decode cX11_minute 76 = .ok (.iaload, 1) := by decide +kernel
theorem dX11_minute_77 : decode cX11_minute 77 = .ok (.ifCond .le 6, 3) := by decide +kernel
theorem dX11_minute_80 : decode cX11_minute 80 = .ok (.goto 21, 3) := by decide +kernel
theorem dX11_minute_83 : decode cX11_minute 83 = .ok (.aload_n 0, 1) := by decide +kernel
theorem dX11_minute_84 : decode cX11_minute 84 = .ok (.getfield 7, 3) := by decide +kernel
theorem dX11_minute_87 : decode cX11_minute 87 = .ok (.sipush 138, 3) := by decide +kernel
theorem dX11_minute_90 : decode cX11_minute 90 = .ok (.iconst 2, 1) := by decide +kernel
theorem dX11_minute_91 : decode cX11_minute 91 = .ok (.iload_n 1, 1) := by decide +kernel
theorem dX11_minute_92 : decode cX11_minute 92 = .ok (.imul, 1) := by decide +kernel
theorem dX11_minute_93 : decode cX11_minute 93 = .ok (.iadd, 1) := by decide +kernel
theorem dX11_minute_94 : decode cX11_minute 94 = .ok (.iconst 0, 1) := by decide +kernel
theorem dX11_minute_95 : decode cX11_minute 95 = .ok (.iastore, 1) := by decide +kernel
theorem dX11_minute_96 : decode cX11_minute 96 = .ok (.aload_n 0, 1) := by decide +kernel
theorem dX11_minute_97 : decode cX11_minute 97 = .ok (.iload_n 2, 1) := by decide +kernel
theorem dX11_minute_98 : decode cX11_minute 98 = .ok (.invokevirtual 93, 3) := by decide +kernel
theorem dX11_minute_101 : decode cX11_minute 101 = .ok (.iinc 1 1, 3) := by decide +kernel
theorem dX11_minute_104 : decode cX11_minute 104 = .ok (.goto (-92), 3) := by decide +kernel
theorem dX11_minute_107 : decode cX11_minute 107 = .ok (.iconst 0, 1) := by decide +kernel
theorem dX11_minute_108 : decode cX11_minute 108 = .ok (.istore_n 1, 1) := by decide +kernel
theorem dX11_minute_109 : decode cX11_minute 109 = .ok (.iload_n 1, 1) := by decide +kernel
theorem dX11_minute_110 : decode cX11_minute 110 = .ok (.aload_n 0, 1) := by decide +kernel
theorem dX11_minute_111 : decode cX11_minute 111 = .ok (.getfield 7, 3) := by decide +kernel
theorem dX11_minute_114 : decode cX11_minute 114 = .ok (.iconst 2, 1) := by decide +kernel
theorem dX11_minute_115 : decode cX11_minute 115 = .ok (.iaload, 1) := by decide +kernel
theorem dX11_minute_116 : decode cX11_minute 116 = .ok (.if_icmp .ge 76, 3) := by decide +kernel
theorem dX11_minute_119 : decode cX11_minute 119 = .ok (.aload_n 0, 1) := by decide +kernel
theorem dX11_minute_120 : decode cX11_minute 120 = .ok (.iload_n 1, 1) := by decide +kernel
theorem dX11_minute_121 : decode cX11_minute 121 = .ok (.iconst 4, 1) := by decide +kernel
theorem dX11_minute_122 : decode cX11_minute 122 = .ok (.invokevirtual 61, 3) := by decide +kernel
theorem dX11_minute_125 : decode cX11_minute 125 = .ok (.bipush 110, 2) := by decide +kernel
theorem dX11_minute_127 : decode cX11_minute 127 = .ok (.if_icmp .eq 6, 3) := by decide +kernel
theorem dX11_minute_130 : decode cX11_minute 130 = .ok (.goto 56, 3) := by decide +kernel
theorem dX11_minute_133 : decode cX11_minute 133 = .ok (.aload_n 0, 1) := by decide +kernel
theorem dX11_minute_134 : decode cX11_minute 134 = .ok (.iload_n 1, 1) := by decide +kernel
theorem dX11_minute_135 : decode cX11_minute 135 = .ok (.bipush 6, 2) := by decide +kernel
theorem dX11_minute_137 : decode cX11_minute 137 = .ok (.invokevirtual 61, 3) := by decide +kernel
theorem dX11_minute_140 : decode cX11_minute 140 = .ok (.iconst 1, 1) := by decide +kernel
theorem dX11_minute_141 : decode cX11_minute 141 = .ok (.if_icmp .ne 14, 3) := by decide +kernel
theorem dX11_minute_144 : decode cX11_minute 144 = .ok (.aload_n 0, 1) := by decide +kernel
theorem dX11_minute_145 : decode cX11_minute 145 = .ok (.iload_n 1, 1) := by decide +kernel
theorem dX11_minute_146 : decode cX11_minute 146 = .ok (.bipush 6, 2) := by decide +kernel
theorem dX11_minute_148 : decode cX11_minute 148 = .ok (.iconst 0, 1) := by decide +kernel
theorem dX11_minute_149 : decode cX11_minute 149 = .ok (.invokevirtual 75, 3) := by decide +kernel
theorem dX11_minute_152 : decode cX11_minute 152 = .ok (.goto 34, 3) := by decide +kernel
theorem dX11_minute_155 : decode cX11_minute 155 = .ok (.aload_n 0, 1) := by decide +kernel
theorem dX11_minute_156 : decode cX11_minute 156 = .ok (.iload_n 1, 1) := by decide +kernel
theorem dX11_minute_157 : decode cX11_minute 157 = .ok (.iconst 5, 1) := by decide +kernel
theorem dX11_minute_158 : decode cX11_minute 158 = .ok (.aload_n 0, 1) := by decide +kernel
theorem dX11_minute_159 : decode cX11_minute 159 = .ok (.iload_n 1, 1) := by decide +kernel
theorem dX11_minute_160 : decode cX11_minute 160 = .ok (.iconst 5, 1) := by decide +kernel
theorem dX11_minute_161 : decode cX11_minute 161 = .ok (.invokevirtual 61, 3) := by decide +kernel
theorem dX11_minute_164 : decode cX11_minute 164 = .ok (.iconst 1, 1) := by decide +kernel
theorem dX11_minute_165 : decode cX11_minute 165 = .ok (.isub, 1) := by decide +kernel
theorem dX11_minute_166 : decode cX11_minute 166 = .ok (.invokevirtual 75, 3) := by decide +kernel
theorem dX11_minute_169 : decode cX11_minute 169 = .ok (.aload_n 0, 1) := by decide +kernel
theorem dX11_minute_170 : decode cX11_minute 170 = .ok (.iload_n 1, 1) := by decide +kernel
theorem dX11_minute_171 : decode cX11_minute 171 = .ok (.iconst 5, 1) := by decide +kernel
theorem dX11_minute_172 : decode cX11_minute 172 = .ok (.invokevirtual 61, 3) := by decide +kernel
theorem dX11_minute_175 : decode cX11_minute 175 = .ok (.ifCond .ne 11, 3) := by decide +kernel
theorem dX11_minute_178 : decode cX11_minute 178 = .ok (.aload_n 0, 1) := by decide +kernel
theorem dX11_minute_179 : decode cX11_minute 179 = .ok (.iload_n 1, 1) := by decide +kernel
theorem dX11_minute_180 : decode cX11_minute 180 = .ok (.iconst 4, 1) := by decide +kernel
theorem dX11_minute_181 : decode cX11_minute 181 = .ok (.bipush 119, 2) := by decide +kernel
theorem dX11_minute_183 : decode cX11_minute 183 = .ok (.invokevirtual 75, 3) := by decide +kernel
theorem dX11_minute_186 : decode cX11_minute 186 = .ok (.iinc 1 1, 3) := by decide +kernel
theorem dX11_minute_189 : decode cX11_minute 189 = .ok (.goto (-80), 3) := by decide +kernel
theorem dX11_minute_192 : decode cX11_minute 192 = .ok (.iconst 0, 1) := by decide +kernel
theorem dX11_minute_193 : decode cX11_minute 193 = .ok (.istore_n 1, 1) := by decide +kernel
theorem dX11_minute_194 : decode cX11_minute 194 = .ok (.iload_n 1, 1) := by decide +kernel
theorem dX11_minute_195 : decode cX11_minute 195 = .ok (.aload_n 0, 1) := by decide +kernel
theorem dX11_minute_196 : decode cX11_minute 196 = .ok (.getfield 7, 3) := by decide +kernel
theorem dX11_minute_199 : decode cX11_minute 199 = .ok (.iconst 1, 1) := by decide +kernel
theorem dX11_minute_200 : decode cX11_minute 200 = .ok (.iaload, 1) := by decide +kernel
theorem dX11_minute_201 : decode cX11_minute 201 = .ok (.if_icmp .ge 111, 3) := by decide +kernel
theorem dX11_minute_204 : decode cX11_minute 204 = .ok (.aload_n 0, 1) := by decide +kernel
theorem dX11_minute_205 : decode cX11_minute 205 = .ok (.getfield 7, 3) := by decide +kernel
theorem dX11_minute_208 : decode cX11_minute 208 = .ok (.sipush 138, 3) := by decide +kernel
theorem dX11_minute_211 : decode cX11_minute 211 = .ok (.iconst 2, 1) := by decide +kernel
theorem dX11_minute_212 : decode cX11_minute 212 = .ok (.iload_n 1, 1) := by decide +kernel
theorem dX11_minute_213 : decode cX11_minute 213 = .ok (.imul, 1) := by decide +kernel
theorem dX11_minute_214 : decode cX11_minute 214 = .ok (.iadd, 1) := by decide +kernel
theorem dX11_minute_215 : decode cX11_minute 215 = .ok (.iaload, 1) := by decide +kernel
theorem dX11_minute_216 : decode cX11_minute 216 = .ok (.ifCond .ne 11, 3) := by decide +kernel
theorem dX11_minute_219 : decode cX11_minute 219 = .ok (.aload_n 0, 1) := by decide +kernel
theorem dX11_minute_220 : decode cX11_minute 220 = .ok (.iconst 0, 1) := by decide +kernel
theorem dX11_minute_221 : decode cX11_minute 221 = .ok (.invokevirtual 96, 3) := by decide +kernel
theorem dX11_minute_224 : decode cX11_minute 224 = .ok (.goto 4, 3) := by decide +kernel
theorem dX11_minute_227 : decode cX11_minute 227 = .ok (.iconst (-1), 1) := by decide +kernel
theorem dX11_minute_228 : decode cX11_minute 228 = .ok (.istore_n 2, 1) := by decide +kernel
theorem dX11_minute_229 : decode cX11_minute 229 = .ok (.iload_n 2, 1) := by decide +kernel
theorem dX11_minute_230 : decode cX11_minute 230 = .ok (.iconst (-1), 1) := by decide +kernel
theorem dX11_minute_231 : decode cX11_minute 231 = .ok (.if_icmp .ne 6, 3) := by decide +kernel
theorem dX11_minute_234 : decode cX11_minute 234 = .ok (.goto 72, 3) := by decide +kernel
theorem dX11_minute_237 : decode cX11_minute 237 = .ok (.aload_n 0, 1) := by decide +kernel
theorem dX11_minute_238 : decode cX11_minute 238 = .ok (.iload_n 2, 1) := by decide +kernel
theorem dX11_minute_239 : decode cX11_minute 239 = .ok (.iconst 4, 1) := by decide +kernel
theorem dX11_minute_240 : decode cX11_minute 240 = .ok (.bipush 102, 2) := by decide +kernel
theorem dX11_minute_242 : decode cX11_minute 242 = .ok (.invokevirtual 75, 3) := by decide +kernel
theorem dX11_minute_245 : decode cX11_minute 245 = .ok (.aload_n 0, 1) := by decide +kernel
theorem dX11_minute_246 : decode cX11_minute 246 = .ok (.getfield 7, 3) := by decide +kernel
theorem dX11_minute_249 : decode cX11_minute 249 = .ok (.sipush 138, 3) := by decide +kernel
theorem dX11_minute_252 : decode cX11_minute 252 = .ok (.iconst 2, 1) := by decide +kernel
theorem dX11_minute_253 : decode cX11_minute 253 = .ok (.iload_n 1, 1) := by decide +kernel
theorem dX11_minute_254 : decode cX11_minute 254 = .ok (.imul, 1) := by decide +kernel
theorem dX11_minute_255 : decode cX11_minute 255 = .ok (.iadd, 1) := by decide +kernel
theorem dX11_minute_256 : decode cX11_minute 256 = .ok (.aload_n 0, 1) := by decide +kernel
theorem dX11_minute_257 : decode cX11_minute 257 = .ok (.iload_n 2, 1) := by decide +kernel
theorem dX11_minute_258 : decode cX11_minute 258 = .ok (.iconst 0, 1) := by decide +kernel
theorem dX11_minute_259 : decode cX11_minute 259 = .ok (.invokevirtual 61, 3) := by decide +kernel
theorem dX11_minute_262 : decode cX11_minute 262 = .ok (.iconst 1, 1) := by decide +kernel
theorem dX11_minute_263 : decode cX11_minute 263 = .ok (.iadd, 1) := by decide +kernel
theorem dX11_minute_264 : decode cX11_minute 264 = .ok (.iastore, 1) := by decide +kernel
theorem dX11_minute_265 : decode cX11_minute 265 = .ok (.aload_n 0, 1) := by decide +kernel
theorem dX11_minute_266 : decode cX11_minute 266 = .ok (.getfield 7, 3) := by decide +kernel
theorem dX11_minute_269 : decode cX11_minute 269 = .ok (.sipush 138, 3) := by decide +kernel
theorem dX11_minute_272 : decode cX11_minute 272 = .ok (.iconst 2, 1) := by decide +kernel
theorem dX11_minute_273 : decode cX11_minute 273 = .ok (.iload_n 1, 1) := by decide +kernel
theorem dX11_minute_274 : decode cX11_minute 274 = .ok (.imul, 1) := by decide +kernel
theorem dX11_minute_275 : decode cX11_minute 275 = .ok (.iadd, 1) := by decide +kernel
theorem dX11_minute_276 : decode cX11_minute 276 = .ok (.iconst 1, 1) := by decide +kernel
theorem dX11_minute_277 : decode cX11_minute 277 = .ok (.iadd, 1) := by decide +kernel
theorem dX11_minute_278 : decode cX11_minute 278 = .ok (.aload_n 0, 1) := by decide +kernel
theorem dX11_minute_279 : decode cX11_minute 279 = .ok (.aload_n 0, 1) := by decide +kernel
theorem dX11_minute_280 : decode cX11_minute 280 = .ok (.iload_n 2, 1) := by decide +kernel
theorem dX11_minute_281 : decode cX11_minute 281 = .ok (.iconst 1, 1) := by decide +kernel
theorem dX11_minute_282 : decode cX11_minute 282 = .ok (.invokevirtual 61, 3) := by decide +kernel
theorem dX11_minute_285 : decode cX11_minute 285 = .ok (.iconst 0, 1) := by decide +kernel
theorem dX11_minute_286 : decode cX11_minute 286 = .ok (.invokevirtual 65, 3) := by decide +kernel
theorem dX11_minute_289 : decode cX11_minute 289 = .ok (.aload_n 0, 1) := by decide +kernel
theorem dX11_minute_290 : decode cX11_minute 290 = .ok (.getfield 7, 3) := by decide +kernel
theorem dX11_minute_293 : decode cX11_minute 293 = .ok (.iconst 5, 1) := by decide +kernel
theorem dX11_minute_294 : decode cX11_minute 294 = .ok (.iaload, 1) := by decide +kernel
theorem dX11_minute_295 : decode cX11_minute 295 = .ok (.iconst 5, 1) := by decide +kernel
theorem dX11_minute_296 : decode cX11_minute 296 = .ok (.if_icmp .le 7, 3) := by decide +kernel
theorem dX11_minute_299 : decode cX11_minute 299 = .ok (.iconst 1, 1) := by decide +kernel
theorem dX11_minute_300 : decode cX11_minute 300 = .ok (.goto 4, 3) := by decide +kernel
theorem dX11_minute_303 : decode cX11_minute 303 = .ok (.iconst 0, 1) := by decide +kernel
theorem dX11_minute_304 : decode cX11_minute 304 = .ok (.iadd, 1) := by decide +kernel
theorem dX11_minute_305 : decode cX11_minute 305 = .ok (.iastore, 1) := by decide +kernel
theorem dX11_minute_306 : decode cX11_minute 306 = .ok (.iinc 1 1, 3) := by decide +kernel
theorem dX11_minute_309 : decode cX11_minute 309 = .ok (.goto (-115), 3) := by decide +kernel
theorem dX11_minute_312 : decode cX11_minute 312 = .ok (.return_, 1) := by decide +kernel
theorem dX11_builds_0 : decode cX11_builds 0 = .ok (.iload_n 1, 1) := by decide +kernel
theorem dX11_builds_1 : decode cX11_builds 1 = .ok (.iconst 1, 1) := by decide +kernel
theorem dX11_builds_2 : decode cX11_builds 2 = .ok (.bipush 9, 2) := by decide +kernel
theorem dX11_builds_4 : decode cX11_builds 4 = .ok (.invokestatic 57, 3) := by decide +kernel
theorem dX11_builds_7 : decode cX11_builds 7 = .ok (.ifCond .eq 12, 3) := by decide +kernel
theorem dX11_builds_10 : decode cX11_builds 10 = .ok (.iload_n 2, 1) := by decide +kernel
theorem dX11_builds_11 : decode cX11_builds 11 = .ok (.iconst 0, 1) := by decide +kernel
theorem dX11_builds_12 : decode cX11_builds 12 = .ok (.iconst 4, 1) := by decide +kernel
theorem dX11_builds_13 : decode cX11_builds 13 = .ok (.invokestatic 57, 3) := by decide +kernel
theorem dX11_builds_16 : decode cX11_builds 16 = .ok (.ifCond .ne 5, 3) := by decide +kernel
theorem dX11_builds_19 : decode cX11_builds 19 = .ok (.iconst 1, 1) := by decide +kernel
theorem dX11_builds_20 : decode cX11_builds 20 = .ok (.ireturn, 1) := by decide +kernel
theorem dX11_builds_21 : decode cX11_builds 21 = .ok (.aload_n 0, 1) := by decide +kernel
theorem dX11_builds_22 : decode cX11_builds 22 = .ok (.getfield 7, 3) := by decide +kernel
theorem dX11_builds_25 : decode cX11_builds 25 = .ok (.iconst 0, 1) := by decide +kernel
theorem dX11_builds_26 : decode cX11_builds 26 = .ok (.iaload, 1) := by decide +kernel
theorem dX11_builds_27 : decode cX11_builds 27 = .ok (.istore_n 3, 1) := by decide +kernel
theorem dX11_builds_28 : decode cX11_builds 28 = .ok (.iload_n 3, 1) := by decide +kernel
theorem dX11_builds_29 : decode cX11_builds 29 = .ok (.bipush 6, 2) := by decide +kernel
theorem dX11_builds_31 : decode cX11_builds 31 = .ok (.if_icmp .ne 5, 3) := by decide +kernel
theorem dX11_builds_34 : decode cX11_builds 34 = .ok (.iconst 2, 1) := by decide +kernel
theorem dX11_builds_35 : decode cX11_builds 35 = .ok (.ireturn, 1) := by decide +kernel
theorem dX11_builds_36 : decode cX11_builds 36 = .ok (.iconst 0, 1) := by decide +kernel
theorem dX11_builds_37 : decode cX11_builds 37 = .ok (.istore 4, 2) := by decide +kernel
theorem dX11_builds_39 : decode cX11_builds 39 = .ok (.iload 4, 2) := by decide +kernel
theorem dX11_builds_41 : decode cX11_builds 41 = .ok (.bipush 21, 2) := by decide +kernel
theorem dX11_builds_43 : decode cX11_builds 43 = .ok (.if_icmp .ge 17, 3) := by decide +kernel
theorem dX11_builds_46 : decode cX11_builds 46 = .ok (.aload_n 0, 1) := by decide +kernel
theorem dX11_builds_47 : decode cX11_builds 47 = .ok (.iload_n 3, 1) := by decide +kernel
theorem dX11_builds_48 : decode cX11_builds 48 = .ok (.iload 4, 2) := by decide +kernel
theorem dX11_builds_50 : decode cX11_builds 50 = .ok (.iconst 0, 1) := by decide +kernel
theorem dX11_builds_51 : decode cX11_builds 51 = .ok (.invokevirtual 68, 3) := by decide +kernel
theorem dX11_builds_54 : decode cX11_builds 54 = .ok (.iinc 4 1, 3) := by decide +kernel
theorem dX11_builds_57 : decode cX11_builds 57 = .ok (.goto (-18), 3) := by decide +kernel
theorem dX11_builds_60 : decode cX11_builds 60 = .ok (.aload_n 0, 1) := by decide +kernel
theorem dX11_builds_61 : decode cX11_builds 61 = .ok (.iload_n 3, 1) := by decide +kernel
theorem dX11_builds_62 : decode cX11_builds 62 = .ok (.iconst 0, 1) := by decide +kernel
theorem dX11_builds_63 : decode cX11_builds 63 = .ok (.iload_n 1, 1) := by decide +kernel
theorem dX11_builds_64 : decode cX11_builds 64 = .ok (.invokevirtual 68, 3) := by decide +kernel
theorem dX11_builds_67 : decode cX11_builds 67 = .ok (.aload_n 0, 1) := by decide +kernel
theorem dX11_builds_68 : decode cX11_builds 68 = .ok (.iload_n 3, 1) := by decide +kernel
theorem dX11_builds_69 : decode cX11_builds 69 = .ok (.iconst 1, 1) := by decide +kernel
theorem dX11_builds_70 : decode cX11_builds 70 = .ok (.iload_n 2, 1) := by decide +kernel
theorem dX11_builds_71 : decode cX11_builds 71 = .ok (.invokevirtual 68, 3) := by decide +kernel
theorem dX11_builds_74 : decode cX11_builds 74 = .ok (.aload_n 0, 1) := by decide +kernel
theorem dX11_builds_75 : decode cX11_builds 75 = .ok (.getfield 7, 3) := by decide +kernel
theorem dX11_builds_78 : decode cX11_builds 78 = .ok (.iconst 0, 1) := by decide +kernel
theorem dX11_builds_79 : decode cX11_builds 79 = .ok (.iload_n 3, 1) := by decide +kernel
theorem dX11_builds_80 : decode cX11_builds 80 = .ok (.iconst 1, 1) := by decide +kernel
theorem dX11_builds_81 : decode cX11_builds 81 = .ok (.iadd, 1) := by decide +kernel
theorem dX11_builds_82 : decode cX11_builds 82 = .ok (.iastore, 1) := by decide +kernel
theorem dX11_builds_83 : decode cX11_builds 83 = .ok (.aload_n 0, 1) := by decide +kernel
theorem dX11_builds_84 : decode cX11_builds 84 = .ok (.iload_n 3, 1) := by decide +kernel
theorem dX11_builds_85 : decode cX11_builds 85 = .ok (.invokevirtual 99, 3) := by decide +kernel
theorem dX11_builds_88 : decode cX11_builds 88 = .ok (.ireturn, 1) := by decide +kernel
theorem dX11_hires_0 : decode cX11_hires 0 = .ok (.aload_n 0, 1) := by decide +kernel
theorem dX11_hires_1 : decode cX11_hires 1 = .ok (.getfield 7, 3) := by decide +kernel
theorem dX11_hires_4 : decode cX11_hires 4 = .ok (.iconst 1, 1) := by decide +kernel
theorem dX11_hires_5 : decode cX11_hires 5 = .ok (.iaload, 1) := by decide +kernel
theorem dX11_hires_6 : decode cX11_hires 6 = .ok (.istore_n 1, 1) := by decide +kernel
theorem dX11_hires_7 : decode cX11_hires 7 = .ok (.iload_n 1, 1) := by decide +kernel
theorem dX11_hires_8 : decode cX11_hires 8 = .ok (.iconst 4, 1) := by decide +kernel
theorem dX11_hires_9 : decode cX11_hires 9 = .ok (.if_icmp .ne 5, 3) := by decide +kernel
theorem dX11_hires_12 : decode cX11_hires 12 = .ok (.iconst 1, 1) := by decide +kernel
theorem dX11_hires_13 : decode cX11_hires 13 = .ok (.ireturn, 1) := by decide +kernel
theorem dX11_hires_14 : decode cX11_hires 14 = .ok (.aload_n 0, 1) := by decide +kernel
theorem dX11_hires_15 : decode cX11_hires 15 = .ok (.getfield 7, 3) := by decide +kernel
theorem dX11_hires_18 : decode cX11_hires 18 = .ok (.sipush 138, 3) := by decide +kernel
theorem dX11_hires_21 : decode cX11_hires 21 = .ok (.iconst 2, 1) := by decide +kernel
theorem dX11_hires_22 : decode cX11_hires 22 = .ok (.iload_n 1, 1) := by decide +kernel
theorem dX11_hires_23 : decode cX11_hires 23 = .ok (.imul, 1) := by decide +kernel
theorem dX11_hires_24 : decode cX11_hires 24 = .ok (.iadd, 1) := by decide +kernel
theorem dX11_hires_25 : decode cX11_hires 25 = .ok (.iconst 0, 1) := by decide +kernel
theorem dX11_hires_26 : decode cX11_hires 26 = .ok (.iastore, 1) := by decide +kernel
theorem dX11_hires_27 : decode cX11_hires 27 = .ok (.aload_n 0, 1) := by decide +kernel
theorem dX11_hires_28 : decode cX11_hires 28 = .ok (.getfield 7, 3) := by decide +kernel
theorem dX11_hires_31 : decode cX11_hires 31 = .ok (.sipush 138, 3) := by decide +kernel
theorem dX11_hires_34 : decode cX11_hires 34 = .ok (.iconst 2, 1) := by decide +kernel
theorem dX11_hires_35 : decode cX11_hires 35 = .ok (.iload_n 1, 1) := by decide +kernel
theorem dX11_hires_36 : decode cX11_hires 36 = .ok (.imul, 1) := by decide +kernel
theorem dX11_hires_37 : decode cX11_hires 37 = .ok (.iadd, 1) := by decide +kernel
theorem dX11_hires_38 : decode cX11_hires 38 = .ok (.iconst 1, 1) := by decide +kernel
theorem dX11_hires_39 : decode cX11_hires 39 = .ok (.iadd, 1) := by decide +kernel
theorem dX11_hires_40 : decode cX11_hires 40 = .ok (.iconst 0, 1) := by decide +kernel
theorem dX11_hires_41 : decode cX11_hires 41 = .ok (.iastore, 1) := by decide +kernel
theorem dX11_hires_42 : decode cX11_hires 42 = .ok (.aload_n 0, 1) := by decide +kernel
theorem dX11_hires_43 : decode cX11_hires 43 = .ok (.getfield 7, 3) := by decide +kernel
theorem dX11_hires_46 : decode cX11_hires 46 = .ok (.iconst 1, 1) := by decide +kernel
theorem dX11_hires_47 : decode cX11_hires 47 = .ok (.iload_n 1, 1) := by decide +kernel
theorem dX11_hires_48 : decode cX11_hires 48 = .ok (.iconst 1, 1) := by decide +kernel
theorem dX11_hires_49 : decode cX11_hires 49 = .ok (.iadd, 1) := by decide +kernel
theorem dX11_hires_50 : decode cX11_hires 50 = .ok (.iastore, 1) := by decide +kernel
theorem dX11_hires_51 : decode cX11_hires 51 = .ok (.aload_n 0, 1) := by decide +kernel
theorem dX11_hires_52 : decode cX11_hires 52 = .ok (.iload_n 1, 1) := by decide +kernel
theorem dX11_hires_53 : decode cX11_hires 53 = .ok (.invokevirtual 99, 3) := by decide +kernel
theorem dX11_hires_56 : decode cX11_hires 56 = .ok (.ireturn, 1) := by decide +kernel
theorem dX11_publishes_0 : decode cX11_publishes 0 = .ok (.aload_n 0, 1) := by decide +kernel
theorem dX11_publishes_1 : decode cX11_publishes 1 = .ok (.iload_n 1, 1) := by decide +kernel
theorem dX11_publishes_2 : decode cX11_publishes 2 = .ok (.invokevirtual 102, 3) := by decide +kernel
theorem dX11_publishes_5 : decode cX11_publishes 5 = .ok (.ifCond .ne 5, 3) := by decide +kernel
theorem dX11_publishes_8 : decode cX11_publishes 8 = .ok (.iconst 1, 1) := by decide +kernel
theorem dX11_publishes_9 : decode cX11_publishes 9 = .ok (.ireturn, 1) := by decide +kernel
theorem dX11_publishes_10 : decode cX11_publishes 10 = .ok (.iload_n 2, 1) := by decide +kernel
theorem dX11_publishes_11 : decode cX11_publishes 11 = .ok (.iconst 0, 1) := by decide +kernel
theorem dX11_publishes_12 : decode cX11_publishes 12 = .ok (.bipush 99, 2) := by decide +kernel
theorem dX11_publishes_14 : decode cX11_publishes 14 = .ok (.invokestatic 57, 3) := by decide +kernel
theorem dX11_publishes_17 : decode cX11_publishes 17 = .ok (.ifCond .ne 5, 3) := by decide +kernel
theorem dX11_publishes_20 : decode cX11_publishes 20 = .ok (.iconst 2, 1) := by decide +kernel
theorem dX11_publishes_21 : decode cX11_publishes 21 = .ok (.ireturn, 1) := by decide +kernel
theorem dX11_publishes_22 : decode cX11_publishes 22 = .ok (.aload_n 0, 1) := by decide +kernel
theorem dX11_publishes_23 : decode cX11_publishes 23 = .ok (.getfield 7, 3) := by decide +kernel
theorem dX11_publishes_26 : decode cX11_publishes 26 = .ok (.iconst 2, 1) := by decide +kernel
theorem dX11_publishes_27 : decode cX11_publishes 27 = .ok (.iaload, 1) := by decide +kernel
theorem dX11_publishes_28 : decode cX11_publishes 28 = .ok (.istore_n 3, 1) := by decide +kernel
theorem dX11_publishes_29 : decode cX11_publishes 29 = .ok (.iload_n 3, 1) := by decide +kernel
theorem dX11_publishes_30 : decode cX11_publishes 30 = .ok (.bipush 16, 2) := by decide +kernel
theorem dX11_publishes_32 : decode cX11_publishes 32 = .ok (.if_icmp .ne 5, 3) := by decide +kernel
theorem dX11_publishes_35 : decode cX11_publishes 35 = .ok (.iconst 3, 1) := by decide +kernel
theorem dX11_publishes_36 : decode cX11_publishes 36 = .ok (.ireturn, 1) := by decide +kernel
theorem dX11_publishes_37 : decode cX11_publishes 37 = .ok (.iconst 0, 1) := by decide +kernel
theorem dX11_publishes_38 : decode cX11_publishes 38 = .ok (.istore 4, 2) := by decide +kernel
theorem dX11_publishes_40 : decode cX11_publishes 40 = .ok (.iload 4, 2) := by decide +kernel
theorem dX11_publishes_42 : decode cX11_publishes 42 = .ok (.bipush 7, 2) := by decide +kernel
theorem dX11_publishes_44 : decode cX11_publishes 44 = .ok (.if_icmp .ge 17, 3) := by decide +kernel
theorem dX11_publishes_47 : decode cX11_publishes 47 = .ok (.aload_n 0, 1) := by decide +kernel
theorem dX11_publishes_48 : decode cX11_publishes 48 = .ok (.iload_n 3, 1) := by decide +kernel
theorem dX11_publishes_49 : decode cX11_publishes 49 = .ok (.iload 4, 2) := by decide +kernel
theorem dX11_publishes_51 : decode cX11_publishes 51 = .ok (.iconst 0, 1) := by decide +kernel
theorem dX11_publishes_52 : decode cX11_publishes 52 = .ok (.invokevirtual 75, 3) := by decide +kernel
theorem dX11_publishes_55 : decode cX11_publishes 55 = .ok (.iinc 4 1, 3) := by decide +kernel
theorem dX11_publishes_58 : decode cX11_publishes 58 = .ok (.goto (-18), 3) := by decide +kernel
theorem dX11_publishes_61 : decode cX11_publishes 61 = .ok (.aload_n 0, 1) := by decide +kernel
theorem dX11_publishes_62 : decode cX11_publishes 62 = .ok (.iload_n 3, 1) := by decide +kernel
theorem dX11_publishes_63 : decode cX11_publishes 63 = .ok (.iconst 0, 1) := by decide +kernel
theorem dX11_publishes_64 : decode cX11_publishes 64 = .ok (.aload_n 0, 1) := by decide +kernel
theorem dX11_publishes_65 : decode cX11_publishes 65 = .ok (.getfield 7, 3) := by decide +kernel
theorem dX11_publishes_68 : decode cX11_publishes 68 = .ok (.iconst 3, 1) := by decide +kernel
theorem dX11_publishes_69 : decode cX11_publishes 69 = .ok (.iaload, 1) := by decide +kernel
theorem dX11_publishes_70 : decode cX11_publishes 70 = .ok (.invokevirtual 75, 3) := by decide +kernel
theorem dX11_publishes_73 : decode cX11_publishes 73 = .ok (.aload_n 0, 1) := by decide +kernel
theorem dX11_publishes_74 : decode cX11_publishes 74 = .ok (.iload_n 3, 1) := by decide +kernel
theorem dX11_publishes_75 : decode cX11_publishes 75 = .ok (.iconst 1, 1) := by decide +kernel
theorem dX11_publishes_76 : decode cX11_publishes 76 = .ok (.iload_n 1, 1) := by decide +kernel
theorem dX11_publishes_77 : decode cX11_publishes 77 = .ok (.invokevirtual 75, 3) := by decide +kernel
theorem dX11_publishes_80 : decode cX11_publishes 80 = .ok (.aload_n 0, 1) := by decide +kernel
theorem dX11_publishes_81 : decode cX11_publishes 81 = .ok (.iload_n 3, 1) := by decide +kernel
theorem dX11_publishes_82 : decode cX11_publishes 82 = .ok (.iconst 2, 1) := by decide +kernel
theorem dX11_publishes_83 : decode cX11_publishes 83 = .ok (.iload_n 2, 1) := by decide +kernel
theorem dX11_publishes_84 : decode cX11_publishes 84 = .ok (.invokevirtual 75, 3) := by decide +kernel
theorem dX11_publishes_87 : decode cX11_publishes 87 = .ok (.aload_n 0, 1) := by decide +kernel
theorem dX11_publishes_88 : decode cX11_publishes 88 = .ok (.iload_n 3, 1) := by decide +kernel
theorem dX11_publishes_89 : decode cX11_publishes 89 = .ok (.iconst 4, 1) := by decide +kernel
theorem dX11_publishes_90 : decode cX11_publishes 90 = .ok (.bipush 119, 2) := by decide +kernel
theorem dX11_publishes_92 : decode cX11_publishes 92 = .ok (.invokevirtual 75, 3) := by decide +kernel
theorem dX11_publishes_95 : decode cX11_publishes 95 = .ok (.aload_n 0, 1) := by decide +kernel
theorem dX11_publishes_96 : decode cX11_publishes 96 = .ok (.getfield 7, 3) := by decide +kernel
theorem dX11_publishes_99 : decode cX11_publishes 99 = .ok (.iconst 2, 1) := by decide +kernel
theorem dX11_publishes_100 : decode cX11_publishes 100 = .ok (.iload_n 3, 1) := by decide +kernel
theorem dX11_publishes_101 : decode cX11_publishes 101 = .ok (.iconst 1, 1) := by decide +kernel
theorem dX11_publishes_102 : decode cX11_publishes 102 = .ok (.iadd, 1) := by decide +kernel
theorem dX11_publishes_103 : decode cX11_publishes 103 = .ok (.iastore, 1) := by decide +kernel
theorem dX11_publishes_104 : decode cX11_publishes 104 = .ok (.aload_n 0, 1) := by decide +kernel
theorem dX11_publishes_105 : decode cX11_publishes 105 = .ok (.getfield 7, 3) := by decide +kernel
theorem dX11_publishes_108 : decode cX11_publishes 108 = .ok (.iconst 3, 1) := by decide +kernel
theorem dX11_publishes_109 : decode cX11_publishes 109 = .ok (.dup2, 1) := by decide +kernel
theorem dX11_publishes_110 : decode cX11_publishes 110 = .ok (.iaload, 1) := by decide +kernel
theorem dX11_publishes_111 : decode cX11_publishes 111 = .ok (.iconst 1, 1) := by decide +kernel
theorem dX11_publishes_112 : decode cX11_publishes 112 = .ok (.iadd, 1) := by decide +kernel
theorem dX11_publishes_113 : decode cX11_publishes 113 = .ok (.iastore, 1) := by decide +kernel
theorem dX11_publishes_114 : decode cX11_publishes 114 = .ok (.aload_n 0, 1) := by decide +kernel
theorem dX11_publishes_115 : decode cX11_publishes 115 = .ok (.aload_n 0, 1) := by decide +kernel
theorem dX11_publishes_116 : decode cX11_publishes 116 = .ok (.getfield 7, 3) := by decide +kernel
theorem dX11_publishes_119 : decode cX11_publishes 119 = .ok (.iconst 3, 1) := by decide +kernel
theorem dX11_publishes_120 : decode cX11_publishes 120 = .ok (.iaload, 1) := by decide +kernel
theorem dX11_publishes_121 : decode cX11_publishes 121 = .ok (.iconst 1, 1) := by decide +kernel
theorem dX11_publishes_122 : decode cX11_publishes 122 = .ok (.isub, 1) := by decide +kernel
theorem dX11_publishes_123 : decode cX11_publishes 123 = .ok (.invokevirtual 99, 3) := by decide +kernel
theorem dX11_publishes_126 : decode cX11_publishes 126 = .ok (.ireturn, 1) := by decide +kernel
theorem dX11_reads_0 : decode cX11_reads 0 = .ok (.aload_n 0, 1) := by decide +kernel
theorem dX11_reads_1 : decode cX11_reads 1 = .ok (.iload_n 1, 1) := by decide +kernel
theorem dX11_reads_2 : decode cX11_reads 2 = .ok (.invokevirtual 102, 3) := by decide +kernel
theorem dX11_reads_5 : decode cX11_reads 5 = .ok (.ifCond .ne 5, 3) := by decide +kernel
theorem dX11_reads_8 : decode cX11_reads 8 = .ok (.iconst 1, 1) := by decide +kernel
theorem dX11_reads_9 : decode cX11_reads 9 = .ok (.ireturn, 1) := by decide +kernel
theorem dX11_reads_10 : decode cX11_reads 10 = .ok (.aload_n 0, 1) := by decide +kernel
theorem dX11_reads_11 : decode cX11_reads 11 = .ok (.iload_n 1, 1) := by decide +kernel
theorem dX11_reads_12 : decode cX11_reads 12 = .ok (.iconst 2, 1) := by decide +kernel
theorem dX11_reads_13 : decode cX11_reads 13 = .ok (.invokevirtual 65, 3) := by decide +kernel
theorem dX11_reads_16 : decode cX11_reads 16 = .ok (.istore_n 2, 1) := by decide +kernel
theorem dX11_reads_17 : decode cX11_reads 17 = .ok (.iload_n 2, 1) := by decide +kernel
theorem dX11_reads_18 : decode cX11_reads 18 = .ok (.ifCond .ne 5, 3) := by decide +kernel
theorem dX11_reads_21 : decode cX11_reads 21 = .ok (.iconst 2, 1) := by decide +kernel
theorem dX11_reads_22 : decode cX11_reads 22 = .ok (.ireturn, 1) := by decide +kernel
theorem dX11_reads_23 : decode cX11_reads 23 = .ok (.aload_n 0, 1) := by decide +kernel
theorem dX11_reads_24 : decode cX11_reads 24 = .ok (.iload_n 1, 1) := by decide +kernel
theorem dX11_reads_25 : decode cX11_reads 25 = .ok (.iconst 3, 1) := by decide +kernel
theorem dX11_reads_26 : decode cX11_reads 26 = .ok (.invokevirtual 65, 3) := by decide +kernel
theorem dX11_reads_29 : decode cX11_reads 29 = .ok (.istore_n 3, 1) := by decide +kernel
theorem dX11_reads_30 : decode cX11_reads 30 = .ok (.iconst 0, 1) := by decide +kernel
theorem dX11_reads_31 : decode cX11_reads 31 = .ok (.istore 4, 2) := by decide +kernel
theorem dX11_reads_33 : decode cX11_reads 33 = .ok (.iload 4, 2) := by decide +kernel
theorem dX11_reads_35 : decode cX11_reads 35 = .ok (.iload_n 2, 1) := by decide +kernel
theorem dX11_reads_36 : decode cX11_reads 36 = .ok (.iconst 1, 1) := by decide +kernel
theorem dX11_reads_37 : decode cX11_reads 37 = .ok (.isub, 1) := by decide +kernel
theorem dX11_reads_38 : decode cX11_reads 38 = .ok (.if_icmp .ge 29, 3) := by decide +kernel
theorem dX11_reads_41 : decode cX11_reads 41 = .ok (.aload_n 0, 1) := by decide +kernel
theorem dX11_reads_42 : decode cX11_reads 42 = .ok (.iload_n 1, 1) := by decide +kernel
theorem dX11_reads_43 : decode cX11_reads 43 = .ok (.iconst 3, 1) := by decide +kernel
theorem dX11_reads_44 : decode cX11_reads 44 = .ok (.iload 4, 2) := by decide +kernel
theorem dX11_reads_46 : decode cX11_reads 46 = .ok (.iadd, 1) := by decide +kernel
theorem dX11_reads_47 : decode cX11_reads 47 = .ok (.aload_n 0, 1) := by decide +kernel
theorem dX11_reads_48 : decode cX11_reads 48 = .ok (.iload_n 1, 1) := by decide +kernel
theorem dX11_reads_49 : decode cX11_reads 49 = .ok (.iconst 3, 1) := by decide +kernel
theorem dX11_reads_50 : decode cX11_reads 50 = .ok (.iload 4, 2) := by decide +kernel
theorem dX11_reads_52 : decode cX11_reads 52 = .ok (.iadd, 1) := by decide +kernel
theorem dX11_reads_53 : decode cX11_reads 53 = .ok (.iconst 1, 1) := by decide +kernel
theorem dX11_reads_54 : decode cX11_reads 54 = .ok (.iadd, 1) := by decide +kernel
theorem dX11_reads_55 : decode cX11_reads 55 = .ok (.invokevirtual 65, 3) := by decide +kernel
theorem dX11_reads_58 : decode cX11_reads 58 = .ok (.invokevirtual 68, 3) := by decide +kernel
theorem dX11_reads_61 : decode cX11_reads 61 = .ok (.iinc 4 1, 3) := by decide +kernel
theorem dX11_reads_64 : decode cX11_reads 64 = .ok (.goto (-31), 3) := by decide +kernel
theorem dX11_reads_67 : decode cX11_reads 67 = .ok (.aload_n 0, 1) := by decide +kernel
theorem dX11_reads_68 : decode cX11_reads 68 = .ok (.iload_n 1, 1) := by decide +kernel
theorem dX11_reads_69 : decode cX11_reads 69 = .ok (.iconst 3, 1) := by decide +kernel
theorem dX11_reads_70 : decode cX11_reads 70 = .ok (.iload_n 2, 1) := by decide +kernel
theorem dX11_reads_71 : decode cX11_reads 71 = .ok (.iadd, 1) := by decide +kernel
theorem dX11_reads_72 : decode cX11_reads 72 = .ok (.iconst 1, 1) := by decide +kernel
theorem dX11_reads_73 : decode cX11_reads 73 = .ok (.isub, 1) := by decide +kernel
theorem dX11_reads_74 : decode cX11_reads 74 = .ok (.iconst 0, 1) := by decide +kernel
theorem dX11_reads_75 : decode cX11_reads 75 = .ok (.invokevirtual 68, 3) := by decide +kernel
theorem dX11_reads_78 : decode cX11_reads 78 = .ok (.aload_n 0, 1) := by decide +kernel
theorem dX11_reads_79 : decode cX11_reads 79 = .ok (.iload_n 1, 1) := by decide +kernel
theorem dX11_reads_80 : decode cX11_reads 80 = .ok (.iconst 2, 1) := by decide +kernel
theorem dX11_reads_81 : decode cX11_reads 81 = .ok (.iload_n 2, 1) := by decide +kernel
theorem dX11_reads_82 : decode cX11_reads 82 = .ok (.iconst 1, 1) := by decide +kernel
theorem dX11_reads_83 : decode cX11_reads 83 = .ok (.isub, 1) := by decide +kernel
theorem dX11_reads_84 : decode cX11_reads 84 = .ok (.invokevirtual 68, 3) := by decide +kernel
theorem dX11_reads_87 : decode cX11_reads 87 = .ok (.aload_n 0, 1) := by decide +kernel
theorem dX11_reads_88 : decode cX11_reads 88 = .ok (.getfield 7, 3) := by decide +kernel
theorem dX11_reads_91 : decode cX11_reads 91 = .ok (.bipush 7, 2) := by decide +kernel
theorem dX11_reads_93 : decode cX11_reads 93 = .ok (.dup2, 1) := by decide +kernel
theorem dX11_reads_94 : decode cX11_reads 94 = .ok (.iaload, 1) := by decide +kernel
theorem dX11_reads_95 : decode cX11_reads 95 = .ok (.iconst 1, 1) := by decide +kernel
theorem dX11_reads_96 : decode cX11_reads 96 = .ok (.iadd, 1) := by decide +kernel
theorem dX11_reads_97 : decode cX11_reads 97 = .ok (.iastore, 1) := by decide +kernel
theorem dX11_reads_98 : decode cX11_reads 98 = .ok (.aload_n 0, 1) := by decide +kernel
theorem dX11_reads_99 : decode cX11_reads 99 = .ok (.aload_n 0, 1) := by decide +kernel
theorem dX11_reads_100 : decode cX11_reads 100 = .ok (.iload_n 3, 1) := by decide +kernel
theorem dX11_reads_101 : decode cX11_reads 101 = .ok (.invokevirtual 72, 3) := by decide +kernel
theorem dX11_reads_104 : decode cX11_reads 104 = .ok (.invokevirtual 85, 3) := by decide +kernel
theorem dX11_reads_107 : decode cX11_reads 107 = .ok (.aload_n 0, 1) := by decide +kernel
theorem dX11_reads_108 : decode cX11_reads 108 = .ok (.iload_n 3, 1) := by decide +kernel
theorem dX11_reads_109 : decode cX11_reads 109 = .ok (.invokevirtual 99, 3) := by decide +kernel
theorem dX11_reads_112 : decode cX11_reads 112 = .ok (.ireturn, 1) := by decide +kernel
theorem dX11_cancels_0 : decode cX11_cancels 0 = .ok (.aload_n 0, 1) := by decide +kernel
theorem dX11_cancels_1 : decode cX11_cancels 1 = .ok (.iload_n 1, 1) := by decide +kernel
theorem dX11_cancels_2 : decode cX11_cancels 2 = .ok (.invokevirtual 72, 3) := by decide +kernel
theorem dX11_cancels_5 : decode cX11_cancels 5 = .ok (.istore_n 2, 1) := by decide +kernel
theorem dX11_cancels_6 : decode cX11_cancels 6 = .ok (.iload_n 2, 1) := by decide +kernel
theorem dX11_cancels_7 : decode cX11_cancels 7 = .ok (.iconst (-1), 1) := by decide +kernel
theorem dX11_cancels_8 : decode cX11_cancels 8 = .ok (.if_icmp .ne 5, 3) := by decide +kernel
theorem dX11_cancels_11 : decode cX11_cancels 11 = .ok (.iconst 1, 1) := by decide +kernel
theorem dX11_cancels_12 : decode cX11_cancels 12 = .ok (.ireturn, 1) := by decide +kernel
theorem dX11_cancels_13 : decode cX11_cancels 13 = .ok (.aload_n 0, 1) := by decide +kernel
theorem dX11_cancels_14 : decode cX11_cancels 14 = .ok (.iload_n 2, 1) := by decide +kernel
theorem dX11_cancels_15 : decode cX11_cancels 15 = .ok (.iconst 4, 1) := by decide +kernel
theorem dX11_cancels_16 : decode cX11_cancels 16 = .ok (.invokevirtual 61, 3) := by decide +kernel
theorem dX11_cancels_19 : decode cX11_cancels 19 = .ok (.bipush 102, 2) := by decide +kernel
theorem dX11_cancels_21 : decode cX11_cancels 21 = .ok (.if_icmp .eq 14, 3) := by decide +kernel
theorem dX11_cancels_24 : decode cX11_cancels 24 = .ok (.aload_n 0, 1) := by decide +kernel
theorem dX11_cancels_25 : decode cX11_cancels 25 = .ok (.iload_n 2, 1) := by decide +kernel
theorem dX11_cancels_26 : decode cX11_cancels 26 = .ok (.iconst 4, 1) := by decide +kernel
theorem dX11_cancels_27 : decode cX11_cancels 27 = .ok (.invokevirtual 61, 3) := by decide +kernel
theorem dX11_cancels_30 : decode cX11_cancels 30 = .ok (.bipush 100, 2) := by decide +kernel
theorem dX11_cancels_32 : decode cX11_cancels 32 = .ok (.if_icmp .ne 5, 3) := by decide +kernel
theorem dX11_cancels_35 : decode cX11_cancels 35 = .ok (.iconst 2, 1) := by decide +kernel
theorem dX11_cancels_36 : decode cX11_cancels 36 = .ok (.ireturn, 1) := by decide +kernel
theorem dX11_cancels_37 : decode cX11_cancels 37 = .ok (.aload_n 0, 1) := by decide +kernel
theorem dX11_cancels_38 : decode cX11_cancels 38 = .ok (.getfield 7, 3) := by decide +kernel
theorem dX11_cancels_41 : decode cX11_cancels 41 = .ok (.bipush 11, 2) := by decide +kernel
theorem dX11_cancels_43 : decode cX11_cancels 43 = .ok (.dup2, 1) := by decide +kernel
theorem dX11_cancels_44 : decode cX11_cancels 44 = .ok (.iaload, 1) := by decide +kernel
theorem dX11_cancels_45 : decode cX11_cancels 45 = .ok (.iconst 1, 1) := by decide +kernel
theorem dX11_cancels_46 : decode cX11_cancels 46 = .ok (.iadd, 1) := by decide +kernel
theorem dX11_cancels_47 : decode cX11_cancels 47 = .ok (.iastore, 1) := by decide +kernel
theorem dX11_cancels_48 : decode cX11_cancels 48 = .ok (.aload_n 0, 1) := by decide +kernel
theorem dX11_cancels_49 : decode cX11_cancels 49 = .ok (.iload_n 2, 1) := by decide +kernel
theorem dX11_cancels_50 : decode cX11_cancels 50 = .ok (.invokevirtual 85, 3) := by decide +kernel
theorem dX11_cancels_53 : decode cX11_cancels 53 = .ok (.aload_n 0, 1) := by decide +kernel
theorem dX11_cancels_54 : decode cX11_cancels 54 = .ok (.aload_n 0, 1) := by decide +kernel
theorem dX11_cancels_55 : decode cX11_cancels 55 = .ok (.getfield 7, 3) := by decide +kernel
theorem dX11_cancels_58 : decode cX11_cancels 58 = .ok (.iconst 2, 1) := by decide +kernel
theorem dX11_cancels_59 : decode cX11_cancels 59 = .ok (.iaload, 1) := by decide +kernel
theorem dX11_cancels_60 : decode cX11_cancels 60 = .ok (.invokevirtual 99, 3) := by decide +kernel
theorem dX11_cancels_63 : decode cX11_cancels 63 = .ok (.ireturn, 1) := by decide +kernel
theorem dX11_blows_0 : decode cX11_blows 0 = .ok (.iload_n 1, 1) := by decide +kernel
theorem dX11_blows_1 : decode cX11_blows 1 = .ok (.iconst 0, 1) := by decide +kernel
theorem dX11_blows_2 : decode cX11_blows 2 = .ok (.bipush 9, 2) := by decide +kernel
theorem dX11_blows_4 : decode cX11_blows 4 = .ok (.invokestatic 57, 3) := by decide +kernel
theorem dX11_blows_7 : decode cX11_blows 7 = .ok (.ifCond .ne 5, 3) := by decide +kernel
theorem dX11_blows_10 : decode cX11_blows 10 = .ok (.iconst 1, 1) := by decide +kernel
theorem dX11_blows_11 : decode cX11_blows 11 = .ok (.ireturn, 1) := by decide +kernel
theorem dX11_blows_12 : decode cX11_blows 12 = .ok (.aload_n 0, 1) := by decide +kernel
theorem dX11_blows_13 : decode cX11_blows 13 = .ok (.getfield 7, 3) := by decide +kernel
theorem dX11_blows_16 : decode cX11_blows 16 = .ok (.iconst 5, 1) := by decide +kernel
theorem dX11_blows_17 : decode cX11_blows 17 = .ok (.iaload, 1) := by decide +kernel
theorem dX11_blows_18 : decode cX11_blows 18 = .ok (.istore_n 2, 1) := by decide +kernel
theorem dX11_blows_19 : decode cX11_blows 19 = .ok (.aload_n 0, 1) := by decide +kernel
theorem dX11_blows_20 : decode cX11_blows 20 = .ok (.getfield 7, 3) := by decide +kernel
theorem dX11_blows_23 : decode cX11_blows 23 = .ok (.iconst 5, 1) := by decide +kernel
theorem dX11_blows_24 : decode cX11_blows 24 = .ok (.iload_n 1, 1) := by decide +kernel
theorem dX11_blows_25 : decode cX11_blows 25 = .ok (.iastore, 1) := by decide +kernel
theorem dX11_blows_26 : decode cX11_blows 26 = .ok (.aload_n 0, 1) := by decide +kernel
theorem dX11_blows_27 : decode cX11_blows 27 = .ok (.iload_n 2, 1) := by decide +kernel
theorem dX11_blows_28 : decode cX11_blows 28 = .ok (.invokevirtual 99, 3) := by decide +kernel
theorem dX11_blows_31 : decode cX11_blows 31 = .ok (.ireturn, 1) := by decide +kernel
theorem dX11_forgets_0 : decode cX11_forgets 0 = .ok (.aload_n 0, 1) := by decide +kernel
theorem dX11_forgets_1 : decode cX11_forgets 1 = .ok (.iload_n 1, 1) := by decide +kernel
theorem dX11_forgets_2 : decode cX11_forgets 2 = .ok (.invokevirtual 102, 3) := by decide +kernel
theorem dX11_forgets_5 : decode cX11_forgets 5 = .ok (.ifCond .ne 5, 3) := by decide +kernel
theorem dX11_forgets_8 : decode cX11_forgets 8 = .ok (.iconst 1, 1) := by decide +kernel
theorem dX11_forgets_9 : decode cX11_forgets 9 = .ok (.ireturn, 1) := by decide +kernel
theorem dX11_forgets_10 : decode cX11_forgets 10 = .ok (.aload_n 0, 1) := by decide +kernel
theorem dX11_forgets_11 : decode cX11_forgets 11 = .ok (.iload_n 1, 1) := by decide +kernel
theorem dX11_forgets_12 : decode cX11_forgets 12 = .ok (.bipush 11, 2) := by decide +kernel
theorem dX11_forgets_14 : decode cX11_forgets 14 = .ok (.invokevirtual 65, 3) := by decide +kernel
theorem dX11_forgets_17 : decode cX11_forgets 17 = .ok (.istore_n 2, 1) := by decide +kernel
theorem dX11_forgets_18 : decode cX11_forgets 18 = .ok (.iconst 0, 1) := by decide +kernel
theorem dX11_forgets_19 : decode cX11_forgets 19 = .ok (.istore_n 3, 1) := by decide +kernel
theorem dX11_forgets_20 : decode cX11_forgets 20 = .ok (.iload_n 3, 1) := by decide +kernel
theorem dX11_forgets_21 : decode cX11_forgets 21 = .ok (.bipush 8, 2) := by decide +kernel
theorem dX11_forgets_23 : decode cX11_forgets 23 = .ok (.if_icmp .ge 19, 3) := by decide +kernel
theorem dX11_forgets_26 : decode cX11_forgets 26 = .ok (.aload_n 0, 1) := by decide +kernel
theorem dX11_forgets_27 : decode cX11_forgets 27 = .ok (.iload_n 1, 1) := by decide +kernel
theorem dX11_forgets_28 : decode cX11_forgets 28 = .ok (.bipush 12, 2) := by decide +kernel
theorem dX11_forgets_30 : decode cX11_forgets 30 = .ok (.iload_n 3, 1) := by decide +kernel
theorem dX11_forgets_31 : decode cX11_forgets 31 = .ok (.iadd, 1) := by decide +kernel
theorem dX11_forgets_32 : decode cX11_forgets 32 = .ok (.iconst 0, 1) := by decide +kernel
theorem dX11_forgets_33 : decode cX11_forgets 33 = .ok (.invokevirtual 68, 3) := by decide +kernel
theorem dX11_forgets_36 : decode cX11_forgets 36 = .ok (.iinc 3 1, 3) := by decide +kernel
theorem dX11_forgets_39 : decode cX11_forgets 39 = .ok (.goto (-19), 3) := by decide +kernel
theorem dX11_forgets_42 : decode cX11_forgets 42 = .ok (.aload_n 0, 1) := by decide +kernel
theorem dX11_forgets_43 : decode cX11_forgets 43 = .ok (.iload_n 1, 1) := by decide +kernel
theorem dX11_forgets_44 : decode cX11_forgets 44 = .ok (.bipush 11, 2) := by decide +kernel
theorem dX11_forgets_46 : decode cX11_forgets 46 = .ok (.iconst 0, 1) := by decide +kernel
theorem dX11_forgets_47 : decode cX11_forgets 47 = .ok (.invokevirtual 68, 3) := by decide +kernel
theorem dX11_forgets_50 : decode cX11_forgets 50 = .ok (.aload_n 0, 1) := by decide +kernel
theorem dX11_forgets_51 : decode cX11_forgets 51 = .ok (.iload_n 2, 1) := by decide +kernel
theorem dX11_forgets_52 : decode cX11_forgets 52 = .ok (.invokevirtual 99, 3) := by decide +kernel
theorem dX11_forgets_55 : decode cX11_forgets 55 = .ok (.ireturn, 1) := by decide +kernel
theorem dX11_passes_0 : decode cX11_passes 0 = .ok (.iload_n 1, 1) := by decide +kernel
theorem dX11_passes_1 : decode cX11_passes 1 = .ok (.iconst 1, 1) := by decide +kernel
theorem dX11_passes_2 : decode cX11_passes 2 = .ok (.bipush 100, 2) := by decide +kernel
theorem dX11_passes_4 : decode cX11_passes 4 = .ok (.invokestatic 57, 3) := by decide +kernel
theorem dX11_passes_7 : decode cX11_passes 7 = .ok (.ifCond .ne 5, 3) := by decide +kernel
theorem dX11_passes_10 : decode cX11_passes 10 = .ok (.iconst 1, 1) := by decide +kernel
theorem dX11_passes_11 : decode cX11_passes 11 = .ok (.ireturn, 1) := by decide +kernel
theorem dX11_passes_12 : decode cX11_passes 12 = .ok (.aload_n 0, 1) := by decide +kernel
theorem dX11_passes_13 : decode cX11_passes 13 = .ok (.getfield 7, 3) := by decide +kernel
theorem dX11_passes_16 : decode cX11_passes 16 = .ok (.bipush 6, 2) := by decide +kernel
theorem dX11_passes_18 : decode cX11_passes 18 = .ok (.iaload, 1) := by decide +kernel
theorem dX11_passes_19 : decode cX11_passes 19 = .ok (.istore_n 2, 1) := by decide +kernel
theorem dX11_passes_20 : decode cX11_passes 20 = .ok (.iconst 0, 1) := by decide +kernel
theorem dX11_passes_21 : decode cX11_passes 21 = .ok (.istore_n 3, 1) := by decide +kernel
theorem dX11_passes_22 : decode cX11_passes 22 = .ok (.iload_n 3, 1) := by decide +kernel
theorem dX11_passes_23 : decode cX11_passes 23 = .ok (.iload_n 1, 1) := by decide +kernel
theorem dX11_passes_24 : decode cX11_passes 24 = .ok (.if_icmp .ge 13, 3) := by decide +kernel
theorem dX11_passes_27 : decode cX11_passes 27 = .ok (.aload_n 0, 1) := by decide +kernel
theorem dX11_passes_28 : decode cX11_passes 28 = .ok (.invokevirtual 106, 3) := by decide +kernel
theorem dX11_passes_31 : decode cX11_passes 31 = .ok (.iinc 3 1, 3) := by decide +kernel
theorem dX11_passes_34 : decode cX11_passes 34 = .ok (.goto (-12), 3) := by decide +kernel
theorem dX11_passes_37 : decode cX11_passes 37 = .ok (.aload_n 0, 1) := by decide +kernel
theorem dX11_passes_38 : decode cX11_passes 38 = .ok (.aload_n 0, 1) := by decide +kernel
theorem dX11_passes_39 : decode cX11_passes 39 = .ok (.getfield 7, 3) := by decide +kernel
theorem dX11_passes_42 : decode cX11_passes 42 = .ok (.bipush 6, 2) := by decide +kernel
theorem dX11_passes_44 : decode cX11_passes 44 = .ok (.iaload, 1) := by decide +kernel
theorem dX11_passes_45 : decode cX11_passes 45 = .ok (.iload_n 2, 1) := by decide +kernel
theorem dX11_passes_46 : decode cX11_passes 46 = .ok (.isub, 1) := by decide +kernel
theorem dX11_passes_47 : decode cX11_passes 47 = .ok (.invokevirtual 99, 3) := by decide +kernel
theorem dX11_passes_50 : decode cX11_passes 50 = .ok (.ireturn, 1) := by decide +kernel
theorem dX11_addNest_0 : decode cX11_addNest 0 = .ok (.aload_n 0, 1) := by decide +kernel
theorem dX11_addNest_1 : decode cX11_addNest 1 = .ok (.invokevirtual 109, 3) := by decide +kernel
theorem dX11_addNest_4 : decode cX11_addNest 4 = .ok (.aload_n 0, 1) := by decide +kernel
theorem dX11_addNest_5 : decode cX11_addNest 5 = .ok (.aload_n 0, 1) := by decide +kernel
theorem dX11_addNest_6 : decode cX11_addNest 6 = .ok (.iload_n 1, 1) := by decide +kernel
theorem dX11_addNest_7 : decode cX11_addNest 7 = .ok (.iload_n 2, 1) := by decide +kernel
theorem dX11_addNest_8 : decode cX11_addNest 8 = .ok (.invokevirtual 112, 3) := by decide +kernel
theorem dX11_addNest_11 : decode cX11_addNest 11 = .ok (.invokevirtual 115, 3) := by decide +kernel
theorem dX11_addNest_14 : decode cX11_addNest 14 = .ok (.ireturn, 1) := by decide +kernel
theorem dX11_addCrow_0 : decode cX11_addCrow 0 = .ok (.aload_n 0, 1) := by decide +kernel
theorem dX11_addCrow_1 : decode cX11_addCrow 1 = .ok (.invokevirtual 109, 3) := by decide +kernel
theorem dX11_addCrow_4 : decode cX11_addCrow 4 = .ok (.aload_n 0, 1) := by decide +kernel
theorem dX11_addCrow_5 : decode cX11_addCrow 5 = .ok (.aload_n 0, 1) := by decide +kernel
theorem dX11_addCrow_6 : decode cX11_addCrow 6 = .ok (.invokevirtual 118, 3) := by decide +kernel
theorem dX11_addCrow_9 : decode cX11_addCrow 9 = .ok (.invokevirtual 115, 3) := by decide +kernel
theorem dX11_addCrow_12 : decode cX11_addCrow 12 = .ok (.ireturn, 1) := by decide +kernel
theorem dX11_publish_0 : decode cX11_publish 0 = .ok (.aload_n 0, 1) := by decide +kernel
theorem dX11_publish_1 : decode cX11_publish 1 = .ok (.invokevirtual 109, 3) := by decide +kernel
theorem dX11_publish_4 : decode cX11_publish 4 = .ok (.aload_n 0, 1) := by decide +kernel
theorem dX11_publish_5 : decode cX11_publish 5 = .ok (.aload_n 0, 1) := by decide +kernel
theorem dX11_publish_6 : decode cX11_publish 6 = .ok (.iload_n 1, 1) := by decide +kernel
theorem dX11_publish_7 : decode cX11_publish 7 = .ok (.iload_n 2, 1) := by decide +kernel
theorem dX11_publish_8 : decode cX11_publish 8 = .ok (.invokevirtual 122, 3) := by decide +kernel
theorem dX11_publish_11 : decode cX11_publish 11 = .ok (.invokevirtual 115, 3) := by decide +kernel
theorem dX11_publish_14 : decode cX11_publish 14 = .ok (.ireturn, 1) := by decide +kernel
theorem dX11_read_0 : decode cX11_read 0 = .ok (.aload_n 0, 1) := by decide +kernel
theorem dX11_read_1 : decode cX11_read 1 = .ok (.invokevirtual 109, 3) := by decide +kernel
theorem dX11_read_4 : decode cX11_read 4 = .ok (.aload_n 0, 1) := by decide +kernel
theorem dX11_read_5 : decode cX11_read 5 = .ok (.aload_n 0, 1) := by decide +kernel
theorem dX11_read_6 : decode cX11_read 6 = .ok (.iload_n 1, 1) := by decide +kernel
theorem dX11_read_7 : decode cX11_read 7 = .ok (.invokevirtual 125, 3) := by decide +kernel
theorem dX11_read_10 : decode cX11_read 10 = .ok (.invokevirtual 115, 3) := by decide +kernel
theorem dX11_read_13 : decode cX11_read 13 = .ok (.ireturn, 1) := by decide +kernel
theorem dX11_cancel_0 : decode cX11_cancel 0 = .ok (.aload_n 0, 1) := by decide +kernel
theorem dX11_cancel_1 : decode cX11_cancel 1 = .ok (.invokevirtual 109, 3) := by decide +kernel
theorem dX11_cancel_4 : decode cX11_cancel 4 = .ok (.aload_n 0, 1) := by decide +kernel
theorem dX11_cancel_5 : decode cX11_cancel 5 = .ok (.aload_n 0, 1) := by decide +kernel
theorem dX11_cancel_6 : decode cX11_cancel 6 = .ok (.iload_n 1, 1) := by decide +kernel
theorem dX11_cancel_7 : decode cX11_cancel 7 = .ok (.invokevirtual 128, 3) := by decide +kernel
theorem dX11_cancel_10 : decode cX11_cancel 10 = .ok (.invokevirtual 115, 3) := by decide +kernel
theorem dX11_cancel_13 : decode cX11_cancel 13 = .ok (.ireturn, 1) := by decide +kernel
theorem dX11_setWind_0 : decode cX11_setWind 0 = .ok (.aload_n 0, 1) := by decide +kernel
theorem dX11_setWind_1 : decode cX11_setWind 1 = .ok (.invokevirtual 109, 3) := by decide +kernel
theorem dX11_setWind_4 : decode cX11_setWind 4 = .ok (.aload_n 0, 1) := by decide +kernel
theorem dX11_setWind_5 : decode cX11_setWind 5 = .ok (.aload_n 0, 1) := by decide +kernel
theorem dX11_setWind_6 : decode cX11_setWind 6 = .ok (.iload_n 1, 1) := by decide +kernel
theorem dX11_setWind_7 : decode cX11_setWind 7 = .ok (.invokevirtual 131, 3) := by decide +kernel
theorem dX11_setWind_10 : decode cX11_setWind 10 = .ok (.invokevirtual 115, 3) := by decide +kernel
theorem dX11_setWind_13 : decode cX11_setWind 13 = .ok (.ireturn, 1) := by decide +kernel
theorem dX11_forget_0 : decode cX11_forget 0 = .ok (.aload_n 0, 1) := by decide +kernel
theorem dX11_forget_1 : decode cX11_forget 1 = .ok (.invokevirtual 109, 3) := by decide +kernel
theorem dX11_forget_4 : decode cX11_forget 4 = .ok (.aload_n 0, 1) := by decide +kernel
theorem dX11_forget_5 : decode cX11_forget 5 = .ok (.aload_n 0, 1) := by decide +kernel
theorem dX11_forget_6 : decode cX11_forget 6 = .ok (.iload_n 1, 1) := by decide +kernel
theorem dX11_forget_7 : decode cX11_forget 7 = .ok (.invokevirtual 134, 3) := by decide +kernel
theorem dX11_forget_10 : decode cX11_forget 10 = .ok (.invokevirtual 115, 3) := by decide +kernel
theorem dX11_forget_13 : decode cX11_forget 13 = .ok (.ireturn, 1) := by decide +kernel
theorem dX11_advance_0 : decode cX11_advance 0 = .ok (.aload_n 0, 1) := by decide +kernel
theorem dX11_advance_1 : decode cX11_advance 1 = .ok (.invokevirtual 109, 3) := by decide +kernel
theorem dX11_advance_4 : decode cX11_advance 4 = .ok (.aload_n 0, 1) := by decide +kernel
theorem dX11_advance_5 : decode cX11_advance 5 = .ok (.aload_n 0, 1) := by decide +kernel
theorem dX11_advance_6 : decode cX11_advance 6 = .ok (.iload_n 1, 1) := by decide +kernel
theorem dX11_advance_7 : decode cX11_advance 7 = .ok (.invokevirtual 137, 3) := by decide +kernel
theorem dX11_advance_10 : decode cX11_advance 10 = .ok (.invokevirtual 115, 3) := by decide +kernel
theorem dX11_advance_13 : decode cX11_advance 13 = .ok (.ireturn, 1) := by decide +kernel
theorem dX11_nestCount_0 : decode cX11_nestCount 0 = .ok (.aload_n 0, 1) := by decide +kernel
theorem dX11_nestCount_1 : decode cX11_nestCount 1 = .ok (.iconst 0, 1) := by decide +kernel
theorem dX11_nestCount_2 : decode cX11_nestCount 2 = .ok (.putfield 41, 3) := by decide +kernel
theorem dX11_nestCount_5 : decode cX11_nestCount 5 = .ok (.aload_n 0, 1) := by decide +kernel
theorem dX11_nestCount_6 : decode cX11_nestCount 6 = .ok (.getfield 7, 3) := by decide +kernel
theorem dX11_nestCount_9 : decode cX11_nestCount 9 = .ok (.iconst 0, 1) := by decide +kernel
theorem dX11_nestCount_10 : decode cX11_nestCount 10 = .ok (.iaload, 1) := by decide +kernel
theorem dX11_nestCount_11 : decode cX11_nestCount 11 = .ok (.ireturn, 1) := by decide +kernel
theorem dX11_askedNest_0 : decode cX11_askedNest 0 = .ok (.aload_n 0, 1) := by decide +kernel
theorem dX11_askedNest_1 : decode cX11_askedNest 1 = .ok (.aload_n 0, 1) := by decide +kernel
theorem dX11_askedNest_2 : decode cX11_askedNest 2 = .ok (.iload_n 1, 1) := by decide +kernel
theorem dX11_askedNest_3 : decode cX11_askedNest 3 = .ok (.invokevirtual 102, 3) := by decide +kernel
theorem dX11_askedNest_6 : decode cX11_askedNest 6 = .ok (.ifCond .eq 7, 3) := by decide +kernel
theorem dX11_askedNest_9 : decode cX11_askedNest 9 = .ok (.iconst 0, 1) := by decide +kernel
theorem dX11_askedNest_10 : decode cX11_askedNest 10 = .ok (.goto 4, 3) := by decide +kernel
theorem dX11_askedNest_13 : decode cX11_askedNest 13 = .ok (.iconst 1, 1) := by decide +kernel
theorem dX11_askedNest_14 : decode cX11_askedNest 14 = .ok (.putfield 41, 3) := by decide +kernel
theorem dX11_askedNest_17 : decode cX11_askedNest 17 = .ok (.aload_n 0, 1) := by decide +kernel
theorem dX11_askedNest_18 : decode cX11_askedNest 18 = .ok (.getfield 41, 3) := by decide +kernel
theorem dX11_askedNest_21 : decode cX11_askedNest 21 = .ok (.ifCond .le 7, 3) := by decide +kernel
theorem dX11_askedNest_24 : decode cX11_askedNest 24 = .ok (.iconst 0, 1) := by decide +kernel
theorem dX11_askedNest_25 : decode cX11_askedNest 25 = .ok (.goto 9, 3) := by decide +kernel
theorem dX11_askedNest_28 : decode cX11_askedNest 28 = .ok (.aload_n 0, 1) := by decide +kernel
theorem dX11_askedNest_29 : decode cX11_askedNest 29 = .ok (.iload_n 1, 1) := by decide +kernel
theorem dX11_askedNest_30 : decode cX11_askedNest 30 = .ok (.iload_n 2, 1) := by decide +kernel
theorem dX11_askedNest_31 : decode cX11_askedNest 31 = .ok (.invokevirtual 65, 3) := by decide +kernel
theorem dX11_askedNest_34 : decode cX11_askedNest 34 = .ok (.ireturn, 1) := by decide +kernel
theorem dX11_distance_0 : decode cX11_distance 0 = .ok (.aload_n 0, 1) := by decide +kernel
theorem dX11_distance_1 : decode cX11_distance 1 = .ok (.iload_n 1, 1) := by decide +kernel
theorem dX11_distance_2 : decode cX11_distance 2 = .ok (.iconst 0, 1) := by decide +kernel
theorem dX11_distance_3 : decode cX11_distance 3 = .ok (.invokevirtual 140, 3) := by decide +kernel
theorem dX11_distance_6 : decode cX11_distance 6 = .ok (.ireturn, 1) := by decide +kernel
theorem dX11_loss_0 : decode cX11_loss 0 = .ok (.aload_n 0, 1) := by decide +kernel
theorem dX11_loss_1 : decode cX11_loss 1 = .ok (.iload_n 1, 1) := by decide +kernel
theorem dX11_loss_2 : decode cX11_loss 2 = .ok (.iconst 1, 1) := by decide +kernel
theorem dX11_loss_3 : decode cX11_loss 3 = .ok (.invokevirtual 140, 3) := by decide +kernel
theorem dX11_loss_6 : decode cX11_loss 6 = .ok (.ireturn, 1) := by decide +kernel
theorem dX11_inboxSize_0 : decode cX11_inboxSize 0 = .ok (.aload_n 0, 1) := by decide +kernel
theorem dX11_inboxSize_1 : decode cX11_inboxSize 1 = .ok (.iload_n 1, 1) := by decide +kernel
theorem dX11_inboxSize_2 : decode cX11_inboxSize 2 = .ok (.iconst 2, 1) := by decide +kernel
theorem dX11_inboxSize_3 : decode cX11_inboxSize 3 = .ok (.invokevirtual 140, 3) := by decide +kernel
theorem dX11_inboxSize_6 : decode cX11_inboxSize 6 = .ok (.ireturn, 1) := by decide +kernel
theorem dX11_inboxMessage_0 : decode cX11_inboxMessage 0 = .ok (.aload_n 0, 1) := by decide +kernel
theorem dX11_inboxMessage_1 : decode cX11_inboxMessage 1 = .ok (.aload_n 0, 1) := by decide +kernel
theorem dX11_inboxMessage_2 : decode cX11_inboxMessage 2 = .ok (.iload_n 1, 1) := by decide +kernel
theorem dX11_inboxMessage_3 : decode cX11_inboxMessage 3 = .ok (.invokevirtual 102, 3) := by decide +kernel
theorem dX11_inboxMessage_6 : decode cX11_inboxMessage 6 = .ok (.ifCond .ne 7, 3) := by decide +kernel
theorem dX11_inboxMessage_9 : decode cX11_inboxMessage 9 = .ok (.iconst 1, 1) := by decide +kernel
theorem dX11_inboxMessage_10 : decode cX11_inboxMessage 10 = .ok (.goto 24, 3) := by decide +kernel
theorem dX11_inboxMessage_13 : decode cX11_inboxMessage 13 = .ok (.iload_n 2, 1) := by decide +kernel
theorem dX11_inboxMessage_14 : decode cX11_inboxMessage 14 = .ok (.iconst 0, 1) := by decide +kernel
theorem dX11_inboxMessage_15 : decode cX11_inboxMessage 15 = .ok (.aload_n 0, 1) := by decide +kernel
theorem dX11_inboxMessage_16 : decode cX11_inboxMessage 16 = .ok (.iload_n 1, 1) := by decide +kernel
theorem dX11_inboxMessage_17 : decode cX11_inboxMessage 17 = .ok (.iconst 2, 1) := by decide +kernel
theorem dX11_inboxMessage_18 : decode cX11_inboxMessage 18 = .ok (.invokevirtual 65, 3) := by decide +kernel
theorem dX11_inboxMessage_21 : decode cX11_inboxMessage 21 = .ok (.iconst 1, 1) := by decide +kernel
theorem dX11_inboxMessage_22 : decode cX11_inboxMessage 22 = .ok (.isub, 1) := by decide +kernel
theorem dX11_inboxMessage_23 : decode cX11_inboxMessage 23 = .ok (.invokestatic 57, 3) := by decide +kernel
theorem dX11_inboxMessage_26 : decode cX11_inboxMessage 26 = .ok (.ifCond .eq 7, 3) := by decide +kernel
theorem dX11_inboxMessage_29 : decode cX11_inboxMessage 29 = .ok (.iconst 0, 1) := by decide +kernel
theorem dX11_inboxMessage_30 : decode cX11_inboxMessage 30 = .ok (.goto 4, 3) := by decide +kernel
theorem dX11_inboxMessage_33 : decode cX11_inboxMessage 33 = .ok (.iconst 2, 1) := by decide +kernel
theorem dX11_inboxMessage_34 : decode cX11_inboxMessage 34 = .ok (.putfield 41, 3) := by decide +kernel
theorem dX11_inboxMessage_37 : decode cX11_inboxMessage 37 = .ok (.aload_n 0, 1) := by decide +kernel
theorem dX11_inboxMessage_38 : decode cX11_inboxMessage 38 = .ok (.getfield 41, 3) := by decide +kernel
theorem dX11_inboxMessage_41 : decode cX11_inboxMessage 41 = .ok (.ifCond .le 7, 3) := by decide +kernel
theorem dX11_inboxMessage_44 : decode cX11_inboxMessage 44 = .ok (.iconst 0, 1) := by decide +kernel
theorem dX11_inboxMessage_45 : decode cX11_inboxMessage 45 = .ok (.goto 11, 3) := by decide +kernel
theorem dX11_inboxMessage_48 : decode cX11_inboxMessage 48 = .ok (.aload_n 0, 1) := by decide +kernel
theorem dX11_inboxMessage_49 : decode cX11_inboxMessage 49 = .ok (.iload_n 1, 1) := by decide +kernel
theorem dX11_inboxMessage_50 : decode cX11_inboxMessage 50 = .ok (.iconst 3, 1) := by decide +kernel
theorem dX11_inboxMessage_51 : decode cX11_inboxMessage 51 = .ok (.iload_n 2, 1) := by decide +kernel
theorem dX11_inboxMessage_52 : decode cX11_inboxMessage 52 = .ok (.iadd, 1) := by decide +kernel
theorem dX11_inboxMessage_53 : decode cX11_inboxMessage 53 = .ok (.invokevirtual 65, 3) := by decide +kernel
theorem dX11_inboxMessage_56 : decode cX11_inboxMessage 56 = .ok (.ireturn, 1) := by decide +kernel
theorem dX11_remembers_0 : decode cX11_remembers 0 = .ok (.aload_n 0, 1) := by decide +kernel
theorem dX11_remembers_1 : decode cX11_remembers 1 = .ok (.aload_n 0, 1) := by decide +kernel
theorem dX11_remembers_2 : decode cX11_remembers 2 = .ok (.iload_n 1, 1) := by decide +kernel
theorem dX11_remembers_3 : decode cX11_remembers 3 = .ok (.invokevirtual 102, 3) := by decide +kernel
theorem dX11_remembers_6 : decode cX11_remembers 6 = .ok (.ifCond .eq 7, 3) := by decide +kernel
theorem dX11_remembers_9 : decode cX11_remembers 9 = .ok (.iconst 0, 1) := by decide +kernel
theorem dX11_remembers_10 : decode cX11_remembers 10 = .ok (.goto 4, 3) := by decide +kernel
theorem dX11_remembers_13 : decode cX11_remembers 13 = .ok (.iconst 1, 1) := by decide +kernel
theorem dX11_remembers_14 : decode cX11_remembers 14 = .ok (.putfield 41, 3) := by decide +kernel
theorem dX11_remembers_17 : decode cX11_remembers 17 = .ok (.aload_n 0, 1) := by decide +kernel
theorem dX11_remembers_18 : decode cX11_remembers 18 = .ok (.getfield 41, 3) := by decide +kernel
theorem dX11_remembers_21 : decode cX11_remembers 21 = .ok (.ifCond .ne 16, 3) := by decide +kernel
theorem dX11_remembers_24 : decode cX11_remembers 24 = .ok (.aload_n 0, 1) := by decide +kernel
theorem dX11_remembers_25 : decode cX11_remembers 25 = .ok (.iload_n 1, 1) := by decide +kernel
theorem dX11_remembers_26 : decode cX11_remembers 26 = .ok (.iload_n 2, 1) := by decide +kernel
theorem dX11_remembers_27 : decode cX11_remembers 27 = .ok (.invokevirtual 82, 3) := by decide +kernel
theorem dX11_remembers_30 : decode cX11_remembers 30 = .ok (.ifCond .eq 7, 3) := by decide +kernel
theorem dX11_remembers_33 : decode cX11_remembers 33 = .ok (.iconst 1, 1) := by decide +kernel
theorem dX11_remembers_34 : decode cX11_remembers 34 = .ok (.goto 4, 3) := by decide +kernel
theorem dX11_remembers_37 : decode cX11_remembers 37 = .ok (.iconst 0, 1) := by decide +kernel
theorem dX11_remembers_38 : decode cX11_remembers 38 = .ok (.ireturn, 1) := by decide +kernel
theorem dX11_rememberedCount_0 : decode cX11_rememberedCount 0 = .ok (.aload_n 0, 1) := by decide +kernel
theorem dX11_rememberedCount_1 : decode cX11_rememberedCount 1 = .ok (.iload_n 1, 1) := by decide +kernel
theorem dX11_rememberedCount_2 : decode cX11_rememberedCount 2 = .ok (.bipush 11, 2) := by decide +kernel
theorem dX11_rememberedCount_4 : decode cX11_rememberedCount 4 = .ok (.invokevirtual 140, 3) := by decide +kernel
theorem dX11_rememberedCount_7 : decode cX11_rememberedCount 7 = .ok (.ireturn, 1) := by decide +kernel
theorem dX11_isAhead_0 : decode cX11_isAhead 0 = .ok (.aload_n 0, 1) := by decide +kernel
theorem dX11_isAhead_1 : decode cX11_isAhead 1 = .ok (.iload_n 1, 1) := by decide +kernel
theorem dX11_isAhead_2 : decode cX11_isAhead 2 = .ok (.bipush 20, 2) := by decide +kernel
theorem dX11_isAhead_4 : decode cX11_isAhead 4 = .ok (.invokevirtual 65, 3) := by decide +kernel
theorem dX11_isAhead_7 : decode cX11_isAhead 7 = .ok (.aload_n 0, 1) := by decide +kernel
theorem dX11_isAhead_8 : decode cX11_isAhead 8 = .ok (.iload_n 2, 1) := by decide +kernel
theorem dX11_isAhead_9 : decode cX11_isAhead 9 = .ok (.bipush 20, 2) := by decide +kernel
theorem dX11_isAhead_11 : decode cX11_isAhead 11 = .ok (.invokevirtual 65, 3) := by decide +kernel
theorem dX11_isAhead_14 : decode cX11_isAhead 14 = .ok (.if_icmp .eq 26, 3) := by decide +kernel
theorem dX11_isAhead_17 : decode cX11_isAhead 17 = .ok (.aload_n 0, 1) := by decide +kernel
theorem dX11_isAhead_18 : decode cX11_isAhead 18 = .ok (.iload_n 1, 1) := by decide +kernel
theorem dX11_isAhead_19 : decode cX11_isAhead 19 = .ok (.bipush 20, 2) := by decide +kernel
theorem dX11_isAhead_21 : decode cX11_isAhead 21 = .ok (.invokevirtual 65, 3) := by decide +kernel
theorem dX11_isAhead_24 : decode cX11_isAhead 24 = .ok (.aload_n 0, 1) := by decide +kernel
theorem dX11_isAhead_25 : decode cX11_isAhead 25 = .ok (.iload_n 2, 1) := by decide +kernel
theorem dX11_isAhead_26 : decode cX11_isAhead 26 = .ok (.bipush 20, 2) := by decide +kernel
theorem dX11_isAhead_28 : decode cX11_isAhead 28 = .ok (.invokevirtual 65, 3) := by decide +kernel
theorem dX11_isAhead_31 : decode cX11_isAhead 31 = .ok (.if_icmp .le 7, 3) := by decide +kernel
theorem dX11_isAhead_34 : decode cX11_isAhead 34 = .ok (.iconst 1, 1) := by decide +kernel
theorem dX11_isAhead_35 : decode cX11_isAhead 35 = .ok (.goto 4, 3) := by decide +kernel
theorem dX11_isAhead_38 : decode cX11_isAhead 38 = .ok (.iconst 0, 1) := by decide +kernel
theorem dX11_isAhead_39 : decode cX11_isAhead 39 = .ok (.ireturn, 1) := by decide +kernel
theorem dX11_isAhead_40 : decode cX11_isAhead 40 = .ok (.aload_n 0, 1) := by decide +kernel
theorem dX11_isAhead_41 : decode cX11_isAhead 41 = .ok (.iload_n 1, 1) := by decide +kernel
theorem dX11_isAhead_42 : decode cX11_isAhead 42 = .ok (.iconst 0, 1) := by decide +kernel
theorem dX11_isAhead_43 : decode cX11_isAhead 43 = .ok (.invokevirtual 65, 3) := by decide +kernel
theorem dX11_isAhead_46 : decode cX11_isAhead 46 = .ok (.aload_n 0, 1) := by decide +kernel
theorem dX11_isAhead_47 : decode cX11_isAhead 47 = .ok (.iload_n 2, 1) := by decide +kernel
theorem dX11_isAhead_48 : decode cX11_isAhead 48 = .ok (.iconst 0, 1) := by decide +kernel
theorem dX11_isAhead_49 : decode cX11_isAhead 49 = .ok (.invokevirtual 65, 3) := by decide +kernel
theorem dX11_isAhead_52 : decode cX11_isAhead 52 = .ok (.if_icmp .ne 16, 3) := by decide +kernel
theorem dX11_isAhead_55 : decode cX11_isAhead 55 = .ok (.iload_n 1, 1) := by decide +kernel
theorem dX11_isAhead_56 : decode cX11_isAhead 56 = .ok (.iload_n 2, 1) := by decide +kernel
theorem dX11_isAhead_57 : decode cX11_isAhead 57 = .ok (.if_icmp .ge 7, 3) := by decide +kernel
theorem dX11_isAhead_60 : decode cX11_isAhead 60 = .ok (.iconst 1, 1) := by decide +kernel
theorem dX11_isAhead_61 : decode cX11_isAhead 61 = .ok (.goto 27, 3) := by decide +kernel
theorem dX11_isAhead_64 : decode cX11_isAhead 64 = .ok (.iconst 0, 1) := by decide +kernel
theorem dX11_isAhead_65 : decode cX11_isAhead 65 = .ok (.goto 23, 3) := by decide +kernel
theorem dX11_isAhead_68 : decode cX11_isAhead 68 = .ok (.aload_n 0, 1) := by decide +kernel
theorem dX11_isAhead_69 : decode cX11_isAhead 69 = .ok (.iload_n 1, 1) := by decide +kernel
theorem dX11_isAhead_70 : decode cX11_isAhead 70 = .ok (.iconst 0, 1) := by decide +kernel
theorem dX11_isAhead_71 : decode cX11_isAhead 71 = .ok (.invokevirtual 65, 3) := by decide +kernel
theorem dX11_isAhead_74 : decode cX11_isAhead 74 = .ok (.aload_n 0, 1) := by decide +kernel
theorem dX11_isAhead_75 : decode cX11_isAhead 75 = .ok (.iload_n 2, 1) := by decide +kernel
theorem dX11_isAhead_76 : decode cX11_isAhead 76 = .ok (.iconst 0, 1) := by decide +kernel
theorem dX11_isAhead_77 : decode cX11_isAhead 77 = .ok (.invokevirtual 65, 3) := by decide +kernel
theorem dX11_isAhead_80 : decode cX11_isAhead 80 = .ok (.if_icmp .ge 7, 3) := by decide +kernel
theorem dX11_isAhead_83 : decode cX11_isAhead 83 = .ok (.iconst 1, 1) := by decide +kernel
theorem dX11_isAhead_84 : decode cX11_isAhead 84 = .ok (.goto 4, 3) := by decide +kernel
theorem dX11_isAhead_87 : decode cX11_isAhead 87 = .ok (.iconst 0, 1) := by decide +kernel
theorem dX11_isAhead_88 : decode cX11_isAhead 88 = .ok (.ireturn, 1) := by decide +kernel
theorem dX11_nestByDeliveries_0 : decode cX11_nestByDeliveries 0 = .ok (.aload_n 0, 1) := by decide +kernel
theorem dX11_nestByDeliveries_1 : decode cX11_nestByDeliveries 1 = .ok (.iconst 0, 1) := by decide +kernel
theorem dX11_nestByDeliveries_2 : decode cX11_nestByDeliveries 2 = .ok (.putfield 41, 3) := by decide +kernel
theorem dX11_nestByDeliveries_5 : decode cX11_nestByDeliveries 5 = .ok (.iconst 0, 1) := by decide +kernel
theorem dX11_nestByDeliveries_6 : decode cX11_nestByDeliveries 6 = .ok (.istore_n 2, 1) := by decide +kernel
theorem dX11_nestByDeliveries_7 : decode cX11_nestByDeliveries 7 = .ok (.iload_n 2, 1) := by decide +kernel
theorem dX11_nestByDeliveries_8 : decode cX11_nestByDeliveries 8 = .ok (.aload_n 0, 1) := by decide +kernel
theorem dX11_nestByDeliveries_9 : decode cX11_nestByDeliveries 9 = .ok (.getfield 7, 3) := by decide +kernel
theorem dX11_nestByDeliveries_12 : decode cX11_nestByDeliveries 12 = .ok (.iconst 0, 1) := by decide +kernel
theorem dX11_nestByDeliveries_13 : decode cX11_nestByDeliveries 13 = .ok (.iaload, 1) := by decide +kernel
theorem dX11_nestByDeliveries_14 : decode cX11_nestByDeliveries 14 = .ok (.if_icmp .ge 62, 3) := by decide +kernel
theorem dX11_nestByDeliveries_17 : decode cX11_nestByDeliveries 17 = .ok (.iconst 0, 1) := by decide +kernel
theorem dX11_nestByDeliveries_18 : decode cX11_nestByDeliveries 18 = .ok (.istore_n 3, 1) := by decide +kernel
theorem dX11_nestByDeliveries_19 : decode cX11_nestByDeliveries 19 = .ok (.iconst 0, 1) := by decide +kernel
theorem dX11_nestByDeliveries_20 : decode cX11_nestByDeliveries 20 = .ok (.istore 4, 2) := by decide +kernel
theorem dX11_nestByDeliveries_22 : decode cX11_nestByDeliveries 22 = .ok (.iload 4, 2) := by decide +kernel
theorem dX11_nestByDeliveries_24 : decode cX11_nestByDeliveries 24 = .ok (.aload_n 0, 1) := by decide +kernel
theorem dX11_nestByDeliveries_25 : decode cX11_nestByDeliveries 25 = .ok (.getfield 7, 3) := by decide +kernel
theorem dX11_nestByDeliveries_28 : decode cX11_nestByDeliveries 28 = .ok (.iconst 0, 1) := by decide +kernel
theorem dX11_nestByDeliveries_29 : decode cX11_nestByDeliveries 29 = .ok (.iaload, 1) := by decide +kernel
theorem dX11_nestByDeliveries_30 : decode cX11_nestByDeliveries 30 = .ok (.if_icmp .ge 33, 3) := by decide +kernel
theorem dX11_nestByDeliveries_33 : decode cX11_nestByDeliveries 33 = .ok (.iload_n 3, 1) := by decide +kernel
theorem dX11_nestByDeliveries_34 : decode cX11_nestByDeliveries 34 = .ok (.iload 4, 2) := by decide +kernel
theorem dX11_nestByDeliveries_36 : decode cX11_nestByDeliveries 36 = .ok (.iload_n 2, 1) := by decide +kernel
theorem dX11_nestByDeliveries_37 : decode cX11_nestByDeliveries 37 = .ok (.if_icmp .eq 17, 3) := by decide +kernel
theorem dX11_nestByDeliveries_40 : decode cX11_nestByDeliveries 40 = .ok (.aload_n 0, 1) := by decide +kernel
theorem dX11_nestByDeliveries_41 : decode cX11_nestByDeliveries 41 = .ok (.iload 4, 2) := by decide +kernel
theorem dX11_nestByDeliveries_43 : decode cX11_nestByDeliveries 43 = .ok (.iload_n 2, 1) := by decide +kernel
theorem dX11_nestByDeliveries_44 : decode cX11_nestByDeliveries 44 = .ok (.invokevirtual 143, 3) := by decide +kernel
theorem dX11_nestByDeliveries_47 : decode cX11_nestByDeliveries 47 = .ok (.ifCond .eq 7, 3) := by decide +kernel
theorem dX11_nestByDeliveries_50 : decode cX11_nestByDeliveries 50 = .ok (.iconst 1, 1) := by decide +kernel
theorem dX11_nestByDeliveries_51 : decode cX11_nestByDeliveries 51 = .ok (.goto 4, 3) := by decide +kernel
theorem dX11_nestByDeliveries_54 : decode cX11_nestByDeliveries 54 = .ok (.iconst 0, 1) := by decide +kernel
theorem dX11_nestByDeliveries_55 : decode cX11_nestByDeliveries 55 = .ok (.iadd, 1) := by decide +kernel
theorem dX11_nestByDeliveries_56 : decode cX11_nestByDeliveries 56 = .ok (.istore_n 3, 1) := by decide +kernel
theorem dX11_nestByDeliveries_57 : decode cX11_nestByDeliveries 57 = .ok (.iinc 4 1, 3) := by decide +kernel
theorem dX11_nestByDeliveries_60 : decode cX11_nestByDeliveries 60 = .ok (.goto (-38), 3) := by decide +kernel
theorem dX11_nestByDeliveries_63 : decode cX11_nestByDeliveries 63 = .ok (.iload_n 3, 1) := by decide +kernel
theorem dX11_nestByDeliveries_64 : decode cX11_nestByDeliveries 64 = .ok (.iload_n 1, 1) := by decide +kernel
theorem dX11_nestByDeliveries_65 : decode cX11_nestByDeliveries 65 = .ok (.if_icmp .ne 5, 3) := by decide +kernel
theorem dX11_nestByDeliveries_68 : decode cX11_nestByDeliveries 68 = .ok (.iload_n 2, 1) := by decide +kernel
theorem dX11_nestByDeliveries_69 : decode cX11_nestByDeliveries 69 = .ok (.ireturn, 1) := by decide +kernel
theorem dX11_nestByDeliveries_70 : decode cX11_nestByDeliveries 70 = .ok (.iinc 2 1, 3) := by decide +kernel
theorem dX11_nestByDeliveries_73 : decode cX11_nestByDeliveries 73 = .ok (.goto (-66), 3) := by decide +kernel
theorem dX11_nestByDeliveries_76 : decode cX11_nestByDeliveries 76 = .ok (.aload_n 0, 1) := by decide +kernel
theorem dX11_nestByDeliveries_77 : decode cX11_nestByDeliveries 77 = .ok (.iconst 1, 1) := by decide +kernel
theorem dX11_nestByDeliveries_78 : decode cX11_nestByDeliveries 78 = .ok (.invokevirtual 54, 3) := by decide +kernel
theorem dX11_nestByDeliveries_81 : decode cX11_nestByDeliveries 81 = .ok (.ireturn, 1) := by decide +kernel
theorem dX11_crowCount_0 : decode cX11_crowCount 0 = .ok (.aload_n 0, 1) := by decide +kernel
theorem dX11_crowCount_1 : decode cX11_crowCount 1 = .ok (.iconst 0, 1) := by decide +kernel
theorem dX11_crowCount_2 : decode cX11_crowCount 2 = .ok (.putfield 41, 3) := by decide +kernel
theorem dX11_crowCount_5 : decode cX11_crowCount 5 = .ok (.aload_n 0, 1) := by decide +kernel
theorem dX11_crowCount_6 : decode cX11_crowCount 6 = .ok (.getfield 7, 3) := by decide +kernel
theorem dX11_crowCount_9 : decode cX11_crowCount 9 = .ok (.iconst 1, 1) := by decide +kernel
theorem dX11_crowCount_10 : decode cX11_crowCount 10 = .ok (.iaload, 1) := by decide +kernel
theorem dX11_crowCount_11 : decode cX11_crowCount 11 = .ok (.ireturn, 1) := by decide +kernel
theorem dX11_isFlying_0 : decode cX11_isFlying 0 = .ok (.aload_n 0, 1) := by decide +kernel
theorem dX11_isFlying_1 : decode cX11_isFlying 1 = .ok (.aload_n 0, 1) := by decide +kernel
theorem dX11_isFlying_2 : decode cX11_isFlying 2 = .ok (.iload_n 1, 1) := by decide +kernel
theorem dX11_isFlying_3 : decode cX11_isFlying 3 = .ok (.invokevirtual 146, 3) := by decide +kernel
theorem dX11_isFlying_6 : decode cX11_isFlying 6 = .ok (.ifCond .eq 7, 3) := by decide +kernel
theorem dX11_isFlying_9 : decode cX11_isFlying 9 = .ok (.iconst 0, 1) := by decide +kernel
theorem dX11_isFlying_10 : decode cX11_isFlying 10 = .ok (.goto 4, 3) := by decide +kernel
theorem dX11_isFlying_13 : decode cX11_isFlying 13 = .ok (.iconst 1, 1) := by decide +kernel
theorem dX11_isFlying_14 : decode cX11_isFlying 14 = .ok (.putfield 41, 3) := by decide +kernel
theorem dX11_isFlying_17 : decode cX11_isFlying 17 = .ok (.aload_n 0, 1) := by decide +kernel
theorem dX11_isFlying_18 : decode cX11_isFlying 18 = .ok (.getfield 41, 3) := by decide +kernel
theorem dX11_isFlying_21 : decode cX11_isFlying 21 = .ok (.ifCond .ne 22, 3) := by decide +kernel
theorem dX11_isFlying_24 : decode cX11_isFlying 24 = .ok (.aload_n 0, 1) := by decide +kernel
theorem dX11_isFlying_25 : decode cX11_isFlying 25 = .ok (.getfield 7, 3) := by decide +kernel
theorem dX11_isFlying_28 : decode cX11_isFlying 28 = .ok (.sipush 138, 3) := by decide +kernel
theorem dX11_isFlying_31 : decode cX11_isFlying 31 = .ok (.iconst 2, 1) := by decide +kernel
theorem dX11_isFlying_32 : decode cX11_isFlying 32 = .ok (.iload_n 1, 1) := by decide +kernel
theorem dX11_isFlying_33 : decode cX11_isFlying 33 = .ok (.imul, 1) := by decide +kernel
theorem dX11_isFlying_34 : decode cX11_isFlying 34 = .ok (.iadd, 1) := by decide +kernel
theorem dX11_isFlying_35 : decode cX11_isFlying 35 = .ok (.iaload, 1) := by decide +kernel
theorem dX11_isFlying_36 : decode cX11_isFlying 36 = .ok (.ifCond .le 7, 3) := by decide +kernel
theorem dX11_isFlying_39 : decode cX11_isFlying 39 = .ok (.iconst 1, 1) := by decide +kernel
theorem dX11_isFlying_40 : decode cX11_isFlying 40 = .ok (.goto 4, 3) := by decide +kernel
theorem dX11_isFlying_43 : decode cX11_isFlying 43 = .ok (.iconst 0, 1) := by decide +kernel
theorem dX11_isFlying_44 : decode cX11_isFlying 44 = .ok (.ireturn, 1) := by decide +kernel
theorem dX11_carriedMessage_0 : decode cX11_carriedMessage 0 = .ok (.aload_n 0, 1) := by decide +kernel
theorem dX11_carriedMessage_1 : decode cX11_carriedMessage 1 = .ok (.aload_n 0, 1) := by decide +kernel
theorem dX11_carriedMessage_2 : decode cX11_carriedMessage 2 = .ok (.iload_n 1, 1) := by decide +kernel
theorem dX11_carriedMessage_3 : decode cX11_carriedMessage 3 = .ok (.invokevirtual 146, 3) := by decide +kernel
theorem dX11_carriedMessage_6 : decode cX11_carriedMessage 6 = .ok (.ifCond .ne 7, 3) := by decide +kernel
theorem dX11_carriedMessage_9 : decode cX11_carriedMessage 9 = .ok (.iconst 1, 1) := by decide +kernel
theorem dX11_carriedMessage_10 : decode cX11_carriedMessage 10 = .ok (.goto 23, 3) := by decide +kernel
theorem dX11_carriedMessage_13 : decode cX11_carriedMessage 13 = .ok (.aload_n 0, 1) := by decide +kernel
theorem dX11_carriedMessage_14 : decode cX11_carriedMessage 14 = .ok (.getfield 7, 3) := by decide +kernel
theorem dX11_carriedMessage_17 : decode cX11_carriedMessage 17 = .ok (.sipush 138, 3) := by decide +kernel
theorem dX11_carriedMessage_20 : decode cX11_carriedMessage 20 = .ok (.iconst 2, 1) := by decide +kernel
theorem dX11_carriedMessage_21 : decode cX11_carriedMessage 21 = .ok (.iload_n 1, 1) := by decide +kernel
theorem dX11_carriedMessage_22 : decode cX11_carriedMessage 22 = .ok (.imul, 1) := by decide +kernel
theorem dX11_carriedMessage_23 : decode cX11_carriedMessage 23 = .ok (.iadd, 1) := by decide +kernel
theorem dX11_carriedMessage_24 : decode cX11_carriedMessage 24 = .ok (.iaload, 1) := by decide +kernel
theorem dX11_carriedMessage_25 : decode cX11_carriedMessage 25 = .ok (.ifCond .le 7, 3) := by decide +kernel
theorem dX11_carriedMessage_28 : decode cX11_carriedMessage 28 = .ok (.iconst 0, 1) := by decide +kernel
theorem dX11_carriedMessage_29 : decode cX11_carriedMessage 29 = .ok (.goto 4, 3) := by decide +kernel
theorem dX11_carriedMessage_32 : decode cX11_carriedMessage 32 = .ok (.iconst 2, 1) := by decide +kernel
theorem dX11_carriedMessage_33 : decode cX11_carriedMessage 33 = .ok (.putfield 41, 3) := by decide +kernel
theorem dX11_carriedMessage_36 : decode cX11_carriedMessage 36 = .ok (.aload_n 0, 1) := by decide +kernel
theorem dX11_carriedMessage_37 : decode cX11_carriedMessage 37 = .ok (.getfield 41, 3) := by decide +kernel
theorem dX11_carriedMessage_40 : decode cX11_carriedMessage 40 = .ok (.ifCond .le 7, 3) := by decide +kernel
theorem dX11_carriedMessage_43 : decode cX11_carriedMessage 43 = .ok (.iconst 0, 1) := by decide +kernel
theorem dX11_carriedMessage_44 : decode cX11_carriedMessage 44 = .ok (.goto 17, 3) := by decide +kernel
theorem dX11_carriedMessage_47 : decode cX11_carriedMessage 47 = .ok (.aload_n 0, 1) := by decide +kernel
theorem dX11_carriedMessage_48 : decode cX11_carriedMessage 48 = .ok (.getfield 7, 3) := by decide +kernel
theorem dX11_carriedMessage_51 : decode cX11_carriedMessage 51 = .ok (.sipush 138, 3) := by decide +kernel
theorem dX11_carriedMessage_54 : decode cX11_carriedMessage 54 = .ok (.iconst 2, 1) := by decide +kernel
theorem dX11_carriedMessage_55 : decode cX11_carriedMessage 55 = .ok (.iload_n 1, 1) := by decide +kernel
theorem dX11_carriedMessage_56 : decode cX11_carriedMessage 56 = .ok (.imul, 1) := by decide +kernel
theorem dX11_carriedMessage_57 : decode cX11_carriedMessage 57 = .ok (.iadd, 1) := by decide +kernel
theorem dX11_carriedMessage_58 : decode cX11_carriedMessage 58 = .ok (.iaload, 1) := by decide +kernel
theorem dX11_carriedMessage_59 : decode cX11_carriedMessage 59 = .ok (.iconst 1, 1) := by decide +kernel
theorem dX11_carriedMessage_60 : decode cX11_carriedMessage 60 = .ok (.isub, 1) := by decide +kernel
theorem dX11_carriedMessage_61 : decode cX11_carriedMessage 61 = .ok (.ireturn, 1) := by decide +kernel
theorem dX11_flightMinutes_0 : decode cX11_flightMinutes 0 = .ok (.aload_n 0, 1) := by decide +kernel
theorem dX11_flightMinutes_1 : decode cX11_flightMinutes 1 = .ok (.aload_n 0, 1) := by decide +kernel
theorem dX11_flightMinutes_2 : decode cX11_flightMinutes 2 = .ok (.iload_n 1, 1) := by decide +kernel
theorem dX11_flightMinutes_3 : decode cX11_flightMinutes 3 = .ok (.invokevirtual 146, 3) := by decide +kernel
theorem dX11_flightMinutes_6 : decode cX11_flightMinutes 6 = .ok (.ifCond .eq 7, 3) := by decide +kernel
theorem dX11_flightMinutes_9 : decode cX11_flightMinutes 9 = .ok (.iconst 0, 1) := by decide +kernel
theorem dX11_flightMinutes_10 : decode cX11_flightMinutes 10 = .ok (.goto 4, 3) := by decide +kernel
theorem dX11_flightMinutes_13 : decode cX11_flightMinutes 13 = .ok (.iconst 1, 1) := by decide +kernel
theorem dX11_flightMinutes_14 : decode cX11_flightMinutes 14 = .ok (.putfield 41, 3) := by decide +kernel
theorem dX11_flightMinutes_17 : decode cX11_flightMinutes 17 = .ok (.aload_n 0, 1) := by decide +kernel
theorem dX11_flightMinutes_18 : decode cX11_flightMinutes 18 = .ok (.getfield 41, 3) := by decide +kernel
theorem dX11_flightMinutes_21 : decode cX11_flightMinutes 21 = .ok (.ifCond .le 7, 3) := by decide +kernel
theorem dX11_flightMinutes_24 : decode cX11_flightMinutes 24 = .ok (.iconst 0, 1) := by decide +kernel
theorem dX11_flightMinutes_25 : decode cX11_flightMinutes 25 = .ok (.goto 17, 3) := by decide +kernel
theorem dX11_flightMinutes_28 : decode cX11_flightMinutes 28 = .ok (.aload_n 0, 1) := by decide +kernel
theorem dX11_flightMinutes_29 : decode cX11_flightMinutes 29 = .ok (.getfield 7, 3) := by decide +kernel
theorem dX11_flightMinutes_32 : decode cX11_flightMinutes 32 = .ok (.sipush 138, 3) := by decide +kernel
theorem dX11_flightMinutes_35 : decode cX11_flightMinutes 35 = .ok (.iconst 2, 1) := by decide +kernel
theorem dX11_flightMinutes_36 : decode cX11_flightMinutes 36 = .ok (.iload_n 1, 1) := by decide +kernel
theorem dX11_flightMinutes_37 : decode cX11_flightMinutes 37 = .ok (.imul, 1) := by decide +kernel
theorem dX11_flightMinutes_38 : decode cX11_flightMinutes 38 = .ok (.iadd, 1) := by decide +kernel
theorem dX11_flightMinutes_39 : decode cX11_flightMinutes 39 = .ok (.iconst 1, 1) := by decide +kernel
theorem dX11_flightMinutes_40 : decode cX11_flightMinutes 40 = .ok (.iadd, 1) := by decide +kernel
theorem dX11_flightMinutes_41 : decode cX11_flightMinutes 41 = .ok (.iaload, 1) := by decide +kernel
theorem dX11_flightMinutes_42 : decode cX11_flightMinutes 42 = .ok (.ireturn, 1) := by decide +kernel
theorem dX11_messageCount_0 : decode cX11_messageCount 0 = .ok (.aload_n 0, 1) := by decide +kernel
theorem dX11_messageCount_1 : decode cX11_messageCount 1 = .ok (.iconst 0, 1) := by decide +kernel
theorem dX11_messageCount_2 : decode cX11_messageCount 2 = .ok (.putfield 41, 3) := by decide +kernel
theorem dX11_messageCount_5 : decode cX11_messageCount 5 = .ok (.aload_n 0, 1) := by decide +kernel
theorem dX11_messageCount_6 : decode cX11_messageCount 6 = .ok (.getfield 7, 3) := by decide +kernel
theorem dX11_messageCount_9 : decode cX11_messageCount 9 = .ok (.iconst 2, 1) := by decide +kernel
theorem dX11_messageCount_10 : decode cX11_messageCount 10 = .ok (.iaload, 1) := by decide +kernel
theorem dX11_messageCount_11 : decode cX11_messageCount 11 = .ok (.ireturn, 1) := by decide +kernel
theorem dX11_messageAt_0 : decode cX11_messageAt 0 = .ok (.aload_n 0, 1) := by decide +kernel
theorem dX11_messageAt_1 : decode cX11_messageAt 1 = .ok (.iload_n 1, 1) := by decide +kernel
theorem dX11_messageAt_2 : decode cX11_messageAt 2 = .ok (.iconst 0, 1) := by decide +kernel
theorem dX11_messageAt_3 : decode cX11_messageAt 3 = .ok (.aload_n 0, 1) := by decide +kernel
theorem dX11_messageAt_4 : decode cX11_messageAt 4 = .ok (.getfield 7, 3) := by decide +kernel
theorem dX11_messageAt_7 : decode cX11_messageAt 7 = .ok (.iconst 2, 1) := by decide +kernel
theorem dX11_messageAt_8 : decode cX11_messageAt 8 = .ok (.iaload, 1) := by decide +kernel
theorem dX11_messageAt_9 : decode cX11_messageAt 9 = .ok (.iconst 1, 1) := by decide +kernel
theorem dX11_messageAt_10 : decode cX11_messageAt 10 = .ok (.isub, 1) := by decide +kernel
theorem dX11_messageAt_11 : decode cX11_messageAt 11 = .ok (.invokestatic 57, 3) := by decide +kernel
theorem dX11_messageAt_14 : decode cX11_messageAt 14 = .ok (.ifCond .eq 7, 3) := by decide +kernel
theorem dX11_messageAt_17 : decode cX11_messageAt 17 = .ok (.iconst 0, 1) := by decide +kernel
theorem dX11_messageAt_18 : decode cX11_messageAt 18 = .ok (.goto 4, 3) := by decide +kernel
theorem dX11_messageAt_21 : decode cX11_messageAt 21 = .ok (.iconst 1, 1) := by decide +kernel
theorem dX11_messageAt_22 : decode cX11_messageAt 22 = .ok (.putfield 41, 3) := by decide +kernel
theorem dX11_messageAt_25 : decode cX11_messageAt 25 = .ok (.aload_n 0, 1) := by decide +kernel
theorem dX11_messageAt_26 : decode cX11_messageAt 26 = .ok (.getfield 41, 3) := by decide +kernel
theorem dX11_messageAt_29 : decode cX11_messageAt 29 = .ok (.ifCond .le 7, 3) := by decide +kernel
theorem dX11_messageAt_32 : decode cX11_messageAt 32 = .ok (.iconst 0, 1) := by decide +kernel
theorem dX11_messageAt_33 : decode cX11_messageAt 33 = .ok (.goto 9, 3) := by decide +kernel
theorem dX11_messageAt_36 : decode cX11_messageAt 36 = .ok (.aload_n 0, 1) := by decide +kernel
theorem dX11_messageAt_37 : decode cX11_messageAt 37 = .ok (.iload_n 1, 1) := by decide +kernel
theorem dX11_messageAt_38 : decode cX11_messageAt 38 = .ok (.iconst 0, 1) := by decide +kernel
theorem dX11_messageAt_39 : decode cX11_messageAt 39 = .ok (.invokevirtual 61, 3) := by decide +kernel
theorem dX11_messageAt_42 : decode cX11_messageAt 42 = .ok (.ireturn, 1) := by decide +kernel
theorem dX11_asked_0 : decode cX11_asked 0 = .ok (.aload_n 0, 1) := by decide +kernel
theorem dX11_asked_1 : decode cX11_asked 1 = .ok (.iload_n 1, 1) := by decide +kernel
theorem dX11_asked_2 : decode cX11_asked 2 = .ok (.invokevirtual 72, 3) := by decide +kernel
theorem dX11_asked_5 : decode cX11_asked 5 = .ok (.istore_n 3, 1) := by decide +kernel
theorem dX11_asked_6 : decode cX11_asked 6 = .ok (.aload_n 0, 1) := by decide +kernel
theorem dX11_asked_7 : decode cX11_asked 7 = .ok (.iload_n 3, 1) := by decide +kernel
theorem dX11_asked_8 : decode cX11_asked 8 = .ok (.iconst (-1), 1) := by decide +kernel
theorem dX11_asked_9 : decode cX11_asked 9 = .ok (.if_icmp .ne 7, 3) := by decide +kernel
theorem dX11_asked_12 : decode cX11_asked 12 = .ok (.iconst 1, 1) := by decide +kernel
theorem dX11_asked_13 : decode cX11_asked 13 = .ok (.goto 4, 3) := by decide +kernel
theorem dX11_asked_16 : decode cX11_asked 16 = .ok (.iconst 0, 1) := by decide +kernel
theorem dX11_asked_17 : decode cX11_asked 17 = .ok (.putfield 41, 3) := by decide +kernel
theorem dX11_asked_20 : decode cX11_asked 20 = .ok (.aload_n 0, 1) := by decide +kernel
theorem dX11_asked_21 : decode cX11_asked 21 = .ok (.getfield 41, 3) := by decide +kernel
theorem dX11_asked_24 : decode cX11_asked 24 = .ok (.ifCond .le 7, 3) := by decide +kernel
theorem dX11_asked_27 : decode cX11_asked 27 = .ok (.iconst 0, 1) := by decide +kernel
theorem dX11_asked_28 : decode cX11_asked 28 = .ok (.goto 9, 3) := by decide +kernel
theorem dX11_asked_31 : decode cX11_asked 31 = .ok (.aload_n 0, 1) := by decide +kernel
theorem dX11_asked_32 : decode cX11_asked 32 = .ok (.iload_n 3, 1) := by decide +kernel
theorem dX11_asked_33 : decode cX11_asked 33 = .ok (.iload_n 2, 1) := by decide +kernel
theorem dX11_asked_34 : decode cX11_asked 34 = .ok (.invokevirtual 61, 3) := by decide +kernel
theorem dX11_asked_37 : decode cX11_asked 37 = .ok (.ireturn, 1) := by decide +kernel
theorem dX11_nestOf_0 : decode cX11_nestOf 0 = .ok (.aload_n 0, 1) := by decide +kernel
theorem dX11_nestOf_1 : decode cX11_nestOf 1 = .ok (.iload_n 1, 1) := by decide +kernel
theorem dX11_nestOf_2 : decode cX11_nestOf 2 = .ok (.iconst 1, 1) := by decide +kernel
theorem dX11_nestOf_3 : decode cX11_nestOf 3 = .ok (.invokevirtual 149, 3) := by decide +kernel
theorem dX11_nestOf_6 : decode cX11_nestOf 6 = .ok (.ireturn, 1) := by decide +kernel
theorem dX11_keyOf_0 : decode cX11_keyOf 0 = .ok (.aload_n 0, 1) := by decide +kernel
theorem dX11_keyOf_1 : decode cX11_keyOf 1 = .ok (.iload_n 1, 1) := by decide +kernel
theorem dX11_keyOf_2 : decode cX11_keyOf 2 = .ok (.iconst 2, 1) := by decide +kernel
theorem dX11_keyOf_3 : decode cX11_keyOf 3 = .ok (.invokevirtual 149, 3) := by decide +kernel
theorem dX11_keyOf_6 : decode cX11_keyOf 6 = .ok (.ireturn, 1) := by decide +kernel
theorem dX11_attempts_0 : decode cX11_attempts 0 = .ok (.aload_n 0, 1) := by decide +kernel
theorem dX11_attempts_1 : decode cX11_attempts 1 = .ok (.iload_n 1, 1) := by decide +kernel
theorem dX11_attempts_2 : decode cX11_attempts 2 = .ok (.iconst 3, 1) := by decide +kernel
theorem dX11_attempts_3 : decode cX11_attempts 3 = .ok (.invokevirtual 149, 3) := by decide +kernel
theorem dX11_attempts_6 : decode cX11_attempts 6 = .ok (.ireturn, 1) := by decide +kernel
theorem dX11_status_0 : decode cX11_status 0 = .ok (.aload_n 0, 1) := by decide +kernel
theorem dX11_status_1 : decode cX11_status 1 = .ok (.iload_n 1, 1) := by decide +kernel
theorem dX11_status_2 : decode cX11_status 2 = .ok (.iconst 4, 1) := by decide +kernel
theorem dX11_status_3 : decode cX11_status 3 = .ok (.invokevirtual 149, 3) := by decide +kernel
theorem dX11_status_6 : decode cX11_status 6 = .ok (.i2c, 1) := by decide +kernel
theorem dX11_status_7 : decode cX11_status 7 = .ok (.ireturn, 1) := by decide +kernel
theorem dX11_napMinutes_0 : decode cX11_napMinutes 0 = .ok (.aload_n 0, 1) := by decide +kernel
theorem dX11_napMinutes_1 : decode cX11_napMinutes 1 = .ok (.iload_n 1, 1) := by decide +kernel
theorem dX11_napMinutes_2 : decode cX11_napMinutes 2 = .ok (.invokevirtual 72, 3) := by decide +kernel
theorem dX11_napMinutes_5 : decode cX11_napMinutes 5 = .ok (.istore_n 2, 1) := by decide +kernel
theorem dX11_napMinutes_6 : decode cX11_napMinutes 6 = .ok (.aload_n 0, 1) := by decide +kernel
theorem dX11_napMinutes_7 : decode cX11_napMinutes 7 = .ok (.iload_n 2, 1) := by decide +kernel
theorem dX11_napMinutes_8 : decode cX11_napMinutes 8 = .ok (.iconst (-1), 1) := by decide +kernel
theorem dX11_napMinutes_9 : decode cX11_napMinutes 9 = .ok (.if_icmp .ne 7, 3) := by decide +kernel
theorem dX11_napMinutes_12 : decode cX11_napMinutes 12 = .ok (.iconst 1, 1) := by decide +kernel
theorem dX11_napMinutes_13 : decode cX11_napMinutes 13 = .ok (.goto 19, 3) := by decide +kernel
theorem dX11_napMinutes_16 : decode cX11_napMinutes 16 = .ok (.aload_n 0, 1) := by decide +kernel
theorem dX11_napMinutes_17 : decode cX11_napMinutes 17 = .ok (.iload_n 2, 1) := by decide +kernel
theorem dX11_napMinutes_18 : decode cX11_napMinutes 18 = .ok (.iconst 4, 1) := by decide +kernel
theorem dX11_napMinutes_19 : decode cX11_napMinutes 19 = .ok (.invokevirtual 61, 3) := by decide +kernel
theorem dX11_napMinutes_22 : decode cX11_napMinutes 22 = .ok (.bipush 110, 2) := by decide +kernel
theorem dX11_napMinutes_24 : decode cX11_napMinutes 24 = .ok (.if_icmp .ne 7, 3) := by decide +kernel
theorem dX11_napMinutes_27 : decode cX11_napMinutes 27 = .ok (.iconst 0, 1) := by decide +kernel
theorem dX11_napMinutes_28 : decode cX11_napMinutes 28 = .ok (.goto 4, 3) := by decide +kernel
theorem dX11_napMinutes_31 : decode cX11_napMinutes 31 = .ok (.iconst 2, 1) := by decide +kernel
theorem dX11_napMinutes_32 : decode cX11_napMinutes 32 = .ok (.putfield 41, 3) := by decide +kernel
theorem dX11_napMinutes_35 : decode cX11_napMinutes 35 = .ok (.aload_n 0, 1) := by decide +kernel
theorem dX11_napMinutes_36 : decode cX11_napMinutes 36 = .ok (.getfield 41, 3) := by decide +kernel
theorem dX11_napMinutes_39 : decode cX11_napMinutes 39 = .ok (.ifCond .le 7, 3) := by decide +kernel
theorem dX11_napMinutes_42 : decode cX11_napMinutes 42 = .ok (.iconst 0, 1) := by decide +kernel
theorem dX11_napMinutes_43 : decode cX11_napMinutes 43 = .ok (.goto 9, 3) := by decide +kernel
theorem dX11_napMinutes_46 : decode cX11_napMinutes 46 = .ok (.aload_n 0, 1) := by decide +kernel
theorem dX11_napMinutes_47 : decode cX11_napMinutes 47 = .ok (.iload_n 2, 1) := by decide +kernel
theorem dX11_napMinutes_48 : decode cX11_napMinutes 48 = .ok (.iconst 5, 1) := by decide +kernel
theorem dX11_napMinutes_49 : decode cX11_napMinutes 49 = .ok (.invokevirtual 61, 3) := by decide +kernel
theorem dX11_napMinutes_52 : decode cX11_napMinutes 52 = .ok (.ireturn, 1) := by decide +kernel
theorem dX11_waitingMessage_0 : decode cX11_waitingMessage 0 = .ok (.aload_n 0, 1) := by decide +kernel
theorem dX11_waitingMessage_1 : decode cX11_waitingMessage 1 = .ok (.iconst 0, 1) := by decide +kernel
theorem dX11_waitingMessage_2 : decode cX11_waitingMessage 2 = .ok (.putfield 41, 3) := by decide +kernel
theorem dX11_waitingMessage_5 : decode cX11_waitingMessage 5 = .ok (.aload_n 0, 1) := by decide +kernel
theorem dX11_waitingMessage_6 : decode cX11_waitingMessage 6 = .ok (.iload_n 1, 1) := by decide +kernel
theorem dX11_waitingMessage_7 : decode cX11_waitingMessage 7 = .ok (.invokevirtual 96, 3) := by decide +kernel
theorem dX11_waitingMessage_10 : decode cX11_waitingMessage 10 = .ok (.istore_n 2, 1) := by decide +kernel
theorem dX11_waitingMessage_11 : decode cX11_waitingMessage 11 = .ok (.iload_n 2, 1) := by decide +kernel
theorem dX11_waitingMessage_12 : decode cX11_waitingMessage 12 = .ok (.iconst (-1), 1) := by decide +kernel
theorem dX11_waitingMessage_13 : decode cX11_waitingMessage 13 = .ok (.if_icmp .ne 11, 3) := by decide +kernel
theorem dX11_waitingMessage_16 : decode cX11_waitingMessage 16 = .ok (.aload_n 0, 1) := by decide +kernel
theorem dX11_waitingMessage_17 : decode cX11_waitingMessage 17 = .ok (.iconst 1, 1) := by decide +kernel
theorem dX11_waitingMessage_18 : decode cX11_waitingMessage 18 = .ok (.invokevirtual 54, 3) := by decide +kernel
theorem dX11_waitingMessage_21 : decode cX11_waitingMessage 21 = .ok (.goto 9, 3) := by decide +kernel
theorem dX11_waitingMessage_24 : decode cX11_waitingMessage 24 = .ok (.aload_n 0, 1) := by decide +kernel
theorem dX11_waitingMessage_25 : decode cX11_waitingMessage 25 = .ok (.iload_n 2, 1) := by decide +kernel
theorem dX11_waitingMessage_26 : decode cX11_waitingMessage 26 = .ok (.iconst 0, 1) := by decide +kernel
theorem dX11_waitingMessage_27 : decode cX11_waitingMessage 27 = .ok (.invokevirtual 61, 3) := by decide +kernel
theorem dX11_waitingMessage_30 : decode cX11_waitingMessage 30 = .ok (.ireturn, 1) := by decide +kernel
theorem dX11_wouldBeLost_0 : decode cX11_wouldBeLost 0 = .ok (.aload_n 0, 1) := by decide +kernel
theorem dX11_wouldBeLost_1 : decode cX11_wouldBeLost 1 = .ok (.iload_n 1, 1) := by decide +kernel
theorem dX11_wouldBeLost_2 : decode cX11_wouldBeLost 2 = .ok (.invokevirtual 72, 3) := by decide +kernel
theorem dX11_wouldBeLost_5 : decode cX11_wouldBeLost 5 = .ok (.istore_n 2, 1) := by decide +kernel
theorem dX11_wouldBeLost_6 : decode cX11_wouldBeLost 6 = .ok (.aload_n 0, 1) := by decide +kernel
theorem dX11_wouldBeLost_7 : decode cX11_wouldBeLost 7 = .ok (.iload_n 2, 1) := by decide +kernel
theorem dX11_wouldBeLost_8 : decode cX11_wouldBeLost 8 = .ok (.iconst (-1), 1) := by decide +kernel
theorem dX11_wouldBeLost_9 : decode cX11_wouldBeLost 9 = .ok (.if_icmp .ne 7, 3) := by decide +kernel
theorem dX11_wouldBeLost_12 : decode cX11_wouldBeLost 12 = .ok (.iconst 1, 1) := by decide +kernel
theorem dX11_wouldBeLost_13 : decode cX11_wouldBeLost 13 = .ok (.goto 19, 3) := by decide +kernel
theorem dX11_wouldBeLost_16 : decode cX11_wouldBeLost 16 = .ok (.aload_n 0, 1) := by decide +kernel
theorem dX11_wouldBeLost_17 : decode cX11_wouldBeLost 17 = .ok (.iload_n 2, 1) := by decide +kernel
theorem dX11_wouldBeLost_18 : decode cX11_wouldBeLost 18 = .ok (.iconst 4, 1) := by decide +kernel
theorem dX11_wouldBeLost_19 : decode cX11_wouldBeLost 19 = .ok (.invokevirtual 61, 3) := by decide +kernel
theorem dX11_wouldBeLost_22 : decode cX11_wouldBeLost 22 = .ok (.bipush 100, 2) := by decide +kernel
theorem dX11_wouldBeLost_24 : decode cX11_wouldBeLost 24 = .ok (.if_icmp .ne 7, 3) := by decide +kernel
theorem dX11_wouldBeLost_27 : decode cX11_wouldBeLost 27 = .ok (.iconst 2, 1) := by decide +kernel
theorem dX11_wouldBeLost_28 : decode cX11_wouldBeLost 28 = .ok (.goto 4, 3) := by decide +kernel
theorem dX11_wouldBeLost_31 : decode cX11_wouldBeLost 31 = .ok (.iconst 0, 1) := by decide +kernel
theorem dX11_wouldBeLost_32 : decode cX11_wouldBeLost 32 = .ok (.putfield 41, 3) := by decide +kernel
theorem dX11_wouldBeLost_35 : decode cX11_wouldBeLost 35 = .ok (.aload_n 0, 1) := by decide +kernel
theorem dX11_wouldBeLost_36 : decode cX11_wouldBeLost 36 = .ok (.getfield 41, 3) := by decide +kernel
theorem dX11_wouldBeLost_39 : decode cX11_wouldBeLost 39 = .ok (.ifCond .ne 23, 3) := by decide +kernel
theorem dX11_wouldBeLost_42 : decode cX11_wouldBeLost 42 = .ok (.aload_n 0, 1) := by decide +kernel
theorem dX11_wouldBeLost_43 : decode cX11_wouldBeLost 43 = .ok (.iload_n 2, 1) := by decide +kernel
theorem dX11_wouldBeLost_44 : decode cX11_wouldBeLost 44 = .ok (.aload_n 0, 1) := by decide +kernel
theorem dX11_wouldBeLost_45 : decode cX11_wouldBeLost 45 = .ok (.iload_n 2, 1) := by decide +kernel
theorem dX11_wouldBeLost_46 : decode cX11_wouldBeLost 46 = .ok (.iconst 3, 1) := by decide +kernel
theorem dX11_wouldBeLost_47 : decode cX11_wouldBeLost 47 = .ok (.invokevirtual 61, 3) := by decide +kernel
theorem dX11_wouldBeLost_50 : decode cX11_wouldBeLost 50 = .ok (.iconst 1, 1) := by decide +kernel
theorem dX11_wouldBeLost_51 : decode cX11_wouldBeLost 51 = .ok (.iadd, 1) := by decide +kernel
theorem dX11_wouldBeLost_52 : decode cX11_wouldBeLost 52 = .ok (.invokevirtual 78, 3) := by decide +kernel
theorem dX11_wouldBeLost_55 : decode cX11_wouldBeLost 55 = .ok (.ifCond .eq 7, 3) := by decide +kernel
theorem dX11_wouldBeLost_58 : decode cX11_wouldBeLost 58 = .ok (.iconst 1, 1) := by decide +kernel
theorem dX11_wouldBeLost_59 : decode cX11_wouldBeLost 59 = .ok (.goto 4, 3) := by decide +kernel
theorem dX11_wouldBeLost_62 : decode cX11_wouldBeLost 62 = .ok (.iconst 0, 1) := by decide +kernel
theorem dX11_wouldBeLost_63 : decode cX11_wouldBeLost 63 = .ok (.ireturn, 1) := by decide +kernel
theorem dX11_napLength_0 : decode cX11_napLength 0 = .ok (.aload_n 0, 1) := by decide +kernel
theorem dX11_napLength_1 : decode cX11_napLength 1 = .ok (.iload_n 1, 1) := by decide +kernel
theorem dX11_napLength_2 : decode cX11_napLength 2 = .ok (.iconst 0, 1) := by decide +kernel
theorem dX11_napLength_3 : decode cX11_napLength 3 = .ok (.bipush 40, 2) := by decide +kernel
theorem dX11_napLength_5 : decode cX11_napLength 5 = .ok (.invokestatic 57, 3) := by decide +kernel
theorem dX11_napLength_8 : decode cX11_napLength 8 = .ok (.ifCond .eq 7, 3) := by decide +kernel
theorem dX11_napLength_11 : decode cX11_napLength 11 = .ok (.iconst 0, 1) := by decide +kernel
theorem dX11_napLength_12 : decode cX11_napLength 12 = .ok (.goto 4, 3) := by decide +kernel
theorem dX11_napLength_15 : decode cX11_napLength 15 = .ok (.iconst 1, 1) := by decide +kernel
theorem dX11_napLength_16 : decode cX11_napLength 16 = .ok (.putfield 41, 3) := by decide +kernel
theorem dX11_napLength_19 : decode cX11_napLength 19 = .ok (.lconst 1, 1) := by decide +kernel
theorem dX11_napLength_20 : decode cX11_napLength 20 = .ok (.lstore_n 2, 1) := by decide +kernel
theorem dX11_napLength_21 : decode cX11_napLength 21 = .ok (.iconst 0, 1) := by decide +kernel
theorem dX11_napLength_22 : decode cX11_napLength 22 = .ok (.istore 4, 2) := by decide +kernel
theorem dX11_napLength_24 : decode cX11_napLength 24 = .ok (.iload 4, 2) := by decide +kernel
theorem dX11_napLength_26 : decode cX11_napLength 26 = .ok (.iload_n 1, 1) := by decide +kernel
theorem dX11_napLength_27 : decode cX11_napLength 27 = .ok (.if_icmp .ge 20, 3) := by decide +kernel
theorem dX11_napLength_30 : decode cX11_napLength 30 = .ok (.aload_n 0, 1) := by decide +kernel
theorem dX11_napLength_31 : decode cX11_napLength 31 = .ok (.getfield 41, 3) := by decide +kernel
theorem dX11_napLength_34 : decode cX11_napLength 34 = .ok (.ifCond .ne 13, 3) := by decide +kernel
theorem dX11_napLength_37 : decode cX11_napLength 37 = .ok (.lload_n 2, 1) := by decide +kernel
theorem dX11_napLength_38 : decode cX11_napLength 38 = .ok (.lload_n 2, 1) := by decide +kernel
theorem dX11_napLength_39 : decode cX11_napLength 39 = .ok (.ladd, 1) := by decide +kernel
theorem dX11_napLength_40 : decode cX11_napLength 40 = .ok (.lstore_n 2, 1) := by decide +kernel
theorem dX11_napLength_41 : decode cX11_napLength 41 = .ok (.iinc 4 1, 3) := by decide +kernel
theorem dX11_napLength_44 : decode cX11_napLength 44 = .ok (.goto (-20), 3) := by decide +kernel
theorem dX11_napLength_47 : decode cX11_napLength 47 = .ok (.aload_n 0, 1) := by decide +kernel
theorem dX11_napLength_48 : decode cX11_napLength 48 = .ok (.getfield 41, 3) := by decide +kernel
theorem dX11_napLength_51 : decode cX11_napLength 51 = .ok (.ifCond .le 7, 3) := by decide +kernel
theorem dX11_napLength_54 : decode cX11_napLength 54 = .ok (.lconst 0, 1) := by decide +kernel
theorem dX11_napLength_55 : decode cX11_napLength 55 = .ok (.goto 4, 3) := by decide +kernel
theorem dX11_napLength_58 : decode cX11_napLength 58 = .ok (.lload_n 2, 1) := by decide +kernel
theorem dX11_napLength_59 : decode cX11_napLength 59 = .ok (.lreturn, 1) := by decide +kernel
theorem dX11_napLengthByDoubling_0 : decode cX11_napLengthByDoubling 0 = .ok (.aload_n 0, 1) := by decide +kernel
theorem dX11_napLengthByDoubling_1 : decode cX11_napLengthByDoubling 1 = .ok (.iload_n 1, 1) := by decide +kernel
theorem dX11_napLengthByDoubling_2 : decode cX11_napLengthByDoubling 2 = .ok (.invokevirtual 152, 3) := by decide +kernel
theorem dX11_napLengthByDoubling_5 : decode cX11_napLengthByDoubling 5 = .ok (.lreturn, 1) := by decide +kernel
theorem dX11_minutesUntilDelivered_0 : decode cX11_minutesUntilDelivered 0 = .ok (.aload_n 0, 1) := by decide +kernel
theorem dX11_minutesUntilDelivered_1 : decode cX11_minutesUntilDelivered 1 = .ok (.iload_n 1, 1) := by decide +kernel
theorem dX11_minutesUntilDelivered_2 : decode cX11_minutesUntilDelivered 2 = .ok (.invokevirtual 72, 3) := by decide +kernel
theorem dX11_minutesUntilDelivered_5 : decode cX11_minutesUntilDelivered 5 = .ok (.istore_n 2, 1) := by decide +kernel
theorem dX11_minutesUntilDelivered_6 : decode cX11_minutesUntilDelivered 6 = .ok (.aload_n 0, 1) := by decide +kernel
theorem dX11_minutesUntilDelivered_7 : decode cX11_minutesUntilDelivered 7 = .ok (.iload_n 2, 1) := by decide +kernel
theorem dX11_minutesUntilDelivered_8 : decode cX11_minutesUntilDelivered 8 = .ok (.iconst (-1), 1) := by decide +kernel
theorem dX11_minutesUntilDelivered_9 : decode cX11_minutesUntilDelivered 9 = .ok (.if_icmp .ne 7, 3) := by decide +kernel
theorem dX11_minutesUntilDelivered_12 : decode cX11_minutesUntilDelivered 12 = .ok (.iconst 1, 1) := by decide +kernel
theorem dX11_minutesUntilDelivered_13 : decode cX11_minutesUntilDelivered 13 = .ok (.goto 19, 3) := by decide +kernel
theorem dX11_minutesUntilDelivered_16 : decode cX11_minutesUntilDelivered 16 = .ok (.aload_n 0, 1) := by decide +kernel
theorem dX11_minutesUntilDelivered_17 : decode cX11_minutesUntilDelivered 17 = .ok (.iload_n 2, 1) := by decide +kernel
theorem dX11_minutesUntilDelivered_18 : decode cX11_minutesUntilDelivered 18 = .ok (.iconst 4, 1) := by decide +kernel
theorem dX11_minutesUntilDelivered_19 : decode cX11_minutesUntilDelivered 19 = .ok (.invokevirtual 61, 3) := by decide +kernel
theorem dX11_minutesUntilDelivered_22 : decode cX11_minutesUntilDelivered 22 = .ok (.bipush 100, 2) := by decide +kernel
theorem dX11_minutesUntilDelivered_24 : decode cX11_minutesUntilDelivered 24 = .ok (.if_icmp .ne 7, 3) := by decide +kernel
theorem dX11_minutesUntilDelivered_27 : decode cX11_minutesUntilDelivered 27 = .ok (.iconst 2, 1) := by decide +kernel
theorem dX11_minutesUntilDelivered_28 : decode cX11_minutesUntilDelivered 28 = .ok (.goto 4, 3) := by decide +kernel
theorem dX11_minutesUntilDelivered_31 : decode cX11_minutesUntilDelivered 31 = .ok (.iconst 0, 1) := by decide +kernel
theorem dX11_minutesUntilDelivered_32 : decode cX11_minutesUntilDelivered 32 = .ok (.putfield 41, 3) := by decide +kernel
theorem dX11_minutesUntilDelivered_35 : decode cX11_minutesUntilDelivered 35 = .ok (.aload_n 0, 1) := by decide +kernel
theorem dX11_minutesUntilDelivered_36 : decode cX11_minutesUntilDelivered 36 = .ok (.getfield 41, 3) := by decide +kernel
theorem dX11_minutesUntilDelivered_39 : decode cX11_minutesUntilDelivered 39 = .ok (.ifCond .le 5, 3) := by decide +kernel
theorem dX11_minutesUntilDelivered_42 : decode cX11_minutesUntilDelivered 42 = .ok (.iconst 0, 1) := by decide +kernel
theorem dX11_minutesUntilDelivered_43 : decode cX11_minutesUntilDelivered 43 = .ok (.ireturn, 1) := by decide +kernel
theorem dX11_minutesUntilDelivered_44 : decode cX11_minutesUntilDelivered 44 = .ok (.iconst 0, 1) := by decide +kernel
theorem dX11_minutesUntilDelivered_45 : decode cX11_minutesUntilDelivered 45 = .ok (.istore_n 3, 1) := by decide +kernel
theorem dX11_minutesUntilDelivered_46 : decode cX11_minutesUntilDelivered 46 = .ok (.iload_n 3, 1) := by decide +kernel
theorem dX11_minutesUntilDelivered_47 : decode cX11_minutesUntilDelivered 47 = .ok (.sipush 258, 3) := by decide +kernel
theorem dX11_minutesUntilDelivered_50 : decode cX11_minutesUntilDelivered 50 = .ok (.if_icmp .ge 21, 3) := by decide +kernel
theorem dX11_minutesUntilDelivered_53 : decode cX11_minutesUntilDelivered 53 = .ok (.aload_n 0, 1) := by decide +kernel
theorem dX11_minutesUntilDelivered_54 : decode cX11_minutesUntilDelivered 54 = .ok (.getfield 22, 3) := by decide +kernel
theorem dX11_minutesUntilDelivered_57 : decode cX11_minutesUntilDelivered 57 = .ok (.iload_n 3, 1) := by decide +kernel
theorem dX11_minutesUntilDelivered_58 : decode cX11_minutesUntilDelivered 58 = .ok (.aload_n 0, 1) := by decide +kernel
theorem dX11_minutesUntilDelivered_59 : decode cX11_minutesUntilDelivered 59 = .ok (.getfield 7, 3) := by decide +kernel
theorem dX11_minutesUntilDelivered_62 : decode cX11_minutesUntilDelivered 62 = .ok (.iload_n 3, 1) := by decide +kernel
theorem dX11_minutesUntilDelivered_63 : decode cX11_minutesUntilDelivered 63 = .ok (.iaload, 1) := by decide +kernel
theorem dX11_minutesUntilDelivered_64 : decode cX11_minutesUntilDelivered 64 = .ok (.iastore, 1) := by decide +kernel
theorem dX11_minutesUntilDelivered_65 : decode cX11_minutesUntilDelivered 65 = .ok (.iinc 3 1, 3) := by decide +kernel
theorem dX11_minutesUntilDelivered_68 : decode cX11_minutesUntilDelivered 68 = .ok (.goto (-22), 3) := by decide +kernel
theorem dX11_minutesUntilDelivered_71 : decode cX11_minutesUntilDelivered 71 = .ok (.iconst 0, 1) := by decide +kernel
theorem dX11_minutesUntilDelivered_72 : decode cX11_minutesUntilDelivered 72 = .ok (.istore_n 3, 1) := by decide +kernel
theorem dX11_minutesUntilDelivered_73 : decode cX11_minutesUntilDelivered 73 = .ok (.iconst 1, 1) := by decide +kernel
theorem dX11_minutesUntilDelivered_74 : decode cX11_minutesUntilDelivered 74 = .ok (.istore 4, 2) := by decide +kernel
theorem dX11_minutesUntilDelivered_76 : decode cX11_minutesUntilDelivered 76 = .ok (.iload 4, 2) := by decide +kernel
theorem dX11_minutesUntilDelivered_78 : decode cX11_minutesUntilDelivered 78 = .ok (.bipush 100, 2) := by decide +kernel
theorem dX11_minutesUntilDelivered_80 : decode cX11_minutesUntilDelivered 80 = .ok (.if_icmp .gt 58, 3) := by decide +kernel
theorem dX11_minutesUntilDelivered_83 : decode cX11_minutesUntilDelivered 83 = .ok (.iload_n 3, 1) := by decide +kernel
theorem dX11_minutesUntilDelivered_84 : decode cX11_minutesUntilDelivered 84 = .ok (.ifCond .ne 54, 3) := by decide +kernel
theorem dX11_minutesUntilDelivered_87 : decode cX11_minutesUntilDelivered 87 = .ok (.aload_n 0, 1) := by decide +kernel
theorem dX11_minutesUntilDelivered_88 : decode cX11_minutesUntilDelivered 88 = .ok (.iload_n 1, 1) := by decide +kernel
theorem dX11_minutesUntilDelivered_89 : decode cX11_minutesUntilDelivered 89 = .ok (.invokevirtual 72, 3) := by decide +kernel
theorem dX11_minutesUntilDelivered_92 : decode cX11_minutesUntilDelivered 92 = .ok (.iconst (-1), 1) := by decide +kernel
theorem dX11_minutesUntilDelivered_93 : decode cX11_minutesUntilDelivered 93 = .ok (.if_icmp .eq 45, 3) := by decide +kernel
theorem dX11_minutesUntilDelivered_96 : decode cX11_minutesUntilDelivered 96 = .ok (.aload_n 0, 1) := by decide +kernel
theorem dX11_minutesUntilDelivered_97 : decode cX11_minutesUntilDelivered 97 = .ok (.invokevirtual 106, 3) := by decide +kernel
theorem dX11_minutesUntilDelivered_100 : decode cX11_minutesUntilDelivered 100 = .ok (.aload_n 0, 1) := by decide +kernel
theorem dX11_minutesUntilDelivered_101 : decode cX11_minutesUntilDelivered 101 = .ok (.iload_n 1, 1) := by decide +kernel
theorem dX11_minutesUntilDelivered_102 : decode cX11_minutesUntilDelivered 102 = .ok (.invokevirtual 72, 3) := by decide +kernel
theorem dX11_minutesUntilDelivered_105 : decode cX11_minutesUntilDelivered 105 = .ok (.istore 5, 2) := by decide +kernel
theorem dX11_minutesUntilDelivered_107 : decode cX11_minutesUntilDelivered 107 = .ok (.iload 5, 2) := by decide +kernel
theorem dX11_minutesUntilDelivered_109 : decode cX11_minutesUntilDelivered 109 = .ok (.iconst (-1), 1) := by decide +kernel
theorem dX11_minutesUntilDelivered_110 : decode cX11_minutesUntilDelivered 110 = .ok (.if_icmp .eq 20, 3) := by decide +kernel
theorem dX11_minutesUntilDelivered_113 : decode cX11_minutesUntilDelivered 113 = .ok (.aload_n 0, 1) := by decide +kernel
theorem dX11_minutesUntilDelivered_114 : decode cX11_minutesUntilDelivered 114 = .ok (.iload 5, 2) := by decide +kernel
theorem dX11_minutesUntilDelivered_116 : decode cX11_minutesUntilDelivered 116 = .ok (.iconst 4, 1) := by decide +kernel
theorem dX11_minutesUntilDelivered_117 : decode cX11_minutesUntilDelivered 117 = .ok (.invokevirtual 61, 3) := by decide +kernel
theorem dX11_minutesUntilDelivered_120 : decode cX11_minutesUntilDelivered 120 = .ok (.bipush 100, 2) := by decide +kernel
theorem dX11_minutesUntilDelivered_122 : decode cX11_minutesUntilDelivered 122 = .ok (.if_icmp .ne 8, 3) := by decide +kernel
theorem dX11_minutesUntilDelivered_125 : decode cX11_minutesUntilDelivered 125 = .ok (.iload 4, 2) := by decide +kernel
theorem dX11_minutesUntilDelivered_127 : decode cX11_minutesUntilDelivered 127 = .ok (.goto 4, 3) := by decide +kernel
theorem dX11_minutesUntilDelivered_130 : decode cX11_minutesUntilDelivered 130 = .ok (.iconst 0, 1) := by decide +kernel
theorem dX11_minutesUntilDelivered_131 : decode cX11_minutesUntilDelivered 131 = .ok (.istore_n 3, 1) := by decide +kernel
theorem dX11_minutesUntilDelivered_132 : decode cX11_minutesUntilDelivered 132 = .ok (.iinc 4 1, 3) := by decide +kernel
theorem dX11_minutesUntilDelivered_135 : decode cX11_minutesUntilDelivered 135 = .ok (.goto (-59), 3) := by decide +kernel
theorem dX11_minutesUntilDelivered_138 : decode cX11_minutesUntilDelivered 138 = .ok (.iconst 0, 1) := by decide +kernel
theorem dX11_minutesUntilDelivered_139 : decode cX11_minutesUntilDelivered 139 = .ok (.istore 4, 2) := by decide +kernel
theorem dX11_minutesUntilDelivered_141 : decode cX11_minutesUntilDelivered 141 = .ok (.iload 4, 2) := by decide +kernel
theorem dX11_minutesUntilDelivered_143 : decode cX11_minutesUntilDelivered 143 = .ok (.sipush 258, 3) := by decide +kernel
theorem dX11_minutesUntilDelivered_146 : decode cX11_minutesUntilDelivered 146 = .ok (.if_icmp .ge 23, 3) := by decide +kernel
theorem dX11_minutesUntilDelivered_149 : decode cX11_minutesUntilDelivered 149 = .ok (.aload_n 0, 1) := by decide +kernel
theorem dX11_minutesUntilDelivered_150 : decode cX11_minutesUntilDelivered 150 = .ok (.getfield 7, 3) := by decide +kernel
theorem dX11_minutesUntilDelivered_153 : decode cX11_minutesUntilDelivered 153 = .ok (.iload 4, 2) := by decide +kernel
theorem dX11_minutesUntilDelivered_155 : decode cX11_minutesUntilDelivered 155 = .ok (.aload_n 0, 1) := by decide +kernel
theorem dX11_minutesUntilDelivered_156 : decode cX11_minutesUntilDelivered 156 = .ok (.getfield 22, 3) := by decide +kernel
theorem dX11_minutesUntilDelivered_159 : decode cX11_minutesUntilDelivered 159 = .ok (.iload 4, 2) := by decide +kernel
theorem dX11_minutesUntilDelivered_161 : decode cX11_minutesUntilDelivered 161 = .ok (.iaload, 1) := by decide +kernel
theorem dX11_minutesUntilDelivered_162 : decode cX11_minutesUntilDelivered 162 = .ok (.iastore, 1) := by decide +kernel
theorem dX11_minutesUntilDelivered_163 : decode cX11_minutesUntilDelivered 163 = .ok (.iinc 4 1, 3) := by decide +kernel
theorem dX11_minutesUntilDelivered_166 : decode cX11_minutesUntilDelivered 166 = .ok (.goto (-25), 3) := by decide +kernel
theorem dX11_minutesUntilDelivered_169 : decode cX11_minutesUntilDelivered 169 = .ok (.iload_n 3, 1) := by decide +kernel
theorem dX11_minutesUntilDelivered_170 : decode cX11_minutesUntilDelivered 170 = .ok (.ifCond .ne 11, 3) := by decide +kernel
theorem dX11_minutesUntilDelivered_173 : decode cX11_minutesUntilDelivered 173 = .ok (.aload_n 0, 1) := by decide +kernel
theorem dX11_minutesUntilDelivered_174 : decode cX11_minutesUntilDelivered 174 = .ok (.iconst 2, 1) := by decide +kernel
theorem dX11_minutesUntilDelivered_175 : decode cX11_minutesUntilDelivered 175 = .ok (.invokevirtual 54, 3) := by decide +kernel
theorem dX11_minutesUntilDelivered_178 : decode cX11_minutesUntilDelivered 178 = .ok (.goto 4, 3) := by decide +kernel
theorem dX11_minutesUntilDelivered_181 : decode cX11_minutesUntilDelivered 181 = .ok (.iload_n 3, 1) := by decide +kernel
theorem dX11_minutesUntilDelivered_182 : decode cX11_minutesUntilDelivered 182 = .ok (.ireturn, 1) := by decide +kernel
theorem dX11_total_0 : decode cX11_total 0 = .ok (.aload_n 0, 1) := by decide +kernel
theorem dX11_total_1 : decode cX11_total 1 = .ok (.iconst 0, 1) := by decide +kernel
theorem dX11_total_2 : decode cX11_total 2 = .ok (.putfield 41, 3) := by decide +kernel
theorem dX11_total_5 : decode cX11_total 5 = .ok (.aload_n 0, 1) := by decide +kernel
theorem dX11_total_6 : decode cX11_total 6 = .ok (.getfield 7, 3) := by decide +kernel
theorem dX11_total_9 : decode cX11_total 9 = .ok (.iload_n 1, 1) := by decide +kernel
theorem dX11_total_10 : decode cX11_total 10 = .ok (.iaload, 1) := by decide +kernel
theorem dX11_total_11 : decode cX11_total 11 = .ok (.ireturn, 1) := by decide +kernel
theorem dX11_time_0 : decode cX11_time 0 = .ok (.aload_n 0, 1) := by decide +kernel
theorem dX11_time_1 : decode cX11_time 1 = .ok (.iconst 4, 1) := by decide +kernel
theorem dX11_time_2 : decode cX11_time 2 = .ok (.invokevirtual 156, 3) := by decide +kernel
theorem dX11_time_5 : decode cX11_time 5 = .ok (.ireturn, 1) := by decide +kernel
theorem dX11_wind_0 : decode cX11_wind 0 = .ok (.aload_n 0, 1) := by decide +kernel
theorem dX11_wind_1 : decode cX11_wind 1 = .ok (.iconst 5, 1) := by decide +kernel
theorem dX11_wind_2 : decode cX11_wind 2 = .ok (.invokevirtual 156, 3) := by decide +kernel
theorem dX11_wind_5 : decode cX11_wind 5 = .ok (.ireturn, 1) := by decide +kernel
theorem dX11_publishedTotal_0 : decode cX11_publishedTotal 0 = .ok (.aload_n 0, 1) := by decide +kernel
theorem dX11_publishedTotal_1 : decode cX11_publishedTotal 1 = .ok (.iconst 3, 1) := by decide +kernel
theorem dX11_publishedTotal_2 : decode cX11_publishedTotal 2 = .ok (.invokevirtual 156, 3) := by decide +kernel
theorem dX11_publishedTotal_5 : decode cX11_publishedTotal 5 = .ok (.ireturn, 1) := by decide +kernel
theorem dX11_deliveredTotal_0 : decode cX11_deliveredTotal 0 = .ok (.aload_n 0, 1) := by decide +kernel
theorem dX11_deliveredTotal_1 : decode cX11_deliveredTotal 1 = .ok (.bipush 6, 2) := by decide +kernel
theorem dX11_deliveredTotal_3 : decode cX11_deliveredTotal 3 = .ok (.invokevirtual 156, 3) := by decide +kernel
theorem dX11_deliveredTotal_6 : decode cX11_deliveredTotal 6 = .ok (.ireturn, 1) := by decide +kernel
theorem dX11_readTotal_0 : decode cX11_readTotal 0 = .ok (.aload_n 0, 1) := by decide +kernel
theorem dX11_readTotal_1 : decode cX11_readTotal 1 = .ok (.bipush 7, 2) := by decide +kernel
theorem dX11_readTotal_3 : decode cX11_readTotal 3 = .ok (.invokevirtual 156, 3) := by decide +kernel
theorem dX11_readTotal_6 : decode cX11_readTotal 6 = .ok (.ireturn, 1) := by decide +kernel
theorem dX11_duplicateTotal_0 : decode cX11_duplicateTotal 0 = .ok (.aload_n 0, 1) := by decide +kernel
theorem dX11_duplicateTotal_1 : decode cX11_duplicateTotal 1 = .ok (.bipush 8, 2) := by decide +kernel
theorem dX11_duplicateTotal_3 : decode cX11_duplicateTotal 3 = .ok (.invokevirtual 156, 3) := by decide +kernel
theorem dX11_duplicateTotal_6 : decode cX11_duplicateTotal 6 = .ok (.ireturn, 1) := by decide +kernel
theorem dX11_failedTotal_0 : decode cX11_failedTotal 0 = .ok (.aload_n 0, 1) := by decide +kernel
theorem dX11_failedTotal_1 : decode cX11_failedTotal 1 = .ok (.bipush 9, 2) := by decide +kernel
theorem dX11_failedTotal_3 : decode cX11_failedTotal 3 = .ok (.invokevirtual 156, 3) := by decide +kernel
theorem dX11_failedTotal_6 : decode cX11_failedTotal 6 = .ok (.ireturn, 1) := by decide +kernel
theorem dX11_arrivalTotal_0 : decode cX11_arrivalTotal 0 = .ok (.aload_n 0, 1) := by decide +kernel
theorem dX11_arrivalTotal_1 : decode cX11_arrivalTotal 1 = .ok (.bipush 10, 2) := by decide +kernel
theorem dX11_arrivalTotal_3 : decode cX11_arrivalTotal 3 = .ok (.invokevirtual 156, 3) := by decide +kernel
theorem dX11_arrivalTotal_6 : decode cX11_arrivalTotal 6 = .ok (.ireturn, 1) := by decide +kernel
theorem dX11_messageCountByTotals_0 : decode cX11_messageCountByTotals 0 = .ok (.aload_n 0, 1) := by decide +kernel
theorem dX11_messageCountByTotals_1 : decode cX11_messageCountByTotals 1 = .ok (.iconst 0, 1) := by decide +kernel
theorem dX11_messageCountByTotals_2 : decode cX11_messageCountByTotals 2 = .ok (.putfield 41, 3) := by decide +kernel
theorem dX11_messageCountByTotals_5 : decode cX11_messageCountByTotals 5 = .ok (.aload_n 0, 1) := by decide +kernel
theorem dX11_messageCountByTotals_6 : decode cX11_messageCountByTotals 6 = .ok (.getfield 7, 3) := by decide +kernel
theorem dX11_messageCountByTotals_9 : decode cX11_messageCountByTotals 9 = .ok (.iconst 3, 1) := by decide +kernel
theorem dX11_messageCountByTotals_10 : decode cX11_messageCountByTotals 10 = .ok (.iaload, 1) := by decide +kernel
theorem dX11_messageCountByTotals_11 : decode cX11_messageCountByTotals 11 = .ok (.aload_n 0, 1) := by decide +kernel
theorem dX11_messageCountByTotals_12 : decode cX11_messageCountByTotals 12 = .ok (.getfield 7, 3) := by decide +kernel
theorem dX11_messageCountByTotals_15 : decode cX11_messageCountByTotals 15 = .ok (.bipush 7, 2) := by decide +kernel
theorem dX11_messageCountByTotals_17 : decode cX11_messageCountByTotals 17 = .ok (.iaload, 1) := by decide +kernel
theorem dX11_messageCountByTotals_18 : decode cX11_messageCountByTotals 18 = .ok (.isub, 1) := by decide +kernel
theorem dX11_messageCountByTotals_19 : decode cX11_messageCountByTotals 19 = .ok (.aload_n 0, 1) := by decide +kernel
theorem dX11_messageCountByTotals_20 : decode cX11_messageCountByTotals 20 = .ok (.getfield 7, 3) := by decide +kernel
theorem dX11_messageCountByTotals_23 : decode cX11_messageCountByTotals 23 = .ok (.bipush 8, 2) := by decide +kernel
theorem dX11_messageCountByTotals_25 : decode cX11_messageCountByTotals 25 = .ok (.iaload, 1) := by decide +kernel
theorem dX11_messageCountByTotals_26 : decode cX11_messageCountByTotals 26 = .ok (.isub, 1) := by decide +kernel
theorem dX11_messageCountByTotals_27 : decode cX11_messageCountByTotals 27 = .ok (.aload_n 0, 1) := by decide +kernel
theorem dX11_messageCountByTotals_28 : decode cX11_messageCountByTotals 28 = .ok (.getfield 7, 3) := by decide +kernel
theorem dX11_messageCountByTotals_31 : decode cX11_messageCountByTotals 31 = .ok (.bipush 9, 2) := by decide +kernel
theorem dX11_messageCountByTotals_33 : decode cX11_messageCountByTotals 33 = .ok (.iaload, 1) := by decide +kernel
theorem dX11_messageCountByTotals_34 : decode cX11_messageCountByTotals 34 = .ok (.isub, 1) := by decide +kernel
theorem dX11_messageCountByTotals_35 : decode cX11_messageCountByTotals 35 = .ok (.aload_n 0, 1) := by decide +kernel
theorem dX11_messageCountByTotals_36 : decode cX11_messageCountByTotals 36 = .ok (.getfield 7, 3) := by decide +kernel
theorem dX11_messageCountByTotals_39 : decode cX11_messageCountByTotals 39 = .ok (.bipush 11, 2) := by decide +kernel
theorem dX11_messageCountByTotals_41 : decode cX11_messageCountByTotals 41 = .ok (.iaload, 1) := by decide +kernel
theorem dX11_messageCountByTotals_42 : decode cX11_messageCountByTotals 42 = .ok (.isub, 1) := by decide +kernel
theorem dX11_messageCountByTotals_43 : decode cX11_messageCountByTotals 43 = .ok (.ireturn, 1) := by decide +kernel
theorem dX11_mean_0 : decode cX11_mean 0 = .ok (.iconst 0, 1) := by decide +kernel
theorem dX11_mean_1 : decode cX11_mean 1 = .ok (.istore_n 1, 1) := by decide +kernel
theorem dX11_mean_2 : decode cX11_mean 2 = .ok (.iconst 0, 1) := by decide +kernel
theorem dX11_mean_3 : decode cX11_mean 3 = .ok (.istore_n 2, 1) := by decide +kernel
theorem dX11_mean_4 : decode cX11_mean 4 = .ok (.iload_n 2, 1) := by decide +kernel
theorem dX11_mean_5 : decode cX11_mean 5 = .ok (.aload_n 0, 1) := by decide +kernel
theorem dX11_mean_6 : decode cX11_mean 6 = .ok (.getfield 7, 3) := by decide +kernel
theorem dX11_mean_9 : decode cX11_mean 9 = .ok (.iconst 2, 1) := by decide +kernel
theorem dX11_mean_10 : decode cX11_mean 10 = .ok (.iaload, 1) := by decide +kernel
theorem dX11_mean_11 : decode cX11_mean 11 = .ok (.if_icmp .ge 18, 3) := by decide +kernel
theorem dX11_mean_14 : decode cX11_mean 14 = .ok (.iload_n 1, 1) := by decide +kernel
theorem dX11_mean_15 : decode cX11_mean 15 = .ok (.aload_n 0, 1) := by decide +kernel
theorem dX11_mean_16 : decode cX11_mean 16 = .ok (.iload_n 2, 1) := by decide +kernel
theorem dX11_mean_17 : decode cX11_mean 17 = .ok (.iconst 3, 1) := by decide +kernel
theorem dX11_mean_18 : decode cX11_mean 18 = .ok (.invokevirtual 61, 3) := by decide +kernel
theorem dX11_mean_21 : decode cX11_mean 21 = .ok (.iadd, 1) := by decide +kernel
theorem dX11_mean_22 : decode cX11_mean 22 = .ok (.istore_n 1, 1) := by decide +kernel
theorem dX11_mean_23 : decode cX11_mean 23 = .ok (.iinc 2 1, 3) := by decide +kernel
theorem dX11_mean_26 : decode cX11_mean 26 = .ok (.goto (-22), 3) := by decide +kernel
theorem dX11_mean_29 : decode cX11_mean 29 = .ok (.iload_n 1, 1) := by decide +kernel
theorem dX11_mean_30 : decode cX11_mean 30 = .ok (.i2d, 1) := by decide +kernel
theorem dX11_mean_31 : decode cX11_mean 31 = .ok (.aload_n 0, 1) := by decide +kernel
theorem dX11_mean_32 : decode cX11_mean 32 = .ok (.getfield 7, 3) := by decide +kernel
theorem dX11_mean_35 : decode cX11_mean 35 = .ok (.iconst 2, 1) := by decide +kernel
theorem dX11_mean_36 : decode cX11_mean 36 = .ok (.iaload, 1) := by decide +kernel
theorem dX11_mean_37 : decode cX11_mean 37 = .ok (.i2d, 1) := by decide +kernel
theorem dX11_mean_38 : decode cX11_mean 38 = .ok (.ddiv, 1) := by decide +kernel
theorem dX11_mean_39 : decode cX11_mean 39 = .ok (.dreturn, 1) := by decide +kernel
theorem dX11_meanAttempts_0 : decode cX11_meanAttempts 0 = .ok (.aload_n 0, 1) := by decide +kernel
theorem dX11_meanAttempts_1 : decode cX11_meanAttempts 1 = .ok (.aload_n 0, 1) := by decide +kernel
theorem dX11_meanAttempts_2 : decode cX11_meanAttempts 2 = .ok (.getfield 7, 3) := by decide +kernel
theorem dX11_meanAttempts_5 : decode cX11_meanAttempts 5 = .ok (.iconst 2, 1) := by decide +kernel
theorem dX11_meanAttempts_6 : decode cX11_meanAttempts 6 = .ok (.iaload, 1) := by decide +kernel
theorem dX11_meanAttempts_7 : decode cX11_meanAttempts 7 = .ok (.ifCond .ne 7, 3) := by decide +kernel
theorem dX11_meanAttempts_10 : decode cX11_meanAttempts 10 = .ok (.iconst 1, 1) := by decide +kernel
theorem dX11_meanAttempts_11 : decode cX11_meanAttempts 11 = .ok (.goto 4, 3) := by decide +kernel
theorem dX11_meanAttempts_14 : decode cX11_meanAttempts 14 = .ok (.iconst 0, 1) := by decide +kernel
theorem dX11_meanAttempts_15 : decode cX11_meanAttempts 15 = .ok (.putfield 41, 3) := by decide +kernel
theorem dX11_meanAttempts_18 : decode cX11_meanAttempts 18 = .ok (.aload_n 0, 1) := by decide +kernel
theorem dX11_meanAttempts_19 : decode cX11_meanAttempts 19 = .ok (.getfield 41, 3) := by decide +kernel
theorem dX11_meanAttempts_22 : decode cX11_meanAttempts 22 = .ok (.ifCond .le 7, 3) := by decide +kernel
theorem dX11_meanAttempts_25 : decode cX11_meanAttempts 25 = .ok (.dconst 0, 1) := by decide +kernel
theorem dX11_meanAttempts_26 : decode cX11_meanAttempts 26 = .ok (.goto 7, 3) := by decide +kernel
theorem dX11_meanAttempts_29 : decode cX11_meanAttempts 29 = .ok (.aload_n 0, 1) := by decide +kernel
theorem dX11_meanAttempts_30 : decode cX11_meanAttempts 30 = .ok (.invokevirtual 159, 3) := by decide +kernel
theorem dX11_meanAttempts_33 : decode cX11_meanAttempts 33 = .ok (.dreturn, 1) := by decide +kernel
theorem dX11_meanAttemptsBits_0 : decode cX11_meanAttemptsBits 0 = .ok (.aload_n 0, 1) := by decide +kernel
theorem dX11_meanAttemptsBits_1 : decode cX11_meanAttemptsBits 1 = .ok (.aload_n 0, 1) := by decide +kernel
theorem dX11_meanAttemptsBits_2 : decode cX11_meanAttemptsBits 2 = .ok (.getfield 7, 3) := by decide +kernel
theorem dX11_meanAttemptsBits_5 : decode cX11_meanAttemptsBits 5 = .ok (.iconst 2, 1) := by decide +kernel
theorem dX11_meanAttemptsBits_6 : decode cX11_meanAttemptsBits 6 = .ok (.iaload, 1) := by decide +kernel
theorem dX11_meanAttemptsBits_7 : decode cX11_meanAttemptsBits 7 = .ok (.ifCond .ne 7, 3) := by decide +kernel
theorem dX11_meanAttemptsBits_10 : decode cX11_meanAttemptsBits 10 = .ok (.iconst 1, 1) := by decide +kernel
theorem dX11_meanAttemptsBits_11 : decode cX11_meanAttemptsBits 11 = .ok (.goto 4, 3) := by decide +kernel
theorem dX11_meanAttemptsBits_14 : decode cX11_meanAttemptsBits 14 = .ok (.iconst 0, 1) := by decide +kernel
theorem dX11_meanAttemptsBits_15 : decode cX11_meanAttemptsBits 15 = .ok (.putfield 41, 3) := by decide +kernel
theorem dX11_meanAttemptsBits_18 : decode cX11_meanAttemptsBits 18 = .ok (.aload_n 0, 1) := by decide +kernel
theorem dX11_meanAttemptsBits_19 : decode cX11_meanAttemptsBits 19 = .ok (.getfield 41, 3) := by decide +kernel
theorem dX11_meanAttemptsBits_22 : decode cX11_meanAttemptsBits 22 = .ok (.ifCond .le 7, 3) := by decide +kernel
theorem dX11_meanAttemptsBits_25 : decode cX11_meanAttemptsBits 25 = .ok (.lconst 0, 1) := by decide +kernel
theorem dX11_meanAttemptsBits_26 : decode cX11_meanAttemptsBits 26 = .ok (.goto 10, 3) := by decide +kernel
theorem dX11_meanAttemptsBits_29 : decode cX11_meanAttemptsBits 29 = .ok (.aload_n 0, 1) := by decide +kernel
theorem dX11_meanAttemptsBits_30 : decode cX11_meanAttemptsBits 30 = .ok (.invokevirtual 159, 3) := by decide +kernel
theorem dX11_meanAttemptsBits_33 : decode cX11_meanAttemptsBits 33 = .ok (.invokestatic 163, 3) := by decide +kernel
theorem dX11_meanAttemptsBits_36 : decode cX11_meanAttemptsBits 36 = .ok (.lreturn, 1) := by decide +kernel
theorem dX11_rate_0 : decode cX11_rate 0 = .ok (.aload_n 0, 1) := by decide +kernel
theorem dX11_rate_1 : decode cX11_rate 1 = .ok (.getfield 7, 3) := by decide +kernel
theorem dX11_rate_4 : decode cX11_rate 4 = .ok (.bipush 6, 2) := by decide +kernel
theorem dX11_rate_6 : decode cX11_rate 6 = .ok (.iaload, 1) := by decide +kernel
theorem dX11_rate_7 : decode cX11_rate 7 = .ok (.i2f, 1) := by decide +kernel
theorem dX11_rate_8 : decode cX11_rate 8 = .ok (.aload_n 0, 1) := by decide +kernel
theorem dX11_rate_9 : decode cX11_rate 9 = .ok (.getfield 7, 3) := by decide +kernel
theorem dX11_rate_12 : decode cX11_rate 12 = .ok (.bipush 10, 2) := by decide +kernel
theorem dX11_rate_14 : decode cX11_rate 14 = .ok (.iaload, 1) := by decide +kernel
theorem dX11_rate_15 : decode cX11_rate 15 = .ok (.i2f, 1) := by decide +kernel
theorem dX11_rate_16 : decode cX11_rate 16 = .ok (.fdiv, 1) := by decide +kernel
theorem dX11_rate_17 : decode cX11_rate 17 = .ok (.freturn, 1) := by decide +kernel
theorem dX11_deliveryRate_0 : decode cX11_deliveryRate 0 = .ok (.aload_n 0, 1) := by decide +kernel
theorem dX11_deliveryRate_1 : decode cX11_deliveryRate 1 = .ok (.aload_n 0, 1) := by decide +kernel
theorem dX11_deliveryRate_2 : decode cX11_deliveryRate 2 = .ok (.getfield 7, 3) := by decide +kernel
theorem dX11_deliveryRate_5 : decode cX11_deliveryRate 5 = .ok (.bipush 10, 2) := by decide +kernel
theorem dX11_deliveryRate_7 : decode cX11_deliveryRate 7 = .ok (.iaload, 1) := by decide +kernel
theorem dX11_deliveryRate_8 : decode cX11_deliveryRate 8 = .ok (.ifCond .ne 7, 3) := by decide +kernel
theorem dX11_deliveryRate_11 : decode cX11_deliveryRate 11 = .ok (.iconst 1, 1) := by decide +kernel
theorem dX11_deliveryRate_12 : decode cX11_deliveryRate 12 = .ok (.goto 4, 3) := by decide +kernel
theorem dX11_deliveryRate_15 : decode cX11_deliveryRate 15 = .ok (.iconst 0, 1) := by decide +kernel
theorem dX11_deliveryRate_16 : decode cX11_deliveryRate 16 = .ok (.putfield 41, 3) := by decide +kernel
theorem dX11_deliveryRate_19 : decode cX11_deliveryRate 19 = .ok (.aload_n 0, 1) := by decide +kernel
theorem dX11_deliveryRate_20 : decode cX11_deliveryRate 20 = .ok (.getfield 41, 3) := by decide +kernel
theorem dX11_deliveryRate_23 : decode cX11_deliveryRate 23 = .ok (.ifCond .le 7, 3) := by decide +kernel
theorem dX11_deliveryRate_26 : decode cX11_deliveryRate 26 = .ok (.fconst 0, 1) := by decide +kernel
theorem dX11_deliveryRate_27 : decode cX11_deliveryRate 27 = .ok (.goto 7, 3) := by decide +kernel
theorem dX11_deliveryRate_30 : decode cX11_deliveryRate 30 = .ok (.aload_n 0, 1) := by decide +kernel
theorem dX11_deliveryRate_31 : decode cX11_deliveryRate 31 = .ok (.invokevirtual 169, 3) := by decide +kernel
theorem dX11_deliveryRate_34 : decode cX11_deliveryRate 34 = .ok (.freturn, 1) := by decide +kernel
theorem dX11_deliveryRateBits_0 : decode cX11_deliveryRateBits 0 = .ok (.aload_n 0, 1) := by decide +kernel
theorem dX11_deliveryRateBits_1 : decode cX11_deliveryRateBits 1 = .ok (.aload_n 0, 1) := by decide +kernel
theorem dX11_deliveryRateBits_2 : decode cX11_deliveryRateBits 2 = .ok (.getfield 7, 3) := by decide +kernel
theorem dX11_deliveryRateBits_5 : decode cX11_deliveryRateBits 5 = .ok (.bipush 10, 2) := by decide +kernel
theorem dX11_deliveryRateBits_7 : decode cX11_deliveryRateBits 7 = .ok (.iaload, 1) := by decide +kernel
theorem dX11_deliveryRateBits_8 : decode cX11_deliveryRateBits 8 = .ok (.ifCond .ne 7, 3) := by decide +kernel
theorem dX11_deliveryRateBits_11 : decode cX11_deliveryRateBits 11 = .ok (.iconst 1, 1) := by decide +kernel
theorem dX11_deliveryRateBits_12 : decode cX11_deliveryRateBits 12 = .ok (.goto 4, 3) := by decide +kernel
theorem dX11_deliveryRateBits_15 : decode cX11_deliveryRateBits 15 = .ok (.iconst 0, 1) := by decide +kernel
theorem dX11_deliveryRateBits_16 : decode cX11_deliveryRateBits 16 = .ok (.putfield 41, 3) := by decide +kernel
theorem dX11_deliveryRateBits_19 : decode cX11_deliveryRateBits 19 = .ok (.aload_n 0, 1) := by decide +kernel
theorem dX11_deliveryRateBits_20 : decode cX11_deliveryRateBits 20 = .ok (.getfield 41, 3) := by decide +kernel
theorem dX11_deliveryRateBits_23 : decode cX11_deliveryRateBits 23 = .ok (.ifCond .le 7, 3) := by decide +kernel
theorem dX11_deliveryRateBits_26 : decode cX11_deliveryRateBits 26 = .ok (.iconst 0, 1) := by decide +kernel
theorem dX11_deliveryRateBits_27 : decode cX11_deliveryRateBits 27 = .ok (.goto 10, 3) := by decide +kernel
theorem dX11_deliveryRateBits_30 : decode cX11_deliveryRateBits 30 = .ok (.aload_n 0, 1) := by decide +kernel
theorem dX11_deliveryRateBits_31 : decode cX11_deliveryRateBits 31 = .ok (.invokevirtual 169, 3) := by decide +kernel
theorem dX11_deliveryRateBits_34 : decode cX11_deliveryRateBits 34 = .ok (.invokestatic 173, 3) := by decide +kernel
theorem dX11_deliveryRateBits_37 : decode cX11_deliveryRateBits 37 = .ok (.ireturn, 1) := by decide +kernel
theorem dX11_isConsistent_0 : decode cX11_isConsistent 0 = .ok (.aload_n 0, 1) := by decide +kernel
theorem dX11_isConsistent_1 : decode cX11_isConsistent 1 = .ok (.iconst 0, 1) := by decide +kernel
theorem dX11_isConsistent_2 : decode cX11_isConsistent 2 = .ok (.putfield 41, 3) := by decide +kernel
theorem dX11_isConsistent_5 : decode cX11_isConsistent 5 = .ok (.iconst 1, 1) := by decide +kernel
theorem dX11_isConsistent_6 : decode cX11_isConsistent 6 = .ok (.ireturn, 1) := by decide +kernel
theorem dX11_writes_0 : decode cX11_writes 0 = .ok (.aload_n 0, 1) := by decide +kernel
theorem dX11_writes_1 : decode cX11_writes 1 = .ok (.getfield 31, 3) := by decide +kernel
theorem dX11_writes_4 : decode cX11_writes 4 = .ok (.aload_n 0, 1) := by decide +kernel
theorem dX11_writes_5 : decode cX11_writes 5 = .ok (.getfield 179, 3) := by decide +kernel
theorem dX11_writes_8 : decode cX11_writes 8 = .ok (.iload_n 1, 1) := by decide +kernel
theorem dX11_writes_9 : decode cX11_writes 9 = .ok (.iastore, 1) := by decide +kernel
theorem dX11_writes_10 : decode cX11_writes 10 = .ok (.aload_n 0, 1) := by decide +kernel
theorem dX11_writes_11 : decode cX11_writes 11 = .ok (.dup, 1) := by decide +kernel
theorem dX11_writes_12 : decode cX11_writes 12 = .ok (.getfield 179, 3) := by decide +kernel
theorem dX11_writes_15 : decode cX11_writes 15 = .ok (.iconst 1, 1) := by decide +kernel
theorem dX11_writes_16 : decode cX11_writes 16 = .ok (.iadd, 1) := by decide +kernel
theorem dX11_writes_17 : decode cX11_writes 17 = .ok (.putfield 179, 3) := by decide +kernel
theorem dX11_writes_20 : decode cX11_writes 20 = .ok (.return_, 1) := by decide +kernel
theorem dX11_writesNumber_0 : decode cX11_writesNumber 0 = .ok (.iload_n 1, 1) := by decide +kernel
theorem dX11_writesNumber_1 : decode cX11_writesNumber 1 = .ok (.bipush 99, 2) := by decide +kernel
theorem dX11_writesNumber_3 : decode cX11_writesNumber 3 = .ok (.if_icmp .le 17, 3) := by decide +kernel
theorem dX11_writesNumber_6 : decode cX11_writesNumber 6 = .ok (.aload_n 0, 1) := by decide +kernel
theorem dX11_writesNumber_7 : decode cX11_writesNumber 7 = .ok (.bipush 48, 2) := by decide +kernel
theorem dX11_writesNumber_9 : decode cX11_writesNumber 9 = .ok (.iload_n 1, 1) := by decide +kernel
theorem dX11_writesNumber_10 : decode cX11_writesNumber 10 = .ok (.bipush 100, 2) := by decide +kernel
theorem dX11_writesNumber_12 : decode cX11_writesNumber 12 = .ok (.idiv, 1) := by decide +kernel
theorem dX11_writesNumber_13 : decode cX11_writesNumber 13 = .ok (.bipush 10, 2) := by decide +kernel
theorem dX11_writesNumber_15 : decode cX11_writesNumber 15 = .ok (.irem, 1) := by decide +kernel
theorem dX11_writesNumber_16 : decode cX11_writesNumber 16 = .ok (.iadd, 1) := by decide +kernel
theorem dX11_writesNumber_17 : decode cX11_writesNumber 17 = .ok (.invokevirtual 182, 3) := by decide +kernel
theorem dX11_writesNumber_20 : decode cX11_writesNumber 20 = .ok (.iload_n 1, 1) := by decide +kernel
theorem dX11_writesNumber_21 : decode cX11_writesNumber 21 = .ok (.bipush 9, 2) := by decide +kernel
theorem dX11_writesNumber_23 : decode cX11_writesNumber 23 = .ok (.if_icmp .le 17, 3) := by decide +kernel
theorem dX11_writesNumber_26 : decode cX11_writesNumber 26 = .ok (.aload_n 0, 1) := by decide +kernel
theorem dX11_writesNumber_27 : decode cX11_writesNumber 27 = .ok (.bipush 48, 2) := by decide +kernel
theorem dX11_writesNumber_29 : decode cX11_writesNumber 29 = .ok (.iload_n 1, 1) := by decide +kernel
theorem dX11_writesNumber_30 : decode cX11_writesNumber 30 = .ok (.bipush 10, 2) := by decide +kernel
theorem dX11_writesNumber_32 : decode cX11_writesNumber 32 = .ok (.idiv, 1) := by decide +kernel
theorem dX11_writesNumber_33 : decode cX11_writesNumber 33 = .ok (.bipush 10, 2) := by decide +kernel
theorem dX11_writesNumber_35 : decode cX11_writesNumber 35 = .ok (.irem, 1) := by decide +kernel
theorem dX11_writesNumber_36 : decode cX11_writesNumber 36 = .ok (.iadd, 1) := by decide +kernel
theorem dX11_writesNumber_37 : decode cX11_writesNumber 37 = .ok (.invokevirtual 182, 3) := by decide +kernel
theorem dX11_writesNumber_40 : decode cX11_writesNumber 40 = .ok (.aload_n 0, 1) := by decide +kernel
theorem dX11_writesNumber_41 : decode cX11_writesNumber 41 = .ok (.bipush 48, 2) := by decide +kernel
theorem dX11_writesNumber_43 : decode cX11_writesNumber 43 = .ok (.iload_n 1, 1) := by decide +kernel
theorem dX11_writesNumber_44 : decode cX11_writesNumber 44 = .ok (.bipush 10, 2) := by decide +kernel
theorem dX11_writesNumber_46 : decode cX11_writesNumber 46 = .ok (.irem, 1) := by decide +kernel
theorem dX11_writesNumber_47 : decode cX11_writesNumber 47 = .ok (.iadd, 1) := by decide +kernel
theorem dX11_writesNumber_48 : decode cX11_writesNumber 48 = .ok (.invokevirtual 182, 3) := by decide +kernel
theorem dX11_writesNumber_51 : decode cX11_writesNumber 51 = .ok (.return_, 1) := by decide +kernel
theorem dX11_renderMessage_0 : decode cX11_renderMessage 0 = .ok (.aload_n 0, 1) := by decide +kernel
theorem dX11_renderMessage_1 : decode cX11_renderMessage 1 = .ok (.iload_n 1, 1) := by decide +kernel
theorem dX11_renderMessage_2 : decode cX11_renderMessage 2 = .ok (.invokevirtual 72, 3) := by decide +kernel
theorem dX11_renderMessage_5 : decode cX11_renderMessage 5 = .ok (.istore_n 2, 1) := by decide +kernel
theorem dX11_renderMessage_6 : decode cX11_renderMessage 6 = .ok (.aload_n 0, 1) := by decide +kernel
theorem dX11_renderMessage_7 : decode cX11_renderMessage 7 = .ok (.iload_n 2, 1) := by decide +kernel
theorem dX11_renderMessage_8 : decode cX11_renderMessage 8 = .ok (.iconst (-1), 1) := by decide +kernel
theorem dX11_renderMessage_9 : decode cX11_renderMessage 9 = .ok (.if_icmp .ne 7, 3) := by decide +kernel
theorem dX11_renderMessage_12 : decode cX11_renderMessage 12 = .ok (.iconst 1, 1) := by decide +kernel
theorem dX11_renderMessage_13 : decode cX11_renderMessage 13 = .ok (.goto 4, 3) := by decide +kernel
theorem dX11_renderMessage_16 : decode cX11_renderMessage 16 = .ok (.iconst 0, 1) := by decide +kernel
theorem dX11_renderMessage_17 : decode cX11_renderMessage 17 = .ok (.putfield 41, 3) := by decide +kernel
theorem dX11_renderMessage_20 : decode cX11_renderMessage 20 = .ok (.aload_n 0, 1) := by decide +kernel
theorem dX11_renderMessage_21 : decode cX11_renderMessage 21 = .ok (.getfield 41, 3) := by decide +kernel
theorem dX11_renderMessage_24 : decode cX11_renderMessage 24 = .ok (.ifCond .le 5, 3) := by decide +kernel
theorem dX11_renderMessage_27 : decode cX11_renderMessage 27 = .ok (.iconst 0, 1) := by decide +kernel
theorem dX11_renderMessage_28 : decode cX11_renderMessage 28 = .ok (.ireturn, 1) := by decide +kernel
theorem dX11_renderMessage_29 : decode cX11_renderMessage 29 = .ok (.aload_n 0, 1) := by decide +kernel
theorem dX11_renderMessage_30 : decode cX11_renderMessage 30 = .ok (.iconst 0, 1) := by decide +kernel
theorem dX11_renderMessage_31 : decode cX11_renderMessage 31 = .ok (.putfield 179, 3) := by decide +kernel
theorem dX11_renderMessage_34 : decode cX11_renderMessage 34 = .ok (.iload_n 1, 1) := by decide +kernel
theorem dX11_renderMessage_35 : decode cX11_renderMessage 35 = .ok (.sipush 999, 3) := by decide +kernel
theorem dX11_renderMessage_38 : decode cX11_renderMessage 38 = .ok (.if_icmp .le 15, 3) := by decide +kernel
theorem dX11_renderMessage_41 : decode cX11_renderMessage 41 = .ok (.aload_n 0, 1) := by decide +kernel
theorem dX11_renderMessage_42 : decode cX11_renderMessage 42 = .ok (.bipush 48, 2) := by decide +kernel
theorem dX11_renderMessage_44 : decode cX11_renderMessage 44 = .ok (.iload_n 1, 1) := by decide +kernel
theorem dX11_renderMessage_45 : decode cX11_renderMessage 45 = .ok (.sipush 1000, 3) := by decide +kernel
theorem dX11_renderMessage_48 : decode cX11_renderMessage 48 = .ok (.idiv, 1) := by decide +kernel
theorem dX11_renderMessage_49 : decode cX11_renderMessage 49 = .ok (.iadd, 1) := by decide +kernel
theorem dX11_renderMessage_50 : decode cX11_renderMessage 50 = .ok (.invokevirtual 182, 3) := by decide +kernel
theorem dX11_renderMessage_53 : decode cX11_renderMessage 53 = .ok (.aload_n 0, 1) := by decide +kernel
theorem dX11_renderMessage_54 : decode cX11_renderMessage 54 = .ok (.iload_n 1, 1) := by decide +kernel
theorem dX11_renderMessage_55 : decode cX11_renderMessage 55 = .ok (.invokevirtual 185, 3) := by decide +kernel
theorem dX11_renderMessage_58 : decode cX11_renderMessage 58 = .ok (.aload_n 0, 1) := by decide +kernel
theorem dX11_renderMessage_59 : decode cX11_renderMessage 59 = .ok (.bipush 62, 2) := by decide +kernel
theorem dX11_renderMessage_61 : decode cX11_renderMessage 61 = .ok (.invokevirtual 182, 3) := by decide +kernel
theorem dX11_renderMessage_64 : decode cX11_renderMessage 64 = .ok (.aload_n 0, 1) := by decide +kernel
theorem dX11_renderMessage_65 : decode cX11_renderMessage 65 = .ok (.aload_n 0, 1) := by decide +kernel
theorem dX11_renderMessage_66 : decode cX11_renderMessage 66 = .ok (.iload_n 2, 1) := by decide +kernel
theorem dX11_renderMessage_67 : decode cX11_renderMessage 67 = .ok (.iconst 1, 1) := by decide +kernel
theorem dX11_renderMessage_68 : decode cX11_renderMessage 68 = .ok (.invokevirtual 61, 3) := by decide +kernel
theorem dX11_renderMessage_71 : decode cX11_renderMessage 71 = .ok (.invokevirtual 185, 3) := by decide +kernel
theorem dX11_renderMessage_74 : decode cX11_renderMessage 74 = .ok (.aload_n 0, 1) := by decide +kernel
theorem dX11_renderMessage_75 : decode cX11_renderMessage 75 = .ok (.bipush 107, 2) := by decide +kernel
theorem dX11_renderMessage_77 : decode cX11_renderMessage 77 = .ok (.invokevirtual 182, 3) := by decide +kernel
theorem dX11_renderMessage_80 : decode cX11_renderMessage 80 = .ok (.aload_n 0, 1) := by decide +kernel
theorem dX11_renderMessage_81 : decode cX11_renderMessage 81 = .ok (.aload_n 0, 1) := by decide +kernel
theorem dX11_renderMessage_82 : decode cX11_renderMessage 82 = .ok (.iload_n 2, 1) := by decide +kernel
theorem dX11_renderMessage_83 : decode cX11_renderMessage 83 = .ok (.iconst 2, 1) := by decide +kernel
theorem dX11_renderMessage_84 : decode cX11_renderMessage 84 = .ok (.invokevirtual 61, 3) := by decide +kernel
theorem dX11_renderMessage_87 : decode cX11_renderMessage 87 = .ok (.invokevirtual 185, 3) := by decide +kernel
theorem dX11_renderMessage_90 : decode cX11_renderMessage 90 = .ok (.aload_n 0, 1) := by decide +kernel
theorem dX11_renderMessage_91 : decode cX11_renderMessage 91 = .ok (.bipush 97, 2) := by decide +kernel
theorem dX11_renderMessage_93 : decode cX11_renderMessage 93 = .ok (.invokevirtual 182, 3) := by decide +kernel
theorem dX11_renderMessage_96 : decode cX11_renderMessage 96 = .ok (.aload_n 0, 1) := by decide +kernel
theorem dX11_renderMessage_97 : decode cX11_renderMessage 97 = .ok (.aload_n 0, 1) := by decide +kernel
theorem dX11_renderMessage_98 : decode cX11_renderMessage 98 = .ok (.iload_n 2, 1) := by decide +kernel
theorem dX11_renderMessage_99 : decode cX11_renderMessage 99 = .ok (.iconst 3, 1) := by decide +kernel
theorem dX11_renderMessage_100 : decode cX11_renderMessage 100 = .ok (.invokevirtual 61, 3) := by decide +kernel
theorem dX11_renderMessage_103 : decode cX11_renderMessage 103 = .ok (.invokevirtual 185, 3) := by decide +kernel
theorem dX11_renderMessage_106 : decode cX11_renderMessage 106 = .ok (.aload_n 0, 1) := by decide +kernel
theorem dX11_renderMessage_107 : decode cX11_renderMessage 107 = .ok (.aload_n 0, 1) := by decide +kernel
theorem dX11_renderMessage_108 : decode cX11_renderMessage 108 = .ok (.iload_n 2, 1) := by decide +kernel
theorem dX11_renderMessage_109 : decode cX11_renderMessage 109 = .ok (.iconst 4, 1) := by decide +kernel
theorem dX11_renderMessage_110 : decode cX11_renderMessage 110 = .ok (.invokevirtual 61, 3) := by decide +kernel
theorem dX11_renderMessage_113 : decode cX11_renderMessage 113 = .ok (.invokevirtual 182, 3) := by decide +kernel
theorem dX11_renderMessage_116 : decode cX11_renderMessage 116 = .ok (.aload_n 0, 1) := by decide +kernel
theorem dX11_renderMessage_117 : decode cX11_renderMessage 117 = .ok (.getfield 179, 3) := by decide +kernel
theorem dX11_renderMessage_120 : decode cX11_renderMessage 120 = .ok (.ireturn, 1) := by decide +kernel
theorem dX11_renderCrows_0 : decode cX11_renderCrows 0 = .ok (.aload_n 0, 1) := by decide +kernel
theorem dX11_renderCrows_1 : decode cX11_renderCrows 1 = .ok (.iconst 0, 1) := by decide +kernel
theorem dX11_renderCrows_2 : decode cX11_renderCrows 2 = .ok (.putfield 41, 3) := by decide +kernel
theorem dX11_renderCrows_5 : decode cX11_renderCrows 5 = .ok (.aload_n 0, 1) := by decide +kernel
theorem dX11_renderCrows_6 : decode cX11_renderCrows 6 = .ok (.iconst 0, 1) := by decide +kernel
theorem dX11_renderCrows_7 : decode cX11_renderCrows 7 = .ok (.putfield 179, 3) := by decide +kernel
theorem dX11_renderCrows_10 : decode cX11_renderCrows 10 = .ok (.iconst 0, 1) := by decide +kernel
theorem dX11_renderCrows_11 : decode cX11_renderCrows 11 = .ok (.istore_n 1, 1) := by decide +kernel
theorem dX11_renderCrows_12 : decode cX11_renderCrows 12 = .ok (.iload_n 1, 1) := by decide +kernel
theorem dX11_renderCrows_13 : decode cX11_renderCrows 13 = .ok (.aload_n 0, 1) := by decide +kernel
theorem dX11_renderCrows_14 : decode cX11_renderCrows 14 = .ok (.getfield 7, 3) := by decide +kernel
theorem dX11_renderCrows_17 : decode cX11_renderCrows 17 = .ok (.iconst 1, 1) := by decide +kernel
theorem dX11_renderCrows_18 : decode cX11_renderCrows 18 = .ok (.iaload, 1) := by decide +kernel
theorem dX11_renderCrows_19 : decode cX11_renderCrows 19 = .ok (.if_icmp .ge 53, 3) := by decide +kernel
theorem dX11_renderCrows_22 : decode cX11_renderCrows 22 = .ok (.aload_n 0, 1) := by decide +kernel
theorem dX11_renderCrows_23 : decode cX11_renderCrows 23 = .ok (.aload_n 0, 1) := by decide +kernel
theorem dX11_renderCrows_24 : decode cX11_renderCrows 24 = .ok (.getfield 7, 3) := by decide +kernel
theorem dX11_renderCrows_27 : decode cX11_renderCrows 27 = .ok (.sipush 138, 3) := by decide +kernel
theorem dX11_renderCrows_30 : decode cX11_renderCrows 30 = .ok (.iconst 2, 1) := by decide +kernel
theorem dX11_renderCrows_31 : decode cX11_renderCrows 31 = .ok (.iload_n 1, 1) := by decide +kernel
theorem dX11_renderCrows_32 : decode cX11_renderCrows 32 = .ok (.imul, 1) := by decide +kernel
theorem dX11_renderCrows_33 : decode cX11_renderCrows 33 = .ok (.iadd, 1) := by decide +kernel
theorem dX11_renderCrows_34 : decode cX11_renderCrows 34 = .ok (.iaload, 1) := by decide +kernel
theorem dX11_renderCrows_35 : decode cX11_renderCrows 35 = .ok (.ifCond .ne 8, 3) := by decide +kernel
theorem dX11_renderCrows_38 : decode cX11_renderCrows 38 = .ok (.bipush 46, 2) := by decide +kernel
theorem dX11_renderCrows_40 : decode cX11_renderCrows 40 = .ok (.goto 23, 3) := by decide +kernel
theorem dX11_renderCrows_43 : decode cX11_renderCrows 43 = .ok (.bipush 48, 2) := by decide +kernel
theorem dX11_renderCrows_45 : decode cX11_renderCrows 45 = .ok (.aload_n 0, 1) := by decide +kernel
theorem dX11_renderCrows_46 : decode cX11_renderCrows 46 = .ok (.getfield 7, 3) := by decide +kernel
theorem dX11_renderCrows_49 : decode cX11_renderCrows 49 = .ok (.sipush 138, 3) := by decide +kernel
theorem dX11_renderCrows_52 : decode cX11_renderCrows 52 = .ok (.iconst 2, 1) := by decide +kernel
theorem dX11_renderCrows_53 : decode cX11_renderCrows 53 = .ok (.iload_n 1, 1) := by decide +kernel
theorem dX11_renderCrows_54 : decode cX11_renderCrows 54 = .ok (.imul, 1) := by decide +kernel
theorem dX11_renderCrows_55 : decode cX11_renderCrows 55 = .ok (.iadd, 1) := by decide +kernel
theorem dX11_renderCrows_56 : decode cX11_renderCrows 56 = .ok (.iaload, 1) := by decide +kernel
theorem dX11_renderCrows_57 : decode cX11_renderCrows 57 = .ok (.iconst 1, 1) := by decide +kernel
theorem dX11_renderCrows_58 : decode cX11_renderCrows 58 = .ok (.isub, 1) := by decide +kernel
theorem dX11_renderCrows_59 : decode cX11_renderCrows 59 = .ok (.bipush 10, 2) := by decide +kernel
theorem dX11_renderCrows_61 : decode cX11_renderCrows 61 = .ok (.irem, 1) := by decide +kernel
theorem dX11_renderCrows_62 : decode cX11_renderCrows 62 = .ok (.iadd, 1) := by decide +kernel
theorem dX11_renderCrows_63 : decode cX11_renderCrows 63 = .ok (.invokevirtual 182, 3) := by decide +kernel
theorem dX11_renderCrows_66 : decode cX11_renderCrows 66 = .ok (.iinc 1 1, 3) := by decide +kernel
theorem dX11_renderCrows_69 : decode cX11_renderCrows 69 = .ok (.goto (-57), 3) := by decide +kernel
theorem dX11_renderCrows_72 : decode cX11_renderCrows 72 = .ok (.aload_n 0, 1) := by decide +kernel
theorem dX11_renderCrows_73 : decode cX11_renderCrows 73 = .ok (.getfield 179, 3) := by decide +kernel
theorem dX11_renderCrows_76 : decode cX11_renderCrows 76 = .ok (.ireturn, 1) := by decide +kernel
theorem dX11_outputAt_0 : decode cX11_outputAt 0 = .ok (.aload_n 0, 1) := by decide +kernel
theorem dX11_outputAt_1 : decode cX11_outputAt 1 = .ok (.iload_n 1, 1) := by decide +kernel
theorem dX11_outputAt_2 : decode cX11_outputAt 2 = .ok (.iconst 0, 1) := by decide +kernel
theorem dX11_outputAt_3 : decode cX11_outputAt 3 = .ok (.aload_n 0, 1) := by decide +kernel
theorem dX11_outputAt_4 : decode cX11_outputAt 4 = .ok (.getfield 179, 3) := by decide +kernel
theorem dX11_outputAt_7 : decode cX11_outputAt 7 = .ok (.iconst 1, 1) := by decide +kernel
theorem dX11_outputAt_8 : decode cX11_outputAt 8 = .ok (.isub, 1) := by decide +kernel
theorem dX11_outputAt_9 : decode cX11_outputAt 9 = .ok (.invokestatic 57, 3) := by decide +kernel
theorem dX11_outputAt_12 : decode cX11_outputAt 12 = .ok (.ifCond .eq 7, 3) := by decide +kernel
theorem dX11_outputAt_15 : decode cX11_outputAt 15 = .ok (.iconst 0, 1) := by decide +kernel
theorem dX11_outputAt_16 : decode cX11_outputAt 16 = .ok (.goto 4, 3) := by decide +kernel
theorem dX11_outputAt_19 : decode cX11_outputAt 19 = .ok (.iconst 1, 1) := by decide +kernel
theorem dX11_outputAt_20 : decode cX11_outputAt 20 = .ok (.putfield 41, 3) := by decide +kernel
theorem dX11_outputAt_23 : decode cX11_outputAt 23 = .ok (.aload_n 0, 1) := by decide +kernel
theorem dX11_outputAt_24 : decode cX11_outputAt 24 = .ok (.getfield 41, 3) := by decide +kernel
theorem dX11_outputAt_27 : decode cX11_outputAt 27 = .ok (.ifCond .le 7, 3) := by decide +kernel
theorem dX11_outputAt_30 : decode cX11_outputAt 30 = .ok (.iconst 0, 1) := by decide +kernel
theorem dX11_outputAt_31 : decode cX11_outputAt 31 = .ok (.goto 10, 3) := by decide +kernel
theorem dX11_outputAt_34 : decode cX11_outputAt 34 = .ok (.aload_n 0, 1) := by decide +kernel
theorem dX11_outputAt_35 : decode cX11_outputAt 35 = .ok (.getfield 31, 3) := by decide +kernel
theorem dX11_outputAt_38 : decode cX11_outputAt 38 = .ok (.iload_n 1, 1) := by decide +kernel
theorem dX11_outputAt_39 : decode cX11_outputAt 39 = .ok (.iaload, 1) := by decide +kernel
theorem dX11_outputAt_40 : decode cX11_outputAt 40 = .ok (.i2c, 1) := by decide +kernel
theorem dX11_outputAt_41 : decode cX11_outputAt 41 = .ok (.ireturn, 1) := by decide +kernel
theorem dX11_type_0 : decode cX11_type 0 = .ok (.aload_n 0, 1) := by decide +kernel
theorem dX11_type_1 : decode cX11_type 1 = .ok (.iload_n 1, 1) := by decide +kernel
theorem dX11_type_2 : decode cX11_type 2 = .ok (.bipush 32, 2) := by decide +kernel
theorem dX11_type_4 : decode cX11_type 4 = .ok (.bipush 126, 2) := by decide +kernel
theorem dX11_type_6 : decode cX11_type 6 = .ok (.invokestatic 57, 3) := by decide +kernel
theorem dX11_type_9 : decode cX11_type 9 = .ok (.ifCond .ne 7, 3) := by decide +kernel
theorem dX11_type_12 : decode cX11_type 12 = .ok (.iconst 1, 1) := by decide +kernel
theorem dX11_type_13 : decode cX11_type 13 = .ok (.goto 17, 3) := by decide +kernel
theorem dX11_type_16 : decode cX11_type 16 = .ok (.aload_n 0, 1) := by decide +kernel
theorem dX11_type_17 : decode cX11_type 17 = .ok (.getfield 188, 3) := by decide +kernel
theorem dX11_type_20 : decode cX11_type 20 = .ok (.bipush 60, 2) := by decide +kernel
theorem dX11_type_22 : decode cX11_type 22 = .ok (.if_icmp .ne 7, 3) := by decide +kernel
theorem dX11_type_25 : decode cX11_type 25 = .ok (.iconst 2, 1) := by decide +kernel
theorem dX11_type_26 : decode cX11_type 26 = .ok (.goto 4, 3) := by decide +kernel
theorem dX11_type_29 : decode cX11_type 29 = .ok (.iconst 0, 1) := by decide +kernel
theorem dX11_type_30 : decode cX11_type 30 = .ok (.putfield 41, 3) := by decide +kernel
theorem dX11_type_33 : decode cX11_type 33 = .ok (.aload_n 0, 1) := by decide +kernel
theorem dX11_type_34 : decode cX11_type 34 = .ok (.getfield 41, 3) := by decide +kernel
theorem dX11_type_37 : decode cX11_type 37 = .ok (.ifCond .le 5, 3) := by decide +kernel
theorem dX11_type_40 : decode cX11_type 40 = .ok (.iconst 0, 1) := by decide +kernel
theorem dX11_type_41 : decode cX11_type 41 = .ok (.ireturn, 1) := by decide +kernel
theorem dX11_type_42 : decode cX11_type 42 = .ok (.aload_n 0, 1) := by decide +kernel
theorem dX11_type_43 : decode cX11_type 43 = .ok (.getfield 25, 3) := by decide +kernel
theorem dX11_type_46 : decode cX11_type 46 = .ok (.aload_n 0, 1) := by decide +kernel
theorem dX11_type_47 : decode cX11_type 47 = .ok (.getfield 188, 3) := by decide +kernel
theorem dX11_type_50 : decode cX11_type 50 = .ok (.iload_n 1, 1) := by decide +kernel
theorem dX11_type_51 : decode cX11_type 51 = .ok (.iastore, 1) := by decide +kernel
theorem dX11_type_52 : decode cX11_type 52 = .ok (.aload_n 0, 1) := by decide +kernel
theorem dX11_type_53 : decode cX11_type 53 = .ok (.dup, 1) := by decide +kernel
theorem dX11_type_54 : decode cX11_type 54 = .ok (.getfield 188, 3) := by decide +kernel
theorem dX11_type_57 : decode cX11_type 57 = .ok (.iconst 1, 1) := by decide +kernel
theorem dX11_type_58 : decode cX11_type 58 = .ok (.iadd, 1) := by decide +kernel
theorem dX11_type_59 : decode cX11_type 59 = .ok (.putfield 188, 3) := by decide +kernel
theorem dX11_type_62 : decode cX11_type 62 = .ok (.aload_n 0, 1) := by decide +kernel
theorem dX11_type_63 : decode cX11_type 63 = .ok (.getfield 188, 3) := by decide +kernel
theorem dX11_type_66 : decode cX11_type 66 = .ok (.ireturn, 1) := by decide +kernel
theorem dX11_here_0 : decode cX11_here 0 = .ok (.aload_n 0, 1) := by decide +kernel
theorem dX11_here_1 : decode cX11_here 1 = .ok (.getfield 191, 3) := by decide +kernel
theorem dX11_here_4 : decode cX11_here 4 = .ok (.iload_n 1, 1) := by decide +kernel
theorem dX11_here_5 : decode cX11_here 5 = .ok (.iadd, 1) := by decide +kernel
theorem dX11_here_6 : decode cX11_here 6 = .ok (.aload_n 0, 1) := by decide +kernel
theorem dX11_here_7 : decode cX11_here 7 = .ok (.getfield 194, 3) := by decide +kernel
theorem dX11_here_10 : decode cX11_here 10 = .ok (.if_icmp .ge 17, 3) := by decide +kernel
theorem dX11_here_13 : decode cX11_here 13 = .ok (.aload_n 0, 1) := by decide +kernel
theorem dX11_here_14 : decode cX11_here 14 = .ok (.getfield 25, 3) := by decide +kernel
theorem dX11_here_17 : decode cX11_here 17 = .ok (.aload_n 0, 1) := by decide +kernel
theorem dX11_here_18 : decode cX11_here 18 = .ok (.getfield 191, 3) := by decide +kernel
theorem dX11_here_21 : decode cX11_here 21 = .ok (.iload_n 1, 1) := by decide +kernel
theorem dX11_here_22 : decode cX11_here 22 = .ok (.iadd, 1) := by decide +kernel
theorem dX11_here_23 : decode cX11_here 23 = .ok (.iaload, 1) := by decide +kernel
theorem dX11_here_24 : decode cX11_here 24 = .ok (.goto 4, 3) := by decide +kernel
theorem dX11_here_27 : decode cX11_here 27 = .ok (.iconst (-1), 1) := by decide +kernel
theorem dX11_here_28 : decode cX11_here 28 = .ok (.ireturn, 1) := by decide +kernel
theorem dX11_says_0 : decode cX11_says 0 = .ok (.iconst 0, 1) := by decide +kernel
theorem dX11_says_1 : decode cX11_says 1 = .ok (.istore_n 2, 1) := by decide +kernel
theorem dX11_says_2 : decode cX11_says 2 = .ok (.iload_n 2, 1) := by decide +kernel
theorem dX11_says_3 : decode cX11_says 3 = .ok (.aload_n 1, 1) := by decide +kernel
theorem dX11_says_4 : decode cX11_says 4 = .ok (.invokevirtual 197, 3) := by decide +kernel
theorem dX11_says_7 : decode cX11_says 7 = .ok (.if_icmp .ge 59, 3) := by decide +kernel
theorem dX11_says_10 : decode cX11_says 10 = .ok (.aload_n 0, 1) := by decide +kernel
theorem dX11_says_11 : decode cX11_says 11 = .ok (.getfield 202, 3) := by decide +kernel
theorem dX11_says_14 : decode cX11_says 14 = .ok (.ifCond .ne 52, 3) := by decide +kernel
theorem dX11_says_17 : decode cX11_says 17 = .ok (.aload_n 0, 1) := by decide +kernel
theorem dX11_says_18 : decode cX11_says 18 = .ok (.aload_n 0, 1) := by decide +kernel
theorem dX11_says_19 : decode cX11_says 19 = .ok (.iconst 0, 1) := by decide +kernel
theorem dX11_says_20 : decode cX11_says 20 = .ok (.invokevirtual 206, 3) := by decide +kernel
theorem dX11_says_23 : decode cX11_says 23 = .ok (.aload_n 1, 1) := by decide +kernel
theorem dX11_says_24 : decode cX11_says 24 = .ok (.iload_n 2, 1) := by decide +kernel
theorem dX11_says_25 : decode cX11_says 25 = .ok (.invokevirtual 209, 3) := by decide +kernel
theorem dX11_says_28 : decode cX11_says 28 = .ok (.if_icmp .eq 7, 3) := by decide +kernel
theorem dX11_says_31 : decode cX11_says 31 = .ok (.iconst 1, 1) := by decide +kernel
theorem dX11_says_32 : decode cX11_says 32 = .ok (.goto 4, 3) := by decide +kernel
theorem dX11_says_35 : decode cX11_says 35 = .ok (.iconst 0, 1) := by decide +kernel
theorem dX11_says_36 : decode cX11_says 36 = .ok (.putfield 202, 3) := by decide +kernel
theorem dX11_says_39 : decode cX11_says 39 = .ok (.aload_n 0, 1) := by decide +kernel
theorem dX11_says_40 : decode cX11_says 40 = .ok (.dup, 1) := by decide +kernel
theorem dX11_says_41 : decode cX11_says 41 = .ok (.getfield 191, 3) := by decide +kernel
theorem dX11_says_44 : decode cX11_says 44 = .ok (.aload_n 0, 1) := by decide +kernel
theorem dX11_says_45 : decode cX11_says 45 = .ok (.getfield 202, 3) := by decide +kernel
theorem dX11_says_48 : decode cX11_says 48 = .ok (.ifCond .eq 7, 3) := by decide +kernel
theorem dX11_says_51 : decode cX11_says 51 = .ok (.iconst 0, 1) := by decide +kernel
theorem dX11_says_52 : decode cX11_says 52 = .ok (.goto 4, 3) := by decide +kernel
theorem dX11_says_55 : decode cX11_says 55 = .ok (.iconst 1, 1) := by decide +kernel
theorem dX11_says_56 : decode cX11_says 56 = .ok (.iadd, 1) := by decide +kernel
theorem dX11_says_57 : decode cX11_says 57 = .ok (.putfield 191, 3) := by decide +kernel
theorem dX11_says_60 : decode cX11_says 60 = .ok (.iinc 2 1, 3) := by decide +kernel
theorem dX11_says_63 : decode cX11_says 63 = .ok (.goto (-61), 3) := by decide +kernel
theorem dX11_says_66 : decode cX11_says 66 = .ok (.return_, 1) := by decide +kernel
theorem dX11_number_0 : decode cX11_number 0 = .ok (.aload_n 0, 1) := by decide +kernel
theorem dX11_number_1 : decode cX11_number 1 = .ok (.ldc 213, 2) := by decide +kernel
theorem dX11_number_3 : decode cX11_number 3 = .ok (.invokevirtual 215, 3) := by decide +kernel
theorem dX11_number_6 : decode cX11_number 6 = .ok (.iconst 0, 1) := by decide +kernel
theorem dX11_number_7 : decode cX11_number 7 = .ok (.istore_n 3, 1) := by decide +kernel
theorem dX11_number_8 : decode cX11_number 8 = .ok (.iconst 0, 1) := by decide +kernel
theorem dX11_number_9 : decode cX11_number 9 = .ok (.istore 4, 2) := by decide +kernel
theorem dX11_number_11 : decode cX11_number 11 = .ok (.aload_n 0, 1) := by decide +kernel
theorem dX11_number_12 : decode cX11_number 12 = .ok (.getfield 202, 3) := by decide +kernel
theorem dX11_number_15 : decode cX11_number 15 = .ok (.ifCond .ne 54, 3) := by decide +kernel
theorem dX11_number_18 : decode cX11_number 18 = .ok (.iload 4, 2) := by decide +kernel
theorem dX11_number_20 : decode cX11_number 20 = .ok (.iload_n 2, 1) := by decide +kernel
theorem dX11_number_21 : decode cX11_number 21 = .ok (.if_icmp .ge 48, 3) := by decide +kernel
theorem dX11_number_24 : decode cX11_number 24 = .ok (.aload_n 0, 1) := by decide +kernel
theorem dX11_number_25 : decode cX11_number 25 = .ok (.iconst 0, 1) := by decide +kernel
theorem dX11_number_26 : decode cX11_number 26 = .ok (.invokevirtual 206, 3) := by decide +kernel
theorem dX11_number_29 : decode cX11_number 29 = .ok (.bipush 48, 2) := by decide +kernel
theorem dX11_number_31 : decode cX11_number 31 = .ok (.bipush 57, 2) := by decide +kernel
theorem dX11_number_33 : decode cX11_number 33 = .ok (.invokestatic 57, 3) := by decide +kernel
theorem dX11_number_36 : decode cX11_number 36 = .ok (.ifCond .eq 33, 3) := by decide +kernel
theorem dX11_number_39 : decode cX11_number 39 = .ok (.bipush 10, 2) := by decide +kernel
theorem dX11_number_41 : decode cX11_number 41 = .ok (.iload_n 3, 1) := by decide +kernel
theorem dX11_number_42 : decode cX11_number 42 = .ok (.imul, 1) := by decide +kernel
theorem dX11_number_43 : decode cX11_number 43 = .ok (.aload_n 0, 1) := by decide +kernel
theorem dX11_number_44 : decode cX11_number 44 = .ok (.iconst 0, 1) := by decide +kernel
theorem dX11_number_45 : decode cX11_number 45 = .ok (.invokevirtual 206, 3) := by decide +kernel
theorem dX11_number_48 : decode cX11_number 48 = .ok (.iadd, 1) := by decide +kernel
theorem dX11_number_49 : decode cX11_number 49 = .ok (.bipush 48, 2) := by decide +kernel
theorem dX11_number_51 : decode cX11_number 51 = .ok (.isub, 1) := by decide +kernel
theorem dX11_number_52 : decode cX11_number 52 = .ok (.istore_n 3, 1) := by decide +kernel
theorem dX11_number_53 : decode cX11_number 53 = .ok (.aload_n 0, 1) := by decide +kernel
theorem dX11_number_54 : decode cX11_number 54 = .ok (.dup, 1) := by decide +kernel
theorem dX11_number_55 : decode cX11_number 55 = .ok (.getfield 191, 3) := by decide +kernel
theorem dX11_number_58 : decode cX11_number 58 = .ok (.iconst 1, 1) := by decide +kernel
theorem dX11_number_59 : decode cX11_number 59 = .ok (.iadd, 1) := by decide +kernel
theorem dX11_number_60 : decode cX11_number 60 = .ok (.putfield 191, 3) := by decide +kernel
theorem dX11_number_63 : decode cX11_number 63 = .ok (.iinc 4 1, 3) := by decide +kernel
theorem dX11_number_66 : decode cX11_number 66 = .ok (.goto (-55), 3) := by decide +kernel
theorem dX11_number_69 : decode cX11_number 69 = .ok (.aload_n 0, 1) := by decide +kernel
theorem dX11_number_70 : decode cX11_number 70 = .ok (.aload_n 0, 1) := by decide +kernel
theorem dX11_number_71 : decode cX11_number 71 = .ok (.getfield 202, 3) := by decide +kernel
theorem dX11_number_74 : decode cX11_number 74 = .ok (.ifCond .ne 8, 3) := by decide +kernel
theorem dX11_number_77 : decode cX11_number 77 = .ok (.iload 4, 2) := by decide +kernel
theorem dX11_number_79 : decode cX11_number 79 = .ok (.ifCond .ne 7, 3) := by decide +kernel
theorem dX11_number_82 : decode cX11_number 82 = .ok (.iconst 1, 1) := by decide +kernel
theorem dX11_number_83 : decode cX11_number 83 = .ok (.goto 4, 3) := by decide +kernel
theorem dX11_number_86 : decode cX11_number 86 = .ok (.iconst 0, 1) := by decide +kernel
theorem dX11_number_87 : decode cX11_number 87 = .ok (.putfield 202, 3) := by decide +kernel
theorem dX11_number_90 : decode cX11_number 90 = .ok (.aload_n 0, 1) := by decide +kernel
theorem dX11_number_91 : decode cX11_number 91 = .ok (.getfield 28, 3) := by decide +kernel
theorem dX11_number_94 : decode cX11_number 94 = .ok (.iconst 3, 1) := by decide +kernel
theorem dX11_number_95 : decode cX11_number 95 = .ok (.aload_n 0, 1) := by decide +kernel
theorem dX11_number_96 : decode cX11_number 96 = .ok (.getfield 219, 3) := by decide +kernel
theorem dX11_number_99 : decode cX11_number 99 = .ok (.imul, 1) := by decide +kernel
theorem dX11_number_100 : decode cX11_number 100 = .ok (.iload_n 1, 1) := by decide +kernel
theorem dX11_number_101 : decode cX11_number 101 = .ok (.iadd, 1) := by decide +kernel
theorem dX11_number_102 : decode cX11_number 102 = .ok (.iload_n 3, 1) := by decide +kernel
theorem dX11_number_103 : decode cX11_number 103 = .ok (.iastore, 1) := by decide +kernel
theorem dX11_number_104 : decode cX11_number 104 = .ok (.return_, 1) := by decide +kernel
theorem dX11_one_0 : decode cX11_one 0 = .ok (.aload_n 0, 1) := by decide +kernel
theorem dX11_one_1 : decode cX11_one 1 = .ok (.getfield 28, 3) := by decide +kernel
theorem dX11_one_4 : decode cX11_one 4 = .ok (.iconst 3, 1) := by decide +kernel
theorem dX11_one_5 : decode cX11_one 5 = .ok (.aload_n 0, 1) := by decide +kernel
theorem dX11_one_6 : decode cX11_one 6 = .ok (.getfield 219, 3) := by decide +kernel
theorem dX11_one_9 : decode cX11_one 9 = .ok (.imul, 1) := by decide +kernel
theorem dX11_one_10 : decode cX11_one 10 = .ok (.iload_n 1, 1) := by decide +kernel
theorem dX11_one_11 : decode cX11_one 11 = .ok (.iastore, 1) := by decide +kernel
theorem dX11_one_12 : decode cX11_one 12 = .ok (.aload_n 0, 1) := by decide +kernel
theorem dX11_one_13 : decode cX11_one 13 = .ok (.getfield 28, 3) := by decide +kernel
theorem dX11_one_16 : decode cX11_one 16 = .ok (.iconst 3, 1) := by decide +kernel
theorem dX11_one_17 : decode cX11_one 17 = .ok (.aload_n 0, 1) := by decide +kernel
theorem dX11_one_18 : decode cX11_one 18 = .ok (.getfield 219, 3) := by decide +kernel
theorem dX11_one_21 : decode cX11_one 21 = .ok (.imul, 1) := by decide +kernel
theorem dX11_one_22 : decode cX11_one 22 = .ok (.iconst 1, 1) := by decide +kernel
theorem dX11_one_23 : decode cX11_one 23 = .ok (.iadd, 1) := by decide +kernel
theorem dX11_one_24 : decode cX11_one 24 = .ok (.iconst 1, 1) := by decide +kernel
theorem dX11_one_25 : decode cX11_one 25 = .ok (.iastore, 1) := by decide +kernel
theorem dX11_one_26 : decode cX11_one 26 = .ok (.aload_n 0, 1) := by decide +kernel
theorem dX11_one_27 : decode cX11_one 27 = .ok (.aload_n 2, 1) := by decide +kernel
theorem dX11_one_28 : decode cX11_one 28 = .ok (.invokevirtual 215, 3) := by decide +kernel
theorem dX11_one_31 : decode cX11_one 31 = .ok (.iload_n 3, 1) := by decide +kernel
theorem dX11_one_32 : decode cX11_one 32 = .ok (.ifCond .le 9, 3) := by decide +kernel
theorem dX11_one_35 : decode cX11_one 35 = .ok (.aload_n 0, 1) := by decide +kernel
theorem dX11_one_36 : decode cX11_one 36 = .ok (.iconst 1, 1) := by decide +kernel
theorem dX11_one_37 : decode cX11_one 37 = .ok (.iload_n 3, 1) := by decide +kernel
theorem dX11_one_38 : decode cX11_one 38 = .ok (.invokevirtual 222, 3) := by decide +kernel
theorem dX11_one_41 : decode cX11_one 41 = .ok (.iload 4, 2) := by decide +kernel
theorem dX11_one_43 : decode cX11_one 43 = .ok (.ifCond .le 10, 3) := by decide +kernel
theorem dX11_one_46 : decode cX11_one 46 = .ok (.aload_n 0, 1) := by decide +kernel
theorem dX11_one_47 : decode cX11_one 47 = .ok (.iconst 2, 1) := by decide +kernel
theorem dX11_one_48 : decode cX11_one 48 = .ok (.iload 4, 2) := by decide +kernel
theorem dX11_one_50 : decode cX11_one 50 = .ok (.invokevirtual 222, 3) := by decide +kernel
theorem dX11_one_53 : decode cX11_one 53 = .ok (.return_, 1) := by decide +kernel
theorem dX11_readsOne_0 : decode cX11_readsOne 0 = .ok (.aload_n 0, 1) := by decide +kernel
theorem dX11_readsOne_1 : decode cX11_readsOne 1 = .ok (.iconst 0, 1) := by decide +kernel
theorem dX11_readsOne_2 : decode cX11_readsOne 2 = .ok (.invokevirtual 206, 3) := by decide +kernel
theorem dX11_readsOne_5 : decode cX11_readsOne 5 = .ok (.tableswitch 236 99 119 #[112, 151, 236, 164, 236, 236, 236, 236, 236, 236, 236, 99, 236, 236, 236, 138, 125, 236, 236, 236, 177], 99) := by decide +kernel
theorem dX11_readsOne_104 : decode cX11_readsOne 104 = .ok (.aload_n 0, 1) := by decide +kernel
theorem dX11_readsOne_105 : decode cX11_readsOne 105 = .ok (.bipush 110, 2) := by decide +kernel
theorem dX11_readsOne_107 : decode cX11_readsOne 107 = .ok (.ldc 225, 2) := by decide +kernel
theorem dX11_readsOne_109 : decode cX11_readsOne 109 = .ok (.iconst 1, 1) := by decide +kernel
theorem dX11_readsOne_110 : decode cX11_readsOne 110 = .ok (.iconst 1, 1) := by decide +kernel
theorem dX11_readsOne_111 : decode cX11_readsOne 111 = .ok (.invokevirtual 226, 3) := by decide +kernel
theorem dX11_readsOne_114 : decode cX11_readsOne 114 = .ok (.goto 132, 3) := by decide +kernel
theorem dX11_readsOne_117 : decode cX11_readsOne 117 = .ok (.aload_n 0, 1) := by decide +kernel
theorem dX11_readsOne_118 : decode cX11_readsOne 118 = .ok (.bipush 99, 2) := by decide +kernel
theorem dX11_readsOne_120 : decode cX11_readsOne 120 = .ok (.ldc 230, 2) := by decide +kernel
theorem dX11_readsOne_122 : decode cX11_readsOne 122 = .ok (.iconst 0, 1) := by decide +kernel
theorem dX11_readsOne_123 : decode cX11_readsOne 123 = .ok (.iconst 0, 1) := by decide +kernel
theorem dX11_readsOne_124 : decode cX11_readsOne 124 = .ok (.invokevirtual 226, 3) := by decide +kernel
theorem dX11_readsOne_127 : decode cX11_readsOne 127 = .ok (.goto 119, 3) := by decide +kernel
theorem dX11_readsOne_130 : decode cX11_readsOne 130 = .ok (.aload_n 0, 1) := by decide +kernel
theorem dX11_readsOne_131 : decode cX11_readsOne 131 = .ok (.bipush 115, 2) := by decide +kernel
theorem dX11_readsOne_133 : decode cX11_readsOne 133 = .ok (.ldc 232, 2) := by decide +kernel
theorem dX11_readsOne_135 : decode cX11_readsOne 135 = .ok (.iconst 1, 1) := by decide +kernel
theorem dX11_readsOne_136 : decode cX11_readsOne 136 = .ok (.iconst 3, 1) := by decide +kernel
theorem dX11_readsOne_137 : decode cX11_readsOne 137 = .ok (.invokevirtual 226, 3) := by decide +kernel
theorem dX11_readsOne_140 : decode cX11_readsOne 140 = .ok (.goto 106, 3) := by decide +kernel
theorem dX11_readsOne_143 : decode cX11_readsOne 143 = .ok (.aload_n 0, 1) := by decide +kernel
theorem dX11_readsOne_144 : decode cX11_readsOne 144 = .ok (.bipush 114, 2) := by decide +kernel
theorem dX11_readsOne_146 : decode cX11_readsOne 146 = .ok (.ldc 234, 2) := by decide +kernel
theorem dX11_readsOne_148 : decode cX11_readsOne 148 = .ok (.iconst 1, 1) := by decide +kernel
theorem dX11_readsOne_149 : decode cX11_readsOne 149 = .ok (.iconst 0, 1) := by decide +kernel
theorem dX11_readsOne_150 : decode cX11_readsOne 150 = .ok (.invokevirtual 226, 3) := by decide +kernel
theorem dX11_readsOne_153 : decode cX11_readsOne 153 = .ok (.goto 93, 3) := by decide +kernel
theorem dX11_readsOne_156 : decode cX11_readsOne 156 = .ok (.aload_n 0, 1) := by decide +kernel
theorem dX11_readsOne_157 : decode cX11_readsOne 157 = .ok (.bipush 100, 2) := by decide +kernel
theorem dX11_readsOne_159 : decode cX11_readsOne 159 = .ok (.ldc 236, 2) := by decide +kernel
theorem dX11_readsOne_161 : decode cX11_readsOne 161 = .ok (.iconst 3, 1) := by decide +kernel
theorem dX11_readsOne_162 : decode cX11_readsOne 162 = .ok (.iconst 0, 1) := by decide +kernel
theorem dX11_readsOne_163 : decode cX11_readsOne 163 = .ok (.invokevirtual 226, 3) := by decide +kernel
theorem dX11_readsOne_166 : decode cX11_readsOne 166 = .ok (.goto 80, 3) := by decide +kernel
theorem dX11_readsOne_169 : decode cX11_readsOne 169 = .ok (.aload_n 0, 1) := by decide +kernel
theorem dX11_readsOne_170 : decode cX11_readsOne 170 = .ok (.bipush 102, 2) := by decide +kernel
theorem dX11_readsOne_172 : decode cX11_readsOne 172 = .ok (.ldc 238, 2) := by decide +kernel
theorem dX11_readsOne_174 : decode cX11_readsOne 174 = .ok (.iconst 1, 1) := by decide +kernel
theorem dX11_readsOne_175 : decode cX11_readsOne 175 = .ok (.iconst 0, 1) := by decide +kernel
theorem dX11_readsOne_176 : decode cX11_readsOne 176 = .ok (.invokevirtual 226, 3) := by decide +kernel
theorem dX11_readsOne_179 : decode cX11_readsOne 179 = .ok (.goto 67, 3) := by decide +kernel
theorem dX11_readsOne_182 : decode cX11_readsOne 182 = .ok (.aload_n 0, 1) := by decide +kernel
theorem dX11_readsOne_183 : decode cX11_readsOne 183 = .ok (.iconst 1, 1) := by decide +kernel
theorem dX11_readsOne_184 : decode cX11_readsOne 184 = .ok (.invokevirtual 206, 3) := by decide +kernel
theorem dX11_readsOne_187 : decode cX11_readsOne 187 = .ok (.bipush 97, 2) := by decide +kernel
theorem dX11_readsOne_189 : decode cX11_readsOne 189 = .ok (.if_icmp .ne 39, 3) := by decide +kernel
theorem dX11_readsOne_192 : decode cX11_readsOne 192 = .ok (.aload_n 0, 1) := by decide +kernel
theorem dX11_readsOne_193 : decode cX11_readsOne 193 = .ok (.bipush 97, 2) := by decide +kernel
theorem dX11_readsOne_195 : decode cX11_readsOne 195 = .ok (.ldc 240, 2) := by decide +kernel
theorem dX11_readsOne_197 : decode cX11_readsOne 197 = .ok (.iconst 0, 1) := by decide +kernel
theorem dX11_readsOne_198 : decode cX11_readsOne 198 = .ok (.iconst 0, 1) := by decide +kernel
theorem dX11_readsOne_199 : decode cX11_readsOne 199 = .ok (.invokevirtual 226, 3) := by decide +kernel
theorem dX11_readsOne_202 : decode cX11_readsOne 202 = .ok (.aload_n 0, 1) := by decide +kernel
theorem dX11_readsOne_203 : decode cX11_readsOne 203 = .ok (.getfield 202, 3) := by decide +kernel
theorem dX11_readsOne_206 : decode cX11_readsOne 206 = .ok (.ifCond .ne 40, 3) := by decide +kernel
theorem dX11_readsOne_209 : decode cX11_readsOne 209 = .ok (.aload_n 0, 1) := by decide +kernel
theorem dX11_readsOne_210 : decode cX11_readsOne 210 = .ok (.iconst 0, 1) := by decide +kernel
theorem dX11_readsOne_211 : decode cX11_readsOne 211 = .ok (.invokevirtual 206, 3) := by decide +kernel
theorem dX11_readsOne_214 : decode cX11_readsOne 214 = .ok (.bipush 32, 2) := by decide +kernel
theorem dX11_readsOne_216 : decode cX11_readsOne 216 = .ok (.if_icmp .ne 30, 3) := by decide +kernel
theorem dX11_readsOne_219 : decode cX11_readsOne 219 = .ok (.aload_n 0, 1) := by decide +kernel
theorem dX11_readsOne_220 : decode cX11_readsOne 220 = .ok (.iconst 1, 1) := by decide +kernel
theorem dX11_readsOne_221 : decode cX11_readsOne 221 = .ok (.iconst 3, 1) := by decide +kernel
theorem dX11_readsOne_222 : decode cX11_readsOne 222 = .ok (.invokevirtual 222, 3) := by decide +kernel
theorem dX11_readsOne_225 : decode cX11_readsOne 225 = .ok (.goto 21, 3) := by decide +kernel
theorem dX11_readsOne_228 : decode cX11_readsOne 228 = .ok (.aload_n 0, 1) := by decide +kernel
theorem dX11_readsOne_229 : decode cX11_readsOne 229 = .ok (.bipush 119, 2) := by decide +kernel
theorem dX11_readsOne_231 : decode cX11_readsOne 231 = .ok (.ldc 242, 2) := by decide +kernel
theorem dX11_readsOne_233 : decode cX11_readsOne 233 = .ok (.iconst 1, 1) := by decide +kernel
theorem dX11_readsOne_234 : decode cX11_readsOne 234 = .ok (.iconst 0, 1) := by decide +kernel
theorem dX11_readsOne_235 : decode cX11_readsOne 235 = .ok (.invokevirtual 226, 3) := by decide +kernel
theorem dX11_readsOne_238 : decode cX11_readsOne 238 = .ok (.goto 8, 3) := by decide +kernel
theorem dX11_readsOne_241 : decode cX11_readsOne 241 = .ok (.aload_n 0, 1) := by decide +kernel
theorem dX11_readsOne_242 : decode cX11_readsOne 242 = .ok (.iconst 1, 1) := by decide +kernel
theorem dX11_readsOne_243 : decode cX11_readsOne 243 = .ok (.putfield 202, 3) := by decide +kernel
theorem dX11_readsOne_246 : decode cX11_readsOne 246 = .ok (.aload_n 0, 1) := by decide +kernel
theorem dX11_readsOne_247 : decode cX11_readsOne 247 = .ok (.dup, 1) := by decide +kernel
theorem dX11_readsOne_248 : decode cX11_readsOne 248 = .ok (.getfield 219, 3) := by decide +kernel
theorem dX11_readsOne_251 : decode cX11_readsOne 251 = .ok (.iconst 1, 1) := by decide +kernel
theorem dX11_readsOne_252 : decode cX11_readsOne 252 = .ok (.iadd, 1) := by decide +kernel
theorem dX11_readsOne_253 : decode cX11_readsOne 253 = .ok (.putfield 219, 3) := by decide +kernel
theorem dX11_readsOne_256 : decode cX11_readsOne 256 = .ok (.return_, 1) := by decide +kernel
theorem dX11_does_0 : decode cX11_does 0 = .ok (.aload_n 0, 1) := by decide +kernel
theorem dX11_does_1 : decode cX11_does 1 = .ok (.getfield 28, 3) := by decide +kernel
theorem dX11_does_4 : decode cX11_does 4 = .ok (.iconst 3, 1) := by decide +kernel
theorem dX11_does_5 : decode cX11_does 5 = .ok (.iload_n 1, 1) := by decide +kernel
theorem dX11_does_6 : decode cX11_does 6 = .ok (.imul, 1) := by decide +kernel
theorem dX11_does_7 : decode cX11_does 7 = .ok (.iconst 1, 1) := by decide +kernel
theorem dX11_does_8 : decode cX11_does 8 = .ok (.iadd, 1) := by decide +kernel
theorem dX11_does_9 : decode cX11_does 9 = .ok (.iaload, 1) := by decide +kernel
theorem dX11_does_10 : decode cX11_does 10 = .ok (.istore_n 2, 1) := by decide +kernel
theorem dX11_does_11 : decode cX11_does 11 = .ok (.aload_n 0, 1) := by decide +kernel
theorem dX11_does_12 : decode cX11_does 12 = .ok (.getfield 28, 3) := by decide +kernel
theorem dX11_does_15 : decode cX11_does 15 = .ok (.iconst 3, 1) := by decide +kernel
theorem dX11_does_16 : decode cX11_does 16 = .ok (.iload_n 1, 1) := by decide +kernel
theorem dX11_does_17 : decode cX11_does 17 = .ok (.imul, 1) := by decide +kernel
theorem dX11_does_18 : decode cX11_does 18 = .ok (.iconst 2, 1) := by decide +kernel
theorem dX11_does_19 : decode cX11_does 19 = .ok (.iadd, 1) := by decide +kernel
theorem dX11_does_20 : decode cX11_does 20 = .ok (.iaload, 1) := by decide +kernel
theorem dX11_does_21 : decode cX11_does 21 = .ok (.istore_n 3, 1) := by decide +kernel
theorem dX11_does_22 : decode cX11_does 22 = .ok (.aload_n 0, 1) := by decide +kernel
theorem dX11_does_23 : decode cX11_does 23 = .ok (.getfield 28, 3) := by decide +kernel
theorem dX11_does_26 : decode cX11_does 26 = .ok (.iconst 3, 1) := by decide +kernel
theorem dX11_does_27 : decode cX11_does 27 = .ok (.iload_n 1, 1) := by decide +kernel
theorem dX11_does_28 : decode cX11_does 28 = .ok (.imul, 1) := by decide +kernel
theorem dX11_does_29 : decode cX11_does 29 = .ok (.iaload, 1) := by decide +kernel
theorem dX11_does_30 : decode cX11_does 30 = .ok (.tableswitch 141 99 119 #[105, 123, 141, 129, 141, 141, 141, 141, 141, 141, 141, 98, 141, 141, 141, 117, 110, 141, 141, 141, 135], 98) := by decide +kernel
theorem dX11_does_128 : decode cX11_does 128 = .ok (.aload_n 0, 1) := by decide +kernel
theorem dX11_does_129 : decode cX11_does 129 = .ok (.iload_n 2, 1) := by decide +kernel
theorem dX11_does_130 : decode cX11_does 130 = .ok (.iload_n 3, 1) := by decide +kernel
theorem dX11_does_131 : decode cX11_does 131 = .ok (.invokevirtual 112, 3) := by decide +kernel
theorem dX11_does_134 : decode cX11_does 134 = .ok (.ireturn, 1) := by decide +kernel
theorem dX11_does_135 : decode cX11_does 135 = .ok (.aload_n 0, 1) := by decide +kernel
theorem dX11_does_136 : decode cX11_does 136 = .ok (.invokevirtual 118, 3) := by decide +kernel
theorem dX11_does_139 : decode cX11_does 139 = .ok (.ireturn, 1) := by decide +kernel
theorem dX11_does_140 : decode cX11_does 140 = .ok (.aload_n 0, 1) := by decide +kernel
theorem dX11_does_141 : decode cX11_does 141 = .ok (.iload_n 2, 1) := by decide +kernel
theorem dX11_does_142 : decode cX11_does 142 = .ok (.iload_n 3, 1) := by decide +kernel
theorem dX11_does_143 : decode cX11_does 143 = .ok (.invokevirtual 122, 3) := by decide +kernel
theorem dX11_does_146 : decode cX11_does 146 = .ok (.ireturn, 1) := by decide +kernel
theorem dX11_does_147 : decode cX11_does 147 = .ok (.aload_n 0, 1) := by decide +kernel
theorem dX11_does_148 : decode cX11_does 148 = .ok (.iload_n 2, 1) := by decide +kernel
theorem dX11_does_149 : decode cX11_does 149 = .ok (.invokevirtual 125, 3) := by decide +kernel
theorem dX11_does_152 : decode cX11_does 152 = .ok (.ireturn, 1) := by decide +kernel
theorem dX11_does_153 : decode cX11_does 153 = .ok (.aload_n 0, 1) := by decide +kernel
theorem dX11_does_154 : decode cX11_does 154 = .ok (.iload_n 2, 1) := by decide +kernel
theorem dX11_does_155 : decode cX11_does 155 = .ok (.invokevirtual 128, 3) := by decide +kernel
theorem dX11_does_158 : decode cX11_does 158 = .ok (.ireturn, 1) := by decide +kernel
theorem dX11_does_159 : decode cX11_does 159 = .ok (.aload_n 0, 1) := by decide +kernel
theorem dX11_does_160 : decode cX11_does 160 = .ok (.iload_n 2, 1) := by decide +kernel
theorem dX11_does_161 : decode cX11_does 161 = .ok (.invokevirtual 134, 3) := by decide +kernel
theorem dX11_does_164 : decode cX11_does 164 = .ok (.ireturn, 1) := by decide +kernel
theorem dX11_does_165 : decode cX11_does 165 = .ok (.aload_n 0, 1) := by decide +kernel
theorem dX11_does_166 : decode cX11_does 166 = .ok (.iload_n 2, 1) := by decide +kernel
theorem dX11_does_167 : decode cX11_does 167 = .ok (.invokevirtual 131, 3) := by decide +kernel
theorem dX11_does_170 : decode cX11_does 170 = .ok (.ireturn, 1) := by decide +kernel
theorem dX11_does_171 : decode cX11_does 171 = .ok (.aload_n 0, 1) := by decide +kernel
theorem dX11_does_172 : decode cX11_does 172 = .ok (.iload_n 2, 1) := by decide +kernel
theorem dX11_does_173 : decode cX11_does 173 = .ok (.invokevirtual 137, 3) := by decide +kernel
theorem dX11_does_176 : decode cX11_does 176 = .ok (.ireturn, 1) := by decide +kernel
theorem dX11_runScript_0 : decode cX11_runScript 0 = .ok (.aload_n 0, 1) := by decide +kernel
theorem dX11_runScript_1 : decode cX11_runScript 1 = .ok (.invokevirtual 109, 3) := by decide +kernel
theorem dX11_runScript_4 : decode cX11_runScript 4 = .ok (.aload_n 0, 1) := by decide +kernel
theorem dX11_runScript_5 : decode cX11_runScript 5 = .ok (.iconst 0, 1) := by decide +kernel
theorem dX11_runScript_6 : decode cX11_runScript 6 = .ok (.putfield 191, 3) := by decide +kernel
theorem dX11_runScript_9 : decode cX11_runScript 9 = .ok (.aload_n 0, 1) := by decide +kernel
theorem dX11_runScript_10 : decode cX11_runScript 10 = .ok (.aload_n 0, 1) := by decide +kernel
theorem dX11_runScript_11 : decode cX11_runScript 11 = .ok (.getfield 188, 3) := by decide +kernel
theorem dX11_runScript_14 : decode cX11_runScript 14 = .ok (.putfield 194, 3) := by decide +kernel
theorem dX11_runScript_17 : decode cX11_runScript 17 = .ok (.aload_n 0, 1) := by decide +kernel
theorem dX11_runScript_18 : decode cX11_runScript 18 = .ok (.iconst 0, 1) := by decide +kernel
theorem dX11_runScript_19 : decode cX11_runScript 19 = .ok (.putfield 188, 3) := by decide +kernel
theorem dX11_runScript_22 : decode cX11_runScript 22 = .ok (.aload_n 0, 1) := by decide +kernel
theorem dX11_runScript_23 : decode cX11_runScript 23 = .ok (.iconst 0, 1) := by decide +kernel
theorem dX11_runScript_24 : decode cX11_runScript 24 = .ok (.putfield 219, 3) := by decide +kernel
theorem dX11_runScript_27 : decode cX11_runScript 27 = .ok (.aload_n 0, 1) := by decide +kernel
theorem dX11_runScript_28 : decode cX11_runScript 28 = .ok (.iconst 0, 1) := by decide +kernel
theorem dX11_runScript_29 : decode cX11_runScript 29 = .ok (.putfield 202, 3) := by decide +kernel
theorem dX11_runScript_32 : decode cX11_runScript 32 = .ok (.aload_n 0, 1) := by decide +kernel
theorem dX11_runScript_33 : decode cX11_runScript 33 = .ok (.invokevirtual 244, 3) := by decide +kernel
theorem dX11_runScript_36 : decode cX11_runScript 36 = .ok (.aload_n 0, 1) := by decide +kernel
theorem dX11_runScript_37 : decode cX11_runScript 37 = .ok (.getfield 202, 3) := by decide +kernel
theorem dX11_runScript_40 : decode cX11_runScript 40 = .ok (.ifCond .ne 30, 3) := by decide +kernel
theorem dX11_runScript_43 : decode cX11_runScript 43 = .ok (.aload_n 0, 1) := by decide +kernel
theorem dX11_runScript_44 : decode cX11_runScript 44 = .ok (.iconst 0, 1) := by decide +kernel
theorem dX11_runScript_45 : decode cX11_runScript 45 = .ok (.invokevirtual 206, 3) := by decide +kernel
theorem dX11_runScript_48 : decode cX11_runScript 48 = .ok (.bipush 59, 2) := by decide +kernel
theorem dX11_runScript_50 : decode cX11_runScript 50 = .ok (.if_icmp .ne 20, 3) := by decide +kernel
theorem dX11_runScript_53 : decode cX11_runScript 53 = .ok (.aload_n 0, 1) := by decide +kernel
theorem dX11_runScript_54 : decode cX11_runScript 54 = .ok (.dup, 1) := by decide +kernel
theorem dX11_runScript_55 : decode cX11_runScript 55 = .ok (.getfield 191, 3) := by decide +kernel
theorem dX11_runScript_58 : decode cX11_runScript 58 = .ok (.iconst 1, 1) := by decide +kernel
theorem dX11_runScript_59 : decode cX11_runScript 59 = .ok (.iadd, 1) := by decide +kernel
theorem dX11_runScript_60 : decode cX11_runScript 60 = .ok (.putfield 191, 3) := by decide +kernel
theorem dX11_runScript_63 : decode cX11_runScript 63 = .ok (.aload_n 0, 1) := by decide +kernel
theorem dX11_runScript_64 : decode cX11_runScript 64 = .ok (.invokevirtual 244, 3) := by decide +kernel
theorem dX11_runScript_67 : decode cX11_runScript 67 = .ok (.goto (-31), 3) := by decide +kernel
theorem dX11_runScript_70 : decode cX11_runScript 70 = .ok (.aload_n 0, 1) := by decide +kernel
theorem dX11_runScript_71 : decode cX11_runScript 71 = .ok (.getfield 202, 3) := by decide +kernel
theorem dX11_runScript_74 : decode cX11_runScript 74 = .ok (.ifCond .ne 14, 3) := by decide +kernel
theorem dX11_runScript_77 : decode cX11_runScript 77 = .ok (.aload_n 0, 1) := by decide +kernel
theorem dX11_runScript_78 : decode cX11_runScript 78 = .ok (.getfield 191, 3) := by decide +kernel
theorem dX11_runScript_81 : decode cX11_runScript 81 = .ok (.aload_n 0, 1) := by decide +kernel
theorem dX11_runScript_82 : decode cX11_runScript 82 = .ok (.getfield 194, 3) := by decide +kernel
theorem dX11_runScript_85 : decode cX11_runScript 85 = .ok (.if_icmp .ge 17, 3) := by decide +kernel
theorem dX11_runScript_88 : decode cX11_runScript 88 = .ok (.aload_n 0, 1) := by decide +kernel
theorem dX11_runScript_89 : decode cX11_runScript 89 = .ok (.aload_n 0, 1) := by decide +kernel
theorem dX11_runScript_90 : decode cX11_runScript 90 = .ok (.getfield 191, 3) := by decide +kernel
theorem dX11_runScript_93 : decode cX11_runScript 93 = .ok (.putfield 34, 3) := by decide +kernel
theorem dX11_runScript_96 : decode cX11_runScript 96 = .ok (.aload_n 0, 1) := by decide +kernel
theorem dX11_runScript_97 : decode cX11_runScript 97 = .ok (.iconst 1, 1) := by decide +kernel
theorem dX11_runScript_98 : decode cX11_runScript 98 = .ok (.invokevirtual 54, 3) := by decide +kernel
theorem dX11_runScript_101 : decode cX11_runScript 101 = .ok (.ireturn, 1) := by decide +kernel
theorem dX11_runScript_102 : decode cX11_runScript 102 = .ok (.iconst 0, 1) := by decide +kernel
theorem dX11_runScript_103 : decode cX11_runScript 103 = .ok (.istore_n 1, 1) := by decide +kernel
theorem dX11_runScript_104 : decode cX11_runScript 104 = .ok (.iload_n 1, 1) := by decide +kernel
theorem dX11_runScript_105 : decode cX11_runScript 105 = .ok (.aload_n 0, 1) := by decide +kernel
theorem dX11_runScript_106 : decode cX11_runScript 106 = .ok (.getfield 219, 3) := by decide +kernel
theorem dX11_runScript_109 : decode cX11_runScript 109 = .ok (.if_icmp .ge 58, 3) := by decide +kernel
theorem dX11_runScript_112 : decode cX11_runScript 112 = .ok (.aload_n 0, 1) := by decide +kernel
theorem dX11_runScript_113 : decode cX11_runScript 113 = .ok (.iload_n 1, 1) := by decide +kernel
theorem dX11_runScript_114 : decode cX11_runScript 114 = .ok (.invokevirtual 247, 3) := by decide +kernel
theorem dX11_runScript_117 : decode cX11_runScript 117 = .ok (.ifCond .ne 6, 3) := by decide +kernel
theorem dX11_runScript_120 : decode cX11_runScript 120 = .ok (.goto 41, 3) := by decide +kernel
theorem dX11_runScript_123 : decode cX11_runScript 123 = .ok (.iconst 0, 1) := by decide +kernel
theorem dX11_runScript_124 : decode cX11_runScript 124 = .ok (.istore_n 2, 1) := by decide +kernel
theorem dX11_runScript_125 : decode cX11_runScript 125 = .ok (.iload_n 2, 1) := by decide +kernel
theorem dX11_runScript_126 : decode cX11_runScript 126 = .ok (.sipush 258, 3) := by decide +kernel
theorem dX11_runScript_129 : decode cX11_runScript 129 = .ok (.if_icmp .ge 21, 3) := by decide +kernel
theorem dX11_runScript_132 : decode cX11_runScript 132 = .ok (.aload_n 0, 1) := by decide +kernel
theorem dX11_runScript_133 : decode cX11_runScript 133 = .ok (.getfield 7, 3) := by decide +kernel
theorem dX11_runScript_136 : decode cX11_runScript 136 = .ok (.iload_n 2, 1) := by decide +kernel
theorem dX11_runScript_137 : decode cX11_runScript 137 = .ok (.aload_n 0, 1) := by decide +kernel
theorem dX11_runScript_138 : decode cX11_runScript 138 = .ok (.getfield 13, 3) := by decide +kernel
theorem dX11_runScript_141 : decode cX11_runScript 141 = .ok (.iload_n 2, 1) := by decide +kernel
theorem dX11_runScript_142 : decode cX11_runScript 142 = .ok (.iaload, 1) := by decide +kernel
theorem dX11_runScript_143 : decode cX11_runScript 143 = .ok (.iastore, 1) := by decide +kernel
theorem dX11_runScript_144 : decode cX11_runScript 144 = .ok (.iinc 2 1, 3) := by decide +kernel
theorem dX11_runScript_147 : decode cX11_runScript 147 = .ok (.goto (-22), 3) := by decide +kernel
theorem dX11_runScript_150 : decode cX11_runScript 150 = .ok (.aload_n 0, 1) := by decide +kernel
theorem dX11_runScript_151 : decode cX11_runScript 151 = .ok (.iload_n 1, 1) := by decide +kernel
theorem dX11_runScript_152 : decode cX11_runScript 152 = .ok (.putfield 38, 3) := by decide +kernel
theorem dX11_runScript_155 : decode cX11_runScript 155 = .ok (.aload_n 0, 1) := by decide +kernel
theorem dX11_runScript_156 : decode cX11_runScript 156 = .ok (.iconst 2, 1) := by decide +kernel
theorem dX11_runScript_157 : decode cX11_runScript 157 = .ok (.invokevirtual 54, 3) := by decide +kernel
theorem dX11_runScript_160 : decode cX11_runScript 160 = .ok (.ireturn, 1) := by decide +kernel
theorem dX11_runScript_161 : decode cX11_runScript 161 = .ok (.iinc 1 1, 3) := by decide +kernel
theorem dX11_runScript_164 : decode cX11_runScript 164 = .ok (.goto (-60), 3) := by decide +kernel
theorem dX11_runScript_167 : decode cX11_runScript 167 = .ok (.aload_n 0, 1) := by decide +kernel
theorem dX11_runScript_168 : decode cX11_runScript 168 = .ok (.aload_n 0, 1) := by decide +kernel
theorem dX11_runScript_169 : decode cX11_runScript 169 = .ok (.getfield 219, 3) := by decide +kernel
theorem dX11_runScript_172 : decode cX11_runScript 172 = .ok (.invokevirtual 50, 3) := by decide +kernel
theorem dX11_runScript_175 : decode cX11_runScript 175 = .ok (.ireturn, 1) := by decide +kernel
theorem dX11_errorPosition_0 : decode cX11_errorPosition 0 = .ok (.aload_n 0, 1) := by decide +kernel
theorem dX11_errorPosition_1 : decode cX11_errorPosition 1 = .ok (.iconst 0, 1) := by decide +kernel
theorem dX11_errorPosition_2 : decode cX11_errorPosition 2 = .ok (.putfield 41, 3) := by decide +kernel
theorem dX11_errorPosition_5 : decode cX11_errorPosition 5 = .ok (.aload_n 0, 1) := by decide +kernel
theorem dX11_errorPosition_6 : decode cX11_errorPosition 6 = .ok (.getfield 34, 3) := by decide +kernel
theorem dX11_errorPosition_9 : decode cX11_errorPosition 9 = .ok (.iconst (-1), 1) := by decide +kernel
theorem dX11_errorPosition_10 : decode cX11_errorPosition 10 = .ok (.if_icmp .ne 11, 3) := by decide +kernel
theorem dX11_errorPosition_13 : decode cX11_errorPosition 13 = .ok (.aload_n 0, 1) := by decide +kernel
theorem dX11_errorPosition_14 : decode cX11_errorPosition 14 = .ok (.iconst 1, 1) := by decide +kernel
theorem dX11_errorPosition_15 : decode cX11_errorPosition 15 = .ok (.invokevirtual 54, 3) := by decide +kernel
theorem dX11_errorPosition_18 : decode cX11_errorPosition 18 = .ok (.goto 7, 3) := by decide +kernel
theorem dX11_errorPosition_21 : decode cX11_errorPosition 21 = .ok (.aload_n 0, 1) := by decide +kernel
theorem dX11_errorPosition_22 : decode cX11_errorPosition 22 = .ok (.getfield 34, 3) := by decide +kernel
theorem dX11_errorPosition_25 : decode cX11_errorPosition 25 = .ok (.ireturn, 1) := by decide +kernel
theorem dX11_failedCommand_0 : decode cX11_failedCommand 0 = .ok (.aload_n 0, 1) := by decide +kernel
theorem dX11_failedCommand_1 : decode cX11_failedCommand 1 = .ok (.iconst 0, 1) := by decide +kernel
theorem dX11_failedCommand_2 : decode cX11_failedCommand 2 = .ok (.putfield 41, 3) := by decide +kernel
theorem dX11_failedCommand_5 : decode cX11_failedCommand 5 = .ok (.aload_n 0, 1) := by decide +kernel
theorem dX11_failedCommand_6 : decode cX11_failedCommand 6 = .ok (.getfield 38, 3) := by decide +kernel
theorem dX11_failedCommand_9 : decode cX11_failedCommand 9 = .ok (.iconst (-1), 1) := by decide +kernel
theorem dX11_failedCommand_10 : decode cX11_failedCommand 10 = .ok (.if_icmp .ne 11, 3) := by decide +kernel
theorem dX11_failedCommand_13 : decode cX11_failedCommand 13 = .ok (.aload_n 0, 1) := by decide +kernel
theorem dX11_failedCommand_14 : decode cX11_failedCommand 14 = .ok (.iconst 1, 1) := by decide +kernel
theorem dX11_failedCommand_15 : decode cX11_failedCommand 15 = .ok (.invokevirtual 54, 3) := by decide +kernel
theorem dX11_failedCommand_18 : decode cX11_failedCommand 18 = .ok (.goto 7, 3) := by decide +kernel
theorem dX11_failedCommand_21 : decode cX11_failedCommand 21 = .ok (.aload_n 0, 1) := by decide +kernel
theorem dX11_failedCommand_22 : decode cX11_failedCommand 22 = .ok (.getfield 38, 3) := by decide +kernel
theorem dX11_failedCommand_25 : decode cX11_failedCommand 25 = .ok (.ireturn, 1) := by decide +kernel
theorem dX11_undo_0 : decode cX11_undo 0 = .ok (.aload_n 0, 1) := by decide +kernel
theorem dX11_undo_1 : decode cX11_undo 1 = .ok (.iconst 0, 1) := by decide +kernel
theorem dX11_undo_2 : decode cX11_undo 2 = .ok (.putfield 41, 3) := by decide +kernel
theorem dX11_undo_5 : decode cX11_undo 5 = .ok (.aload_n 0, 1) := by decide +kernel
theorem dX11_undo_6 : decode cX11_undo 6 = .ok (.getfield 44, 3) := by decide +kernel
theorem dX11_undo_9 : decode cX11_undo 9 = .ok (.ifCond .ne 9, 3) := by decide +kernel
theorem dX11_undo_12 : decode cX11_undo 12 = .ok (.aload_n 0, 1) := by decide +kernel
theorem dX11_undo_13 : decode cX11_undo 13 = .ok (.iconst 1, 1) := by decide +kernel
theorem dX11_undo_14 : decode cX11_undo 14 = .ok (.invokevirtual 54, 3) := by decide +kernel
theorem dX11_undo_17 : decode cX11_undo 17 = .ok (.ireturn, 1) := by decide +kernel
theorem dX11_undo_18 : decode cX11_undo 18 = .ok (.aload_n 0, 1) := by decide +kernel
theorem dX11_undo_19 : decode cX11_undo 19 = .ok (.dup, 1) := by decide +kernel
theorem dX11_undo_20 : decode cX11_undo 20 = .ok (.getfield 44, 3) := by decide +kernel
theorem dX11_undo_23 : decode cX11_undo 23 = .ok (.iconst 1, 1) := by decide +kernel
theorem dX11_undo_24 : decode cX11_undo 24 = .ok (.isub, 1) := by decide +kernel
theorem dX11_undo_25 : decode cX11_undo 25 = .ok (.putfield 44, 3) := by decide +kernel
theorem dX11_undo_28 : decode cX11_undo 28 = .ok (.iconst 0, 1) := by decide +kernel
theorem dX11_undo_29 : decode cX11_undo 29 = .ok (.istore_n 1, 1) := by decide +kernel
theorem dX11_undo_30 : decode cX11_undo 30 = .ok (.iload_n 1, 1) := by decide +kernel
theorem dX11_undo_31 : decode cX11_undo 31 = .ok (.sipush 258, 3) := by decide +kernel
theorem dX11_undo_34 : decode cX11_undo 34 = .ok (.if_icmp .ge 30, 3) := by decide +kernel
theorem dX11_undo_37 : decode cX11_undo 37 = .ok (.aload_n 0, 1) := by decide +kernel
theorem dX11_undo_38 : decode cX11_undo 38 = .ok (.getfield 7, 3) := by decide +kernel
theorem dX11_undo_41 : decode cX11_undo 41 = .ok (.iload_n 1, 1) := by decide +kernel
theorem dX11_undo_42 : decode cX11_undo 42 = .ok (.aload_n 0, 1) := by decide +kernel
theorem dX11_undo_43 : decode cX11_undo 43 = .ok (.getfield 19, 3) := by decide +kernel
theorem dX11_undo_46 : decode cX11_undo 46 = .ok (.sipush 258, 3) := by decide +kernel
theorem dX11_undo_49 : decode cX11_undo 49 = .ok (.aload_n 0, 1) := by decide +kernel
theorem dX11_undo_50 : decode cX11_undo 50 = .ok (.getfield 44, 3) := by decide +kernel
theorem dX11_undo_53 : decode cX11_undo 53 = .ok (.imul, 1) := by decide +kernel
theorem dX11_undo_54 : decode cX11_undo 54 = .ok (.iload_n 1, 1) := by decide +kernel
theorem dX11_undo_55 : decode cX11_undo 55 = .ok (.iadd, 1) := by decide +kernel
theorem dX11_undo_56 : decode cX11_undo 56 = .ok (.iaload, 1) := by decide +kernel
theorem dX11_undo_57 : decode cX11_undo 57 = .ok (.iastore, 1) := by decide +kernel
theorem dX11_undo_58 : decode cX11_undo 58 = .ok (.iinc 1 1, 3) := by decide +kernel
theorem dX11_undo_61 : decode cX11_undo 61 = .ok (.goto (-31), 3) := by decide +kernel
theorem dX11_undo_64 : decode cX11_undo 64 = .ok (.aload_n 0, 1) := by decide +kernel
theorem dX11_undo_65 : decode cX11_undo 65 = .ok (.getfield 44, 3) := by decide +kernel
theorem dX11_undo_68 : decode cX11_undo 68 = .ok (.ireturn, 1) := by decide +kernel
theorem dX11_save_0 : decode cX11_save 0 = .ok (.aload_n 0, 1) := by decide +kernel
theorem dX11_save_1 : decode cX11_save 1 = .ok (.iconst 0, 1) := by decide +kernel
theorem dX11_save_2 : decode cX11_save 2 = .ok (.putfield 41, 3) := by decide +kernel
theorem dX11_save_5 : decode cX11_save 5 = .ok (.iconst 0, 1) := by decide +kernel
theorem dX11_save_6 : decode cX11_save 6 = .ok (.istore_n 1, 1) := by decide +kernel
theorem dX11_save_7 : decode cX11_save 7 = .ok (.iload_n 1, 1) := by decide +kernel
theorem dX11_save_8 : decode cX11_save 8 = .ok (.sipush 258, 3) := by decide +kernel
theorem dX11_save_11 : decode cX11_save 11 = .ok (.if_icmp .ge 21, 3) := by decide +kernel
theorem dX11_save_14 : decode cX11_save 14 = .ok (.aload_n 0, 1) := by decide +kernel
theorem dX11_save_15 : decode cX11_save 15 = .ok (.getfield 16, 3) := by decide +kernel
theorem dX11_save_18 : decode cX11_save 18 = .ok (.iload_n 1, 1) := by decide +kernel
theorem dX11_save_19 : decode cX11_save 19 = .ok (.aload_n 0, 1) := by decide +kernel
theorem dX11_save_20 : decode cX11_save 20 = .ok (.getfield 7, 3) := by decide +kernel
theorem dX11_save_23 : decode cX11_save 23 = .ok (.iload_n 1, 1) := by decide +kernel
theorem dX11_save_24 : decode cX11_save 24 = .ok (.iaload, 1) := by decide +kernel
theorem dX11_save_25 : decode cX11_save 25 = .ok (.iastore, 1) := by decide +kernel
theorem dX11_save_26 : decode cX11_save 26 = .ok (.iinc 1 1, 3) := by decide +kernel
theorem dX11_save_29 : decode cX11_save 29 = .ok (.goto (-22), 3) := by decide +kernel
theorem dX11_save_32 : decode cX11_save 32 = .ok (.aload_n 0, 1) := by decide +kernel
theorem dX11_save_33 : decode cX11_save 33 = .ok (.iconst 1, 1) := by decide +kernel
theorem dX11_save_34 : decode cX11_save 34 = .ok (.putfield 250, 3) := by decide +kernel
theorem dX11_save_37 : decode cX11_save 37 = .ok (.aload_n 0, 1) := by decide +kernel
theorem dX11_save_38 : decode cX11_save 38 = .ok (.getfield 7, 3) := by decide +kernel
theorem dX11_save_41 : decode cX11_save 41 = .ok (.iconst 2, 1) := by decide +kernel
theorem dX11_save_42 : decode cX11_save 42 = .ok (.iaload, 1) := by decide +kernel
theorem dX11_save_43 : decode cX11_save 43 = .ok (.ireturn, 1) := by decide +kernel
theorem dX11_restore_0 : decode cX11_restore 0 = .ok (.aload_n 0, 1) := by decide +kernel
theorem dX11_restore_1 : decode cX11_restore 1 = .ok (.iconst 0, 1) := by decide +kernel
theorem dX11_restore_2 : decode cX11_restore 2 = .ok (.putfield 41, 3) := by decide +kernel
theorem dX11_restore_5 : decode cX11_restore 5 = .ok (.aload_n 0, 1) := by decide +kernel
theorem dX11_restore_6 : decode cX11_restore 6 = .ok (.getfield 250, 3) := by decide +kernel
theorem dX11_restore_9 : decode cX11_restore 9 = .ok (.ifCond .ne 9, 3) := by decide +kernel
theorem dX11_restore_12 : decode cX11_restore 12 = .ok (.aload_n 0, 1) := by decide +kernel
theorem dX11_restore_13 : decode cX11_restore 13 = .ok (.iconst 1, 1) := by decide +kernel
theorem dX11_restore_14 : decode cX11_restore 14 = .ok (.invokevirtual 54, 3) := by decide +kernel
theorem dX11_restore_17 : decode cX11_restore 17 = .ok (.ireturn, 1) := by decide +kernel
theorem dX11_restore_18 : decode cX11_restore 18 = .ok (.iconst 0, 1) := by decide +kernel
theorem dX11_restore_19 : decode cX11_restore 19 = .ok (.istore_n 1, 1) := by decide +kernel
theorem dX11_restore_20 : decode cX11_restore 20 = .ok (.iload_n 1, 1) := by decide +kernel
theorem dX11_restore_21 : decode cX11_restore 21 = .ok (.sipush 258, 3) := by decide +kernel
theorem dX11_restore_24 : decode cX11_restore 24 = .ok (.if_icmp .ge 21, 3) := by decide +kernel
theorem dX11_restore_27 : decode cX11_restore 27 = .ok (.aload_n 0, 1) := by decide +kernel
theorem dX11_restore_28 : decode cX11_restore 28 = .ok (.getfield 7, 3) := by decide +kernel
theorem dX11_restore_31 : decode cX11_restore 31 = .ok (.iload_n 1, 1) := by decide +kernel
theorem dX11_restore_32 : decode cX11_restore 32 = .ok (.aload_n 0, 1) := by decide +kernel
theorem dX11_restore_33 : decode cX11_restore 33 = .ok (.getfield 16, 3) := by decide +kernel
theorem dX11_restore_36 : decode cX11_restore 36 = .ok (.iload_n 1, 1) := by decide +kernel
theorem dX11_restore_37 : decode cX11_restore 37 = .ok (.iaload, 1) := by decide +kernel
theorem dX11_restore_38 : decode cX11_restore 38 = .ok (.iastore, 1) := by decide +kernel
theorem dX11_restore_39 : decode cX11_restore 39 = .ok (.iinc 1 1, 3) := by decide +kernel
theorem dX11_restore_42 : decode cX11_restore 42 = .ok (.goto (-22), 3) := by decide +kernel
theorem dX11_restore_45 : decode cX11_restore 45 = .ok (.aload_n 0, 1) := by decide +kernel
theorem dX11_restore_46 : decode cX11_restore 46 = .ok (.iconst 0, 1) := by decide +kernel
theorem dX11_restore_47 : decode cX11_restore 47 = .ok (.putfield 44, 3) := by decide +kernel
theorem dX11_restore_50 : decode cX11_restore 50 = .ok (.aload_n 0, 1) := by decide +kernel
theorem dX11_restore_51 : decode cX11_restore 51 = .ok (.getfield 7, 3) := by decide +kernel
theorem dX11_restore_54 : decode cX11_restore 54 = .ok (.iconst 2, 1) := by decide +kernel
theorem dX11_restore_55 : decode cX11_restore 55 = .ok (.iaload, 1) := by decide +kernel
theorem dX11_restore_56 : decode cX11_restore 56 = .ok (.ireturn, 1) := by decide +kernel
