theorem dX8_init_62 : decode cX8_init 62 = .ok (.iconst 0, 1) := by decide +kernel
theorem dX8_init_63 : decode cX8_init 63 = .ok (.putfield 49, 3) := by decide +kernel
theorem dX8_init_66 : decode cX8_init 66 = .ok (.iconst 0, 1) := by decide +kernel
theorem dX8_init_67 : decode cX8_init 67 = .ok (.istore_n 1, 1) := by decide +kernel
theorem dX8_init_68 : decode cX8_init 68 = .ok (.iload_n 1, 1) := by decide +kernel
theorem dX8_init_69 : decode cX8_init 69 = .ok (.bipush 6, 2) := by decide +kernel
theorem dX8_init_71 : decode cX8_init 71 = .ok (.if_icmp .ge 22, 3) := by decide +kernel
theorem dX8_init_74 : decode cX8_init 74 = .ok (.aload_n 0, 1) := by decide +kernel
theorem dX8_init_75 : decode cX8_init 75 = .ok (.getfield 11, 3) := by decide +kernel
theorem dX8_init_78 : decode cX8_init 78 = .ok (.iload_n 1, 1) := by decide +kernel
theorem dX8_init_79 : decode cX8_init 79 = .ok (.new 9, 3) := by decide +kernel
theorem dX8_init_82 : decode cX8_init 82 = .ok (.dup, 1) := by decide +kernel
theorem dX8_init_83 : decode cX8_init 83 = .ok (.invokespecial 52, 3) := by decide +kernel
theorem dX8_init_86 : decode cX8_init 86 = .ok (.aastore, 1) := by decide +kernel
theorem dX8_init_87 : decode cX8_init 87 = .ok (.iinc 1 1, 3) := by decide +kernel
theorem dX8_init_90 : decode cX8_init 90 = .ok (.goto (-22), 3) := by decide +kernel
theorem dX8_init_93 : decode cX8_init 93 = .ok (.iconst 0, 1) := by decide +kernel
theorem dX8_init_94 : decode cX8_init 94 = .ok (.istore_n 1, 1) := by decide +kernel
theorem dX8_init_95 : decode cX8_init 95 = .ok (.iload_n 1, 1) := by decide +kernel
theorem dX8_init_96 : decode cX8_init 96 = .ok (.iconst 4, 1) := by decide +kernel
theorem dX8_init_97 : decode cX8_init 97 = .ok (.if_icmp .ge 22, 3) := by decide +kernel
theorem dX8_init_100 : decode cX8_init 100 = .ok (.aload_n 0, 1) := by decide +kernel
theorem dX8_init_101 : decode cX8_init 101 = .ok (.getfield 19, 3) := by decide +kernel
theorem dX8_init_104 : decode cX8_init 104 = .ok (.iload_n 1, 1) := by decide +kernel
theorem dX8_init_105 : decode cX8_init 105 = .ok (.new 17, 3) := by decide +kernel
theorem dX8_init_108 : decode cX8_init 108 = .ok (.dup, 1) := by decide +kernel
theorem dX8_init_109 : decode cX8_init 109 = .ok (.invokespecial 53, 3) := by decide +kernel
theorem dX8_init_112 : decode cX8_init 112 = .ok (.aastore, 1) := by decide +kernel
theorem dX8_init_113 : decode cX8_init 113 = .ok (.iinc 1 1, 3) := by decide +kernel
theorem dX8_init_116 : decode cX8_init 116 = .ok (.goto (-21), 3) := by decide +kernel
theorem dX8_init_119 : decode cX8_init 119 = .ok (.iconst 0, 1) := by decide +kernel
theorem dX8_init_120 : decode cX8_init 120 = .ok (.istore_n 1, 1) := by decide +kernel
theorem dX8_init_121 : decode cX8_init 121 = .ok (.iload_n 1, 1) := by decide +kernel
theorem dX8_init_122 : decode cX8_init 122 = .ok (.bipush 16, 2) := by decide +kernel
theorem dX8_init_124 : decode cX8_init 124 = .ok (.if_icmp .ge 22, 3) := by decide +kernel
theorem dX8_init_127 : decode cX8_init 127 = .ok (.aload_n 0, 1) := by decide +kernel
theorem dX8_init_128 : decode cX8_init 128 = .ok (.getfield 25, 3) := by decide +kernel
theorem dX8_init_131 : decode cX8_init 131 = .ok (.iload_n 1, 1) := by decide +kernel
theorem dX8_init_132 : decode cX8_init 132 = .ok (.new 23, 3) := by decide +kernel
theorem dX8_init_135 : decode cX8_init 135 = .ok (.dup, 1) := by decide +kernel
theorem dX8_init_136 : decode cX8_init 136 = .ok (.invokespecial 54, 3) := by decide +kernel
theorem dX8_init_139 : decode cX8_init 139 = .ok (.aastore, 1) := by decide +kernel
theorem dX8_init_140 : decode cX8_init 140 = .ok (.iinc 1 1, 3) := by decide +kernel
theorem dX8_init_143 : decode cX8_init 143 = .ok (.goto (-22), 3) := by decide +kernel
theorem dX8_init_146 : decode cX8_init 146 = .ok (.return_, 1) := by decide +kernel
theorem dX8_copyFrom_0 : decode cX8_copyFrom 0 = .ok (.iconst 0, 1) := by decide +kernel
theorem dX8_copyFrom_1 : decode cX8_copyFrom 1 = .ok (.istore_n 2, 1) := by decide +kernel
theorem dX8_copyFrom_2 : decode cX8_copyFrom 2 = .ok (.iload_n 2, 1) := by decide +kernel
theorem dX8_copyFrom_3 : decode cX8_copyFrom 3 = .ok (.bipush 6, 2) := by decide +kernel
theorem dX8_copyFrom_5 : decode cX8_copyFrom 5 = .ok (.if_icmp .ge 24, 3) := by decide +kernel
theorem dX8_copyFrom_8 : decode cX8_copyFrom 8 = .ok (.aload_n 0, 1) := by decide +kernel
theorem dX8_copyFrom_9 : decode cX8_copyFrom 9 = .ok (.getfield 11, 3) := by decide +kernel
theorem dX8_copyFrom_12 : decode cX8_copyFrom 12 = .ok (.iload_n 2, 1) := by decide +kernel
theorem dX8_copyFrom_13 : decode cX8_copyFrom 13 = .ok (.aaload, 1) := by decide +kernel
theorem dX8_copyFrom_14 : decode cX8_copyFrom 14 = .ok (.aload_n 1, 1) := by decide +kernel
theorem dX8_copyFrom_15 : decode cX8_copyFrom 15 = .ok (.getfield 11, 3) := by decide +kernel
theorem dX8_copyFrom_18 : decode cX8_copyFrom 18 = .ok (.iload_n 2, 1) := by decide +kernel
theorem dX8_copyFrom_19 : decode cX8_copyFrom 19 = .ok (.aaload, 1) := by decide +kernel
theorem dX8_copyFrom_20 : decode cX8_copyFrom 20 = .ok (.invokevirtual 55, 3) := by decide +kernel
theorem dX8_copyFrom_23 : decode cX8_copyFrom 23 = .ok (.iinc 2 1, 3) := by decide +kernel
theorem dX8_copyFrom_26 : decode cX8_copyFrom 26 = .ok (.goto (-24), 3) := by decide +kernel
theorem dX8_copyFrom_29 : decode cX8_copyFrom 29 = .ok (.iconst 0, 1) := by decide +kernel
theorem dX8_copyFrom_30 : decode cX8_copyFrom 30 = .ok (.istore_n 2, 1) := by decide +kernel
theorem dX8_copyFrom_31 : decode cX8_copyFrom 31 = .ok (.iload_n 2, 1) := by decide +kernel
theorem dX8_copyFrom_32 : decode cX8_copyFrom 32 = .ok (.iconst 4, 1) := by decide +kernel
theorem dX8_copyFrom_33 : decode cX8_copyFrom 33 = .ok (.if_icmp .ge 24, 3) := by decide +kernel
theorem dX8_copyFrom_36 : decode cX8_copyFrom 36 = .ok (.aload_n 0, 1) := by decide +kernel
theorem dX8_copyFrom_37 : decode cX8_copyFrom 37 = .ok (.getfield 19, 3) := by decide +kernel
theorem dX8_copyFrom_40 : decode cX8_copyFrom 40 = .ok (.iload_n 2, 1) := by decide +kernel
theorem dX8_copyFrom_41 : decode cX8_copyFrom 41 = .ok (.aaload, 1) := by decide +kernel
theorem dX8_copyFrom_42 : decode cX8_copyFrom 42 = .ok (.aload_n 1, 1) := by decide +kernel
theorem dX8_copyFrom_43 : decode cX8_copyFrom 43 = .ok (.getfield 19, 3) := by decide +kernel
theorem dX8_copyFrom_46 : decode cX8_copyFrom 46 = .ok (.iload_n 2, 1) := by decide +kernel
theorem dX8_copyFrom_47 : decode cX8_copyFrom 47 = .ok (.aaload, 1) := by decide +kernel
theorem dX8_copyFrom_48 : decode cX8_copyFrom 48 = .ok (.invokevirtual 59, 3) := by decide +kernel
theorem dX8_copyFrom_51 : decode cX8_copyFrom 51 = .ok (.iinc 2 1, 3) := by decide +kernel
theorem dX8_copyFrom_54 : decode cX8_copyFrom 54 = .ok (.goto (-23), 3) := by decide +kernel
theorem dX8_copyFrom_57 : decode cX8_copyFrom 57 = .ok (.iconst 0, 1) := by decide +kernel
theorem dX8_copyFrom_58 : decode cX8_copyFrom 58 = .ok (.istore_n 2, 1) := by decide +kernel
theorem dX8_copyFrom_59 : decode cX8_copyFrom 59 = .ok (.iload_n 2, 1) := by decide +kernel
theorem dX8_copyFrom_60 : decode cX8_copyFrom 60 = .ok (.bipush 16, 2) := by decide +kernel
theorem dX8_copyFrom_62 : decode cX8_copyFrom 62 = .ok (.if_icmp .ge 24, 3) := by decide +kernel
theorem dX8_copyFrom_65 : decode cX8_copyFrom 65 = .ok (.aload_n 0, 1) := by decide +kernel
theorem dX8_copyFrom_66 : decode cX8_copyFrom 66 = .ok (.getfield 25, 3) := by decide +kernel
theorem dX8_copyFrom_69 : decode cX8_copyFrom 69 = .ok (.iload_n 2, 1) := by decide +kernel
theorem dX8_copyFrom_70 : decode cX8_copyFrom 70 = .ok (.aaload, 1) := by decide +kernel
theorem dX8_copyFrom_71 : decode cX8_copyFrom 71 = .ok (.aload_n 1, 1) := by decide +kernel
theorem dX8_copyFrom_72 : decode cX8_copyFrom 72 = .ok (.getfield 25, 3) := by decide +kernel
theorem dX8_copyFrom_75 : decode cX8_copyFrom 75 = .ok (.iload_n 2, 1) := by decide +kernel
theorem dX8_copyFrom_76 : decode cX8_copyFrom 76 = .ok (.aaload, 1) := by decide +kernel
theorem dX8_copyFrom_77 : decode cX8_copyFrom 77 = .ok (.invokevirtual 62, 3) := by decide +kernel
theorem dX8_copyFrom_80 : decode cX8_copyFrom 80 = .ok (.iinc 2 1, 3) := by decide +kernel
theorem dX8_copyFrom_83 : decode cX8_copyFrom 83 = .ok (.goto (-24), 3) := by decide +kernel
theorem dX8_copyFrom_86 : decode cX8_copyFrom 86 = .ok (.aload_n 0, 1) := by decide +kernel
theorem dX8_copyFrom_87 : decode cX8_copyFrom 87 = .ok (.getfield 32, 3) := by decide +kernel
theorem dX8_copyFrom_90 : decode cX8_copyFrom 90 = .ok (.aload_n 1, 1) := by decide +kernel
theorem dX8_copyFrom_91 : decode cX8_copyFrom 91 = .ok (.getfield 32, 3) := by decide +kernel
theorem dX8_copyFrom_94 : decode cX8_copyFrom 94 = .ok (.invokevirtual 65, 3) := by decide +kernel
theorem dX8_copyFrom_97 : decode cX8_copyFrom 97 = .ok (.aload_n 0, 1) := by decide +kernel
theorem dX8_copyFrom_98 : decode cX8_copyFrom 98 = .ok (.aload_n 1, 1) := by decide +kernel
theorem dX8_copyFrom_99 : decode cX8_copyFrom 99 = .ok (.getfield 36, 3) := by decide +kernel
theorem dX8_copyFrom_102 : decode cX8_copyFrom 102 = .ok (.putfield 36, 3) := by decide +kernel
theorem dX8_copyFrom_105 : decode cX8_copyFrom 105 = .ok (.aload_n 0, 1) := by decide +kernel
theorem dX8_copyFrom_106 : decode cX8_copyFrom 106 = .ok (.aload_n 1, 1) := by decide +kernel
theorem dX8_copyFrom_107 : decode cX8_copyFrom 107 = .ok (.getfield 40, 3) := by decide +kernel
theorem dX8_copyFrom_110 : decode cX8_copyFrom 110 = .ok (.putfield 40, 3) := by decide +kernel
theorem dX8_copyFrom_113 : decode cX8_copyFrom 113 = .ok (.aload_n 0, 1) := by decide +kernel
theorem dX8_copyFrom_114 : decode cX8_copyFrom 114 = .ok (.aload_n 1, 1) := by decide +kernel
theorem dX8_copyFrom_115 : decode cX8_copyFrom 115 = .ok (.getfield 43, 3) := by decide +kernel
theorem dX8_copyFrom_118 : decode cX8_copyFrom 118 = .ok (.putfield 43, 3) := by decide +kernel
theorem dX8_copyFrom_121 : decode cX8_copyFrom 121 = .ok (.aload_n 0, 1) := by decide +kernel
theorem dX8_copyFrom_122 : decode cX8_copyFrom 122 = .ok (.aload_n 1, 1) := by decide +kernel
theorem dX8_copyFrom_123 : decode cX8_copyFrom 123 = .ok (.getfield 46, 3) := by decide +kernel
theorem dX8_copyFrom_126 : decode cX8_copyFrom 126 = .ok (.putfield 46, 3) := by decide +kernel
theorem dX8_copyFrom_129 : decode cX8_copyFrom 129 = .ok (.aload_n 0, 1) := by decide +kernel
theorem dX8_copyFrom_130 : decode cX8_copyFrom 130 = .ok (.aload_n 1, 1) := by decide +kernel
theorem dX8_copyFrom_131 : decode cX8_copyFrom 131 = .ok (.getfield 49, 3) := by decide +kernel
theorem dX8_copyFrom_134 : decode cX8_copyFrom 134 = .ok (.putfield 49, 3) := by decide +kernel
theorem dX8_copyFrom_137 : decode cX8_copyFrom 137 = .ok (.return_, 1) := by decide +kernel
theorem dX8_perform_0 : decode cX8_perform 0 = .ok (.getstatic 68, 3) := by decide +kernel
theorem dX8_perform_3 : decode cX8_perform 3 = .ok (.aload_n 1, 1) := by decide +kernel
theorem dX8_perform_4 : decode cX8_perform 4 = .ok (.getfield 74, 3) := by decide +kernel
theorem dX8_perform_7 : decode cX8_perform 7 = .ok (.invokevirtual 80, 3) := by decide +kernel
theorem dX8_perform_10 : decode cX8_perform 10 = .ok (.iaload, 1) := by decide +kernel
theorem dX8_perform_11 : decode cX8_perform 11 = .ok (.tableswitch 121 1 8 #[45, 58, 63, 76, 85, 94, 103, 112], 45) := by decide +kernel
theorem dX8_perform_56 : decode cX8_perform 56 = .ok (.aload_n 0, 1) := by decide +kernel
theorem dX8_perform_57 : decode cX8_perform 57 = .ok (.aload_n 1, 1) := by decide +kernel
theorem dX8_perform_58 : decode cX8_perform 58 = .ok (.getfield 86, 3) := by decide +kernel
theorem dX8_perform_61 : decode cX8_perform 61 = .ok (.aload_n 1, 1) := by decide +kernel
theorem dX8_perform_62 : decode cX8_perform 62 = .ok (.getfield 89, 3) := by decide +kernel
theorem dX8_perform_65 : decode cX8_perform 65 = .ok (.invokevirtual 92, 3) := by decide +kernel
theorem dX8_perform_68 : decode cX8_perform 68 = .ok (.ireturn, 1) := by decide +kernel
theorem dX8_perform_69 : decode cX8_perform 69 = .ok (.aload_n 0, 1) := by decide +kernel
theorem dX8_perform_70 : decode cX8_perform 70 = .ok (.invokevirtual 96, 3) := by decide +kernel
theorem dX8_perform_73 : decode cX8_perform 73 = .ok (.ireturn, 1) := by decide +kernel
theorem dX8_perform_74 : decode cX8_perform 74 = .ok (.aload_n 0, 1) := by decide +kernel
theorem dX8_perform_75 : decode cX8_perform 75 = .ok (.aload_n 1, 1) := by decide +kernel
theorem dX8_perform_76 : decode cX8_perform 76 = .ok (.getfield 86, 3) := by decide +kernel
theorem dX8_perform_79 : decode cX8_perform 79 = .ok (.aload_n 1, 1) := by decide +kernel
theorem dX8_perform_80 : decode cX8_perform 80 = .ok (.getfield 89, 3) := by decide +kernel
theorem dX8_perform_83 : decode cX8_perform 83 = .ok (.invokevirtual 99, 3) := by decide +kernel
theorem dX8_perform_86 : decode cX8_perform 86 = .ok (.ireturn, 1) := by decide +kernel
theorem dX8_perform_87 : decode cX8_perform 87 = .ok (.aload_n 0, 1) := by decide +kernel
theorem dX8_perform_88 : decode cX8_perform 88 = .ok (.aload_n 1, 1) := by decide +kernel
theorem dX8_perform_89 : decode cX8_perform 89 = .ok (.getfield 86, 3) := by decide +kernel
theorem dX8_perform_92 : decode cX8_perform 92 = .ok (.invokevirtual 102, 3) := by decide +kernel
theorem dX8_perform_95 : decode cX8_perform 95 = .ok (.ireturn, 1) := by decide +kernel
theorem dX8_perform_96 : decode cX8_perform 96 = .ok (.aload_n 0, 1) := by decide +kernel
theorem dX8_perform_97 : decode cX8_perform 97 = .ok (.aload_n 1, 1) := by decide +kernel
theorem dX8_perform_98 : decode cX8_perform 98 = .ok (.getfield 86, 3) := by decide +kernel
theorem dX8_perform_101 : decode cX8_perform 101 = .ok (.invokevirtual 106, 3) := by decide +kernel
theorem dX8_perform_104 : decode cX8_perform 104 = .ok (.ireturn, 1) := by decide +kernel
theorem dX8_perform_105 : decode cX8_perform 105 = .ok (.aload_n 0, 1) := by decide +kernel
theorem dX8_perform_106 : decode cX8_perform 106 = .ok (.aload_n 1, 1) := by decide +kernel
theorem dX8_perform_107 : decode cX8_perform 107 = .ok (.getfield 86, 3) := by decide +kernel
theorem dX8_perform_110 : decode cX8_perform 110 = .ok (.invokevirtual 109, 3) := by decide +kernel
theorem dX8_perform_113 : decode cX8_perform 113 = .ok (.ireturn, 1) := by decide +kernel
theorem dX8_perform_114 : decode cX8_perform 114 = .ok (.aload_n 0, 1) := by decide +kernel
theorem dX8_perform_115 : decode cX8_perform 115 = .ok (.aload_n 1, 1) := by decide +kernel
theorem dX8_perform_116 : decode cX8_perform 116 = .ok (.getfield 86, 3) := by decide +kernel
theorem dX8_perform_119 : decode cX8_perform 119 = .ok (.invokevirtual 112, 3) := by decide +kernel
theorem dX8_perform_122 : decode cX8_perform 122 = .ok (.ireturn, 1) := by decide +kernel
theorem dX8_perform_123 : decode cX8_perform 123 = .ok (.aload_n 0, 1) := by decide +kernel
theorem dX8_perform_124 : decode cX8_perform 124 = .ok (.aload_n 1, 1) := by decide +kernel
theorem dX8_perform_125 : decode cX8_perform 125 = .ok (.getfield 86, 3) := by decide +kernel
theorem dX8_perform_128 : decode cX8_perform 128 = .ok (.invokevirtual 115, 3) := by decide +kernel
theorem dX8_perform_131 : decode cX8_perform 131 = .ok (.ireturn, 1) := by decide +kernel
theorem dX8_perform_132 : decode cX8_perform 132 = .ok (.aload_n 0, 1) := by decide +kernel
theorem dX8_perform_133 : decode cX8_perform 133 = .ok (.iconst 1, 1) := by decide +kernel
theorem dX8_perform_134 : decode cX8_perform 134 = .ok (.invokevirtual 115, 3) := by decide +kernel
theorem dX8_perform_137 : decode cX8_perform 137 = .ok (.ireturn, 1) := by decide +kernel
theorem dX8_openNest_0 : decode cX8_openNest 0 = .ok (.iload_n 1, 1) := by decide +kernel
theorem dX8_openNest_1 : decode cX8_openNest 1 = .ok (.iconst 1, 1) := by decide +kernel
theorem dX8_openNest_2 : decode cX8_openNest 2 = .ok (.if_icmp .lt 18, 3) := by decide +kernel
theorem dX8_openNest_5 : decode cX8_openNest 5 = .ok (.iload_n 1, 1) := by decide +kernel
theorem dX8_openNest_6 : decode cX8_openNest 6 = .ok (.bipush 9, 2) := by decide +kernel
theorem dX8_openNest_8 : decode cX8_openNest 8 = .ok (.if_icmp .gt 12, 3) := by decide +kernel
theorem dX8_openNest_11 : decode cX8_openNest 11 = .ok (.iload_n 2, 1) := by decide +kernel
theorem dX8_openNest_12 : decode cX8_openNest 12 = .ok (.ifCond .lt 8, 3) := by decide +kernel
theorem dX8_openNest_15 : decode cX8_openNest 15 = .ok (.iload_n 2, 1) := by decide +kernel
theorem dX8_openNest_16 : decode cX8_openNest 16 = .ok (.iconst 4, 1) := by decide +kernel
theorem dX8_openNest_17 : decode cX8_openNest 17 = .ok (.if_icmp .le 5, 3) := by decide +kernel
theorem dX8_openNest_20 : decode cX8_openNest 20 = .ok (.iconst (-1), 1) := by decide +kernel
theorem dX8_openNest_21 : decode cX8_openNest 21 = .ok (.ireturn, 1) := by decide +kernel
theorem dX8_openNest_22 : decode cX8_openNest 22 = .ok (.aload_n 0, 1) := by decide +kernel
theorem dX8_openNest_23 : decode cX8_openNest 23 = .ok (.getfield 36, 3) := by decide +kernel
theorem dX8_openNest_26 : decode cX8_openNest 26 = .ok (.bipush 6, 2) := by decide +kernel
theorem dX8_openNest_28 : decode cX8_openNest 28 = .ok (.if_icmp .lt 6, 3) := by decide +kernel
theorem dX8_openNest_31 : decode cX8_openNest 31 = .ok (.bipush (-2), 2) := by decide +kernel
theorem dX8_openNest_33 : decode cX8_openNest 33 = .ok (.ireturn, 1) := by decide +kernel
theorem dX8_openNest_34 : decode cX8_openNest 34 = .ok (.aload_n 0, 1) := by decide +kernel
theorem dX8_openNest_35 : decode cX8_openNest 35 = .ok (.getfield 36, 3) := by decide +kernel
theorem dX8_openNest_38 : decode cX8_openNest 38 = .ok (.istore_n 3, 1) := by decide +kernel
theorem dX8_openNest_39 : decode cX8_openNest 39 = .ok (.aload_n 0, 1) := by decide +kernel
theorem dX8_openNest_40 : decode cX8_openNest 40 = .ok (.getfield 11, 3) := by decide +kernel
theorem dX8_openNest_43 : decode cX8_openNest 43 = .ok (.iload_n 3, 1) := by decide +kernel
theorem dX8_openNest_44 : decode cX8_openNest 44 = .ok (.aaload, 1) := by decide +kernel
theorem dX8_openNest_45 : decode cX8_openNest 45 = .ok (.iload_n 1, 1) := by decide +kernel
theorem dX8_openNest_46 : decode cX8_openNest 46 = .ok (.iload_n 2, 1) := by decide +kernel
theorem dX8_openNest_47 : decode cX8_openNest 47 = .ok (.invokevirtual 118, 3) := by decide +kernel
theorem dX8_openNest_50 : decode cX8_openNest 50 = .ok (.aload_n 0, 1) := by decide +kernel
theorem dX8_openNest_51 : decode cX8_openNest 51 = .ok (.dup, 1) := by decide +kernel
theorem dX8_openNest_52 : decode cX8_openNest 52 = .ok (.getfield 36, 3) := by decide +kernel
theorem dX8_openNest_55 : decode cX8_openNest 55 = .ok (.iconst 1, 1) := by decide +kernel
theorem dX8_openNest_56 : decode cX8_openNest 56 = .ok (.iadd, 1) := by decide +kernel
theorem dX8_openNest_57 : decode cX8_openNest 57 = .ok (.putfield 36, 3) := by decide +kernel
theorem dX8_openNest_60 : decode cX8_openNest 60 = .ok (.iload_n 3, 1) := by decide +kernel
theorem dX8_openNest_61 : decode cX8_openNest 61 = .ok (.ireturn, 1) := by decide +kernel
theorem dX8_hireCrow_0 : decode cX8_hireCrow 0 = .ok (.aload_n 0, 1) := by decide +kernel
theorem dX8_hireCrow_1 : decode cX8_hireCrow 1 = .ok (.getfield 40, 3) := by decide +kernel
theorem dX8_hireCrow_4 : decode cX8_hireCrow 4 = .ok (.iconst 4, 1) := by decide +kernel
theorem dX8_hireCrow_5 : decode cX8_hireCrow 5 = .ok (.if_icmp .lt 6, 3) := by decide +kernel
theorem dX8_hireCrow_8 : decode cX8_hireCrow 8 = .ok (.bipush (-2), 2) := by decide +kernel
theorem dX8_hireCrow_10 : decode cX8_hireCrow 10 = .ok (.ireturn, 1) := by decide +kernel
theorem dX8_hireCrow_11 : decode cX8_hireCrow 11 = .ok (.aload_n 0, 1) := by decide +kernel
theorem dX8_hireCrow_12 : decode cX8_hireCrow 12 = .ok (.getfield 40, 3) := by decide +kernel
theorem dX8_hireCrow_15 : decode cX8_hireCrow 15 = .ok (.istore_n 1, 1) := by decide +kernel
theorem dX8_hireCrow_16 : decode cX8_hireCrow 16 = .ok (.aload_n 0, 1) := by decide +kernel
theorem dX8_hireCrow_17 : decode cX8_hireCrow 17 = .ok (.getfield 19, 3) := by decide +kernel
theorem dX8_hireCrow_20 : decode cX8_hireCrow 20 = .ok (.iload_n 1, 1) := by decide +kernel
theorem dX8_hireCrow_21 : decode cX8_hireCrow 21 = .ok (.aaload, 1) := by decide +kernel
theorem dX8_hireCrow_22 : decode cX8_hireCrow 22 = .ok (.iconst 0, 1) := by decide +kernel
theorem dX8_hireCrow_23 : decode cX8_hireCrow 23 = .ok (.putfield 122, 3) := by decide +kernel
theorem dX8_hireCrow_26 : decode cX8_hireCrow 26 = .ok (.aload_n 0, 1) := by decide +kernel
theorem dX8_hireCrow_27 : decode cX8_hireCrow 27 = .ok (.dup, 1) := by decide +kernel
theorem dX8_hireCrow_28 : decode cX8_hireCrow 28 = .ok (.getfield 40, 3) := by decide +kernel
theorem dX8_hireCrow_31 : decode cX8_hireCrow 31 = .ok (.iconst 1, 1) := by decide +kernel
theorem dX8_hireCrow_32 : decode cX8_hireCrow 32 = .ok (.iadd, 1) := by decide +kernel
theorem dX8_hireCrow_33 : decode cX8_hireCrow 33 = .ok (.putfield 40, 3) := by decide +kernel
theorem dX8_hireCrow_36 : decode cX8_hireCrow 36 = .ok (.iload_n 1, 1) := by decide +kernel
theorem dX8_hireCrow_37 : decode cX8_hireCrow 37 = .ok (.ireturn, 1) := by decide +kernel
theorem dX8_post_0 : decode cX8_post 0 = .ok (.aload_n 0, 1) := by decide +kernel
theorem dX8_post_1 : decode cX8_post 1 = .ok (.iload_n 1, 1) := by decide +kernel
theorem dX8_post_2 : decode cX8_post 2 = .ok (.invokevirtual 126, 3) := by decide +kernel
theorem dX8_post_5 : decode cX8_post 5 = .ok (.ifnonnull 6, 3) := by decide +kernel
theorem dX8_post_8 : decode cX8_post 8 = .ok (.bipush (-3), 2) := by decide +kernel
theorem dX8_post_10 : decode cX8_post 10 = .ok (.ireturn, 1) := by decide +kernel
theorem dX8_post_11 : decode cX8_post 11 = .ok (.iload_n 2, 1) := by decide +kernel
theorem dX8_post_12 : decode cX8_post 12 = .ok (.ifCond .lt 9, 3) := by decide +kernel
theorem dX8_post_15 : decode cX8_post 15 = .ok (.iload_n 2, 1) := by decide +kernel
theorem dX8_post_16 : decode cX8_post 16 = .ok (.bipush 99, 2) := by decide +kernel
theorem dX8_post_18 : decode cX8_post 18 = .ok (.if_icmp .le 5, 3) := by decide +kernel
theorem dX8_post_21 : decode cX8_post 21 = .ok (.iconst (-1), 1) := by decide +kernel
theorem dX8_post_22 : decode cX8_post 22 = .ok (.ireturn, 1) := by decide +kernel
theorem dX8_post_23 : decode cX8_post 23 = .ok (.aload_n 0, 1) := by decide +kernel
theorem dX8_post_24 : decode cX8_post 24 = .ok (.getfield 43, 3) := by decide +kernel
theorem dX8_post_27 : decode cX8_post 27 = .ok (.bipush 16, 2) := by decide +kernel
theorem dX8_post_29 : decode cX8_post 29 = .ok (.if_icmp .lt 6, 3) := by decide +kernel
theorem dX8_post_32 : decode cX8_post 32 = .ok (.bipush (-2), 2) := by decide +kernel
theorem dX8_post_34 : decode cX8_post 34 = .ok (.ireturn, 1) := by decide +kernel
theorem dX8_post_35 : decode cX8_post 35 = .ok (.aload_n 0, 1) := by decide +kernel
theorem dX8_post_36 : decode cX8_post 36 = .ok (.getfield 32, 3) := by decide +kernel
theorem dX8_post_39 : decode cX8_post 39 = .ok (.getfield 130, 3) := by decide +kernel
theorem dX8_post_42 : decode cX8_post 42 = .ok (.istore_n 3, 1) := by decide +kernel
theorem dX8_post_43 : decode cX8_post 43 = .ok (.aload_n 0, 1) := by decide +kernel
theorem dX8_post_44 : decode cX8_post 44 = .ok (.getfield 25, 3) := by decide +kernel
theorem dX8_post_47 : decode cX8_post 47 = .ok (.aload_n 0, 1) := by decide +kernel
theorem dX8_post_48 : decode cX8_post 48 = .ok (.getfield 43, 3) := by decide +kernel
theorem dX8_post_51 : decode cX8_post 51 = .ok (.aaload, 1) := by decide +kernel
theorem dX8_post_52 : decode cX8_post 52 = .ok (.iload_n 3, 1) := by decide +kernel
theorem dX8_post_53 : decode cX8_post 53 = .ok (.iload_n 1, 1) := by decide +kernel
theorem dX8_post_54 : decode cX8_post 54 = .ok (.iload_n 2, 1) := by decide +kernel
theorem dX8_post_55 : decode cX8_post 55 = .ok (.invokevirtual 133, 3) := by decide +kernel
theorem dX8_post_58 : decode cX8_post 58 = .ok (.aload_n 0, 1) := by decide +kernel
theorem dX8_post_59 : decode cX8_post 59 = .ok (.dup, 1) := by decide +kernel
theorem dX8_post_60 : decode cX8_post 60 = .ok (.getfield 43, 3) := by decide +kernel
theorem dX8_post_63 : decode cX8_post 63 = .ok (.iconst 1, 1) := by decide +kernel
theorem dX8_post_64 : decode cX8_post 64 = .ok (.iadd, 1) := by decide +kernel
theorem dX8_post_65 : decode cX8_post 65 = .ok (.putfield 43, 3) := by decide +kernel
theorem dX8_post_68 : decode cX8_post 68 = .ok (.aload_n 0, 1) := by decide +kernel
theorem dX8_post_69 : decode cX8_post 69 = .ok (.getfield 32, 3) := by decide +kernel
theorem dX8_post_72 : decode cX8_post 72 = .ok (.dup, 1) := by decide +kernel
theorem dX8_post_73 : decode cX8_post 73 = .ok (.getfield 130, 3) := by decide +kernel
theorem dX8_post_76 : decode cX8_post 76 = .ok (.iconst 1, 1) := by decide +kernel
theorem dX8_post_77 : decode cX8_post 77 = .ok (.iadd, 1) := by decide +kernel
theorem dX8_post_78 : decode cX8_post 78 = .ok (.putfield 130, 3) := by decide +kernel
theorem dX8_post_81 : decode cX8_post 81 = .ok (.iload_n 3, 1) := by decide +kernel
theorem dX8_post_82 : decode cX8_post 82 = .ok (.ireturn, 1) := by decide +kernel
theorem dX8_handOver_0 : decode cX8_handOver 0 = .ok (.aload_n 0, 1) := by decide +kernel
theorem dX8_handOver_1 : decode cX8_handOver 1 = .ok (.iload_n 1, 1) := by decide +kernel
theorem dX8_handOver_2 : decode cX8_handOver 2 = .ok (.invokevirtual 126, 3) := by decide +kernel
theorem dX8_handOver_5 : decode cX8_handOver 5 = .ok (.astore_n 2, 1) := by decide +kernel
theorem dX8_handOver_6 : decode cX8_handOver 6 = .ok (.aload_n 2, 1) := by decide +kernel
theorem dX8_handOver_7 : decode cX8_handOver 7 = .ok (.ifnonnull 6, 3) := by decide +kernel
theorem dX8_handOver_10 : decode cX8_handOver 10 = .ok (.bipush (-3), 2) := by decide +kernel
theorem dX8_handOver_12 : decode cX8_handOver 12 = .ok (.ireturn, 1) := by decide +kernel
theorem dX8_handOver_13 : decode cX8_handOver 13 = .ok (.aload_n 2, 1) := by decide +kernel
theorem dX8_handOver_14 : decode cX8_handOver 14 = .ok (.getfield 137, 3) := by decide +kernel
theorem dX8_handOver_17 : decode cX8_handOver 17 = .ok (.ifCond .ne 6, 3) := by decide +kernel
theorem dX8_handOver_20 : decode cX8_handOver 20 = .ok (.bipush (-4), 2) := by decide +kernel
theorem dX8_handOver_22 : decode cX8_handOver 22 = .ok (.ireturn, 1) := by decide +kernel
theorem dX8_handOver_23 : decode cX8_handOver 23 = .ok (.aload_n 2, 1) := by decide +kernel
theorem dX8_handOver_24 : decode cX8_handOver 24 = .ok (.invokevirtual 140, 3) := by decide +kernel
theorem dX8_handOver_27 : decode cX8_handOver 27 = .ok (.istore_n 3, 1) := by decide +kernel
theorem dX8_handOver_28 : decode cX8_handOver 28 = .ok (.aload_n 0, 1) := by decide +kernel
theorem dX8_handOver_29 : decode cX8_handOver 29 = .ok (.iload_n 3, 1) := by decide +kernel
theorem dX8_handOver_30 : decode cX8_handOver 30 = .ok (.invokevirtual 143, 3) := by decide +kernel
theorem dX8_handOver_33 : decode cX8_handOver 33 = .ok (.aload_n 0, 1) := by decide +kernel
theorem dX8_handOver_34 : decode cX8_handOver 34 = .ok (.getfield 32, 3) := by decide +kernel
theorem dX8_handOver_37 : decode cX8_handOver 37 = .ok (.dup, 1) := by decide +kernel
theorem dX8_handOver_38 : decode cX8_handOver 38 = .ok (.getfield 147, 3) := by decide +kernel
theorem dX8_handOver_41 : decode cX8_handOver 41 = .ok (.iconst 1, 1) := by decide +kernel
theorem dX8_handOver_42 : decode cX8_handOver 42 = .ok (.iadd, 1) := by decide +kernel
theorem dX8_handOver_43 : decode cX8_handOver 43 = .ok (.putfield 147, 3) := by decide +kernel
theorem dX8_handOver_46 : decode cX8_handOver 46 = .ok (.iload_n 3, 1) := by decide +kernel
theorem dX8_handOver_47 : decode cX8_handOver 47 = .ok (.ireturn, 1) := by decide +kernel
theorem dX8_withdraw_0 : decode cX8_withdraw 0 = .ok (.aload_n 0, 1) := by decide +kernel
theorem dX8_withdraw_1 : decode cX8_withdraw 1 = .ok (.iload_n 1, 1) := by decide +kernel
theorem dX8_withdraw_2 : decode cX8_withdraw 2 = .ok (.invokevirtual 150, 3) := by decide +kernel
theorem dX8_withdraw_5 : decode cX8_withdraw 5 = .ok (.astore_n 2, 1) := by decide +kernel
theorem dX8_withdraw_6 : decode cX8_withdraw 6 = .ok (.aload_n 2, 1) := by decide +kernel
theorem dX8_withdraw_7 : decode cX8_withdraw 7 = .ok (.ifnonnull 6, 3) := by decide +kernel
theorem dX8_withdraw_10 : decode cX8_withdraw 10 = .ok (.bipush (-4), 2) := by decide +kernel
theorem dX8_withdraw_12 : decode cX8_withdraw 12 = .ok (.ireturn, 1) := by decide +kernel
theorem dX8_withdraw_13 : decode cX8_withdraw 13 = .ok (.aload_n 2, 1) := by decide +kernel
theorem dX8_withdraw_14 : decode cX8_withdraw 14 = .ok (.getfield 154, 3) := by decide +kernel
theorem dX8_withdraw_17 : decode cX8_withdraw 17 = .ok (.bipush 102, 2) := by decide +kernel
theorem dX8_withdraw_19 : decode cX8_withdraw 19 = .ok (.if_icmp .eq 12, 3) := by decide +kernel
theorem dX8_withdraw_22 : decode cX8_withdraw 22 = .ok (.aload_n 2, 1) := by decide +kernel
theorem dX8_withdraw_23 : decode cX8_withdraw 23 = .ok (.getfield 154, 3) := by decide +kernel
theorem dX8_withdraw_26 : decode cX8_withdraw 26 = .ok (.bipush 100, 2) := by decide +kernel
theorem dX8_withdraw_28 : decode cX8_withdraw 28 = .ok (.if_icmp .ne 6, 3) := by decide +kernel
theorem dX8_withdraw_31 : decode cX8_withdraw 31 = .ok (.bipush (-2), 2) := by decide +kernel
theorem dX8_withdraw_33 : decode cX8_withdraw 33 = .ok (.ireturn, 1) := by decide +kernel
theorem dX8_withdraw_34 : decode cX8_withdraw 34 = .ok (.aload_n 0, 1) := by decide +kernel
theorem dX8_withdraw_35 : decode cX8_withdraw 35 = .ok (.iload_n 1, 1) := by decide +kernel
theorem dX8_withdraw_36 : decode cX8_withdraw 36 = .ok (.invokevirtual 143, 3) := by decide +kernel
theorem dX8_withdraw_39 : decode cX8_withdraw 39 = .ok (.aload_n 0, 1) := by decide +kernel
theorem dX8_withdraw_40 : decode cX8_withdraw 40 = .ok (.getfield 32, 3) := by decide +kernel
theorem dX8_withdraw_43 : decode cX8_withdraw 43 = .ok (.dup, 1) := by decide +kernel
theorem dX8_withdraw_44 : decode cX8_withdraw 44 = .ok (.getfield 158, 3) := by decide +kernel
theorem dX8_withdraw_47 : decode cX8_withdraw 47 = .ok (.iconst 1, 1) := by decide +kernel
theorem dX8_withdraw_48 : decode cX8_withdraw 48 = .ok (.iadd, 1) := by decide +kernel
theorem dX8_withdraw_49 : decode cX8_withdraw 49 = .ok (.putfield 158, 3) := by decide +kernel
theorem dX8_withdraw_52 : decode cX8_withdraw 52 = .ok (.aload_n 0, 1) := by decide +kernel
theorem dX8_withdraw_53 : decode cX8_withdraw 53 = .ok (.getfield 43, 3) := by decide +kernel
theorem dX8_withdraw_56 : decode cX8_withdraw 56 = .ok (.ireturn, 1) := by decide +kernel
theorem dX8_turnWind_0 : decode cX8_turnWind 0 = .ok (.iload_n 1, 1) := by decide +kernel
theorem dX8_turnWind_1 : decode cX8_turnWind 1 = .ok (.ifCond .lt 9, 3) := by decide +kernel
theorem dX8_turnWind_4 : decode cX8_turnWind 4 = .ok (.iload_n 1, 1) := by decide +kernel
theorem dX8_turnWind_5 : decode cX8_turnWind 5 = .ok (.bipush 9, 2) := by decide +kernel
theorem dX8_turnWind_7 : decode cX8_turnWind 7 = .ok (.if_icmp .le 5, 3) := by decide +kernel
theorem dX8_turnWind_10 : decode cX8_turnWind 10 = .ok (.iconst (-1), 1) := by decide +kernel
theorem dX8_turnWind_11 : decode cX8_turnWind 11 = .ok (.ireturn, 1) := by decide +kernel
theorem dX8_turnWind_12 : decode cX8_turnWind 12 = .ok (.aload_n 0, 1) := by decide +kernel
theorem dX8_turnWind_13 : decode cX8_turnWind 13 = .ok (.getfield 49, 3) := by decide +kernel
theorem dX8_turnWind_16 : decode cX8_turnWind 16 = .ok (.istore_n 2, 1) := by decide +kernel
theorem dX8_turnWind_17 : decode cX8_turnWind 17 = .ok (.aload_n 0, 1) := by decide +kernel
theorem dX8_turnWind_18 : decode cX8_turnWind 18 = .ok (.iload_n 1, 1) := by decide +kernel
theorem dX8_turnWind_19 : decode cX8_turnWind 19 = .ok (.putfield 49, 3) := by decide +kernel
theorem dX8_turnWind_22 : decode cX8_turnWind 22 = .ok (.iload_n 2, 1) := by decide +kernel
theorem dX8_turnWind_23 : decode cX8_turnWind 23 = .ok (.ireturn, 1) := by decide +kernel
theorem dX8_clearKeys_0 : decode cX8_clearKeys 0 = .ok (.aload_n 0, 1) := by decide +kernel
theorem dX8_clearKeys_1 : decode cX8_clearKeys 1 = .ok (.iload_n 1, 1) := by decide +kernel
theorem dX8_clearKeys_2 : decode cX8_clearKeys 2 = .ok (.invokevirtual 126, 3) := by decide +kernel
theorem dX8_clearKeys_5 : decode cX8_clearKeys 5 = .ok (.astore_n 2, 1) := by decide +kernel
theorem dX8_clearKeys_6 : decode cX8_clearKeys 6 = .ok (.aload_n 2, 1) := by decide +kernel
theorem dX8_clearKeys_7 : decode cX8_clearKeys 7 = .ok (.ifnonnull 6, 3) := by decide +kernel
theorem dX8_clearKeys_10 : decode cX8_clearKeys 10 = .ok (.bipush (-3), 2) := by decide +kernel
theorem dX8_clearKeys_12 : decode cX8_clearKeys 12 = .ok (.ireturn, 1) := by decide +kernel
theorem dX8_clearKeys_13 : decode cX8_clearKeys 13 = .ok (.aload_n 2, 1) := by decide +kernel
theorem dX8_clearKeys_14 : decode cX8_clearKeys 14 = .ok (.getfield 161, 3) := by decide +kernel
theorem dX8_clearKeys_17 : decode cX8_clearKeys 17 = .ok (.istore_n 3, 1) := by decide +kernel
theorem dX8_clearKeys_18 : decode cX8_clearKeys 18 = .ok (.aload_n 2, 1) := by decide +kernel
theorem dX8_clearKeys_19 : decode cX8_clearKeys 19 = .ok (.iconst 0, 1) := by decide +kernel
theorem dX8_clearKeys_20 : decode cX8_clearKeys 20 = .ok (.putfield 161, 3) := by decide +kernel
theorem dX8_clearKeys_23 : decode cX8_clearKeys 23 = .ok (.iload_n 3, 1) := by decide +kernel
theorem dX8_clearKeys_24 : decode cX8_clearKeys 24 = .ok (.ireturn, 1) := by decide +kernel
theorem dX8_pass_0 : decode cX8_pass 0 = .ok (.iload_n 1, 1) := by decide +kernel
theorem dX8_pass_1 : decode cX8_pass 1 = .ok (.iconst 1, 1) := by decide +kernel
theorem dX8_pass_2 : decode cX8_pass 2 = .ok (.if_icmp .lt 9, 3) := by decide +kernel
theorem dX8_pass_5 : decode cX8_pass 5 = .ok (.iload_n 1, 1) := by decide +kernel
theorem dX8_pass_6 : decode cX8_pass 6 = .ok (.bipush 100, 2) := by decide +kernel
theorem dX8_pass_8 : decode cX8_pass 8 = .ok (.if_icmp .le 5, 3) := by decide +kernel
theorem dX8_pass_11 : decode cX8_pass 11 = .ok (.iconst (-1), 1) := by decide +kernel
theorem dX8_pass_12 : decode cX8_pass 12 = .ok (.ireturn, 1) := by decide +kernel
theorem dX8_pass_13 : decode cX8_pass 13 = .ok (.aload_n 0, 1) := by decide +kernel
theorem dX8_pass_14 : decode cX8_pass 14 = .ok (.getfield 32, 3) := by decide +kernel
theorem dX8_pass_17 : decode cX8_pass 17 = .ok (.getfield 164, 3) := by decide +kernel
theorem dX8_pass_20 : decode cX8_pass 20 = .ok (.istore_n 2, 1) := by decide +kernel
theorem dX8_pass_21 : decode cX8_pass 21 = .ok (.iconst 0, 1) := by decide +kernel
theorem dX8_pass_22 : decode cX8_pass 22 = .ok (.istore_n 3, 1) := by decide +kernel
theorem dX8_pass_23 : decode cX8_pass 23 = .ok (.iload_n 3, 1) := by decide +kernel
theorem dX8_pass_24 : decode cX8_pass 24 = .ok (.iload_n 1, 1) := by decide +kernel
theorem dX8_pass_25 : decode cX8_pass 25 = .ok (.if_icmp .ge 31, 3) := by decide +kernel
theorem dX8_pass_28 : decode cX8_pass 28 = .ok (.aload_n 0, 1) := by decide +kernel
theorem dX8_pass_29 : decode cX8_pass 29 = .ok (.dup, 1) := by decide +kernel
theorem dX8_pass_30 : decode cX8_pass 30 = .ok (.getfield 46, 3) := by decide +kernel
theorem dX8_pass_33 : decode cX8_pass 33 = .ok (.iconst 1, 1) := by decide +kernel
theorem dX8_pass_34 : decode cX8_pass 34 = .ok (.iadd, 1) := by decide +kernel
theorem dX8_pass_35 : decode cX8_pass 35 = .ok (.putfield 46, 3) := by decide +kernel
theorem dX8_pass_38 : decode cX8_pass 38 = .ok (.aload_n 0, 1) := by decide +kernel
theorem dX8_pass_39 : decode cX8_pass 39 = .ok (.invokevirtual 167, 3) := by decide +kernel
theorem dX8_pass_42 : decode cX8_pass 42 = .ok (.aload_n 0, 1) := by decide +kernel
theorem dX8_pass_43 : decode cX8_pass 43 = .ok (.invokevirtual 170, 3) := by decide +kernel
theorem dX8_pass_46 : decode cX8_pass 46 = .ok (.aload_n 0, 1) := by decide +kernel
theorem dX8_pass_47 : decode cX8_pass 47 = .ok (.invokevirtual 173, 3) := by decide +kernel
theorem dX8_pass_50 : decode cX8_pass 50 = .ok (.iinc 3 1, 3) := by decide +kernel
theorem dX8_pass_53 : decode cX8_pass 53 = .ok (.goto (-30), 3) := by decide +kernel
theorem dX8_pass_56 : decode cX8_pass 56 = .ok (.aload_n 0, 1) := by decide +kernel
theorem dX8_pass_57 : decode cX8_pass 57 = .ok (.getfield 32, 3) := by decide +kernel
theorem dX8_pass_60 : decode cX8_pass 60 = .ok (.getfield 164, 3) := by decide +kernel
theorem dX8_pass_63 : decode cX8_pass 63 = .ok (.iload_n 2, 1) := by decide +kernel
theorem dX8_pass_64 : decode cX8_pass 64 = .ok (.isub, 1) := by decide +kernel
theorem dX8_pass_65 : decode cX8_pass 65 = .ok (.ireturn, 1) := by decide +kernel
theorem dX8_landCrows_0 : decode cX8_landCrows 0 = .ok (.iconst 0, 1) := by decide +kernel
theorem dX8_landCrows_1 : decode cX8_landCrows 1 = .ok (.istore_n 1, 1) := by decide +kernel
theorem dX8_landCrows_2 : decode cX8_landCrows 2 = .ok (.iload_n 1, 1) := by decide +kernel
theorem dX8_landCrows_3 : decode cX8_landCrows 3 = .ok (.aload_n 0, 1) := by decide +kernel
theorem dX8_landCrows_4 : decode cX8_landCrows 4 = .ok (.getfield 40, 3) := by decide +kernel
theorem dX8_landCrows_7 : decode cX8_landCrows 7 = .ok (.if_icmp .ge 47, 3) := by decide +kernel
theorem dX8_landCrows_10 : decode cX8_landCrows 10 = .ok (.aload_n 0, 1) := by decide +kernel
theorem dX8_landCrows_11 : decode cX8_landCrows 11 = .ok (.getfield 19, 3) := by decide +kernel
theorem dX8_landCrows_14 : decode cX8_landCrows 14 = .ok (.iload_n 1, 1) := by decide +kernel
theorem dX8_landCrows_15 : decode cX8_landCrows 15 = .ok (.aaload, 1) := by decide +kernel
theorem dX8_landCrows_16 : decode cX8_landCrows 16 = .ok (.astore_n 2, 1) := by decide +kernel
theorem dX8_landCrows_17 : decode cX8_landCrows 17 = .ok (.aload_n 2, 1) := by decide +kernel
theorem dX8_landCrows_18 : decode cX8_landCrows 18 = .ok (.getfield 122, 3) := by decide +kernel
theorem dX8_landCrows_21 : decode cX8_landCrows 21 = .ok (.ifCond .eq 27, 3) := by decide +kernel
theorem dX8_landCrows_24 : decode cX8_landCrows 24 = .ok (.aload_n 2, 1) := by decide +kernel
theorem dX8_landCrows_25 : decode cX8_landCrows 25 = .ok (.getfield 176, 3) := by decide +kernel
theorem dX8_landCrows_28 : decode cX8_landCrows 28 = .ok (.aload_n 0, 1) := by decide +kernel
theorem dX8_landCrows_29 : decode cX8_landCrows 29 = .ok (.getfield 46, 3) := by decide +kernel
theorem dX8_landCrows_32 : decode cX8_landCrows 32 = .ok (.if_icmp .ne 16, 3) := by decide +kernel
theorem dX8_landCrows_35 : decode cX8_landCrows 35 = .ok (.aload_n 2, 1) := by decide +kernel
theorem dX8_landCrows_36 : decode cX8_landCrows 36 = .ok (.iconst 0, 1) := by decide +kernel
theorem dX8_landCrows_37 : decode cX8_landCrows 37 = .ok (.putfield 122, 3) := by decide +kernel
theorem dX8_landCrows_40 : decode cX8_landCrows 40 = .ok (.aload_n 0, 1) := by decide +kernel
theorem dX8_landCrows_41 : decode cX8_landCrows 41 = .ok (.aload_n 2, 1) := by decide +kernel
theorem dX8_landCrows_42 : decode cX8_landCrows 42 = .ok (.getfield 179, 3) := by decide +kernel
theorem dX8_landCrows_45 : decode cX8_landCrows 45 = .ok (.invokevirtual 182, 3) := by decide +kernel
theorem dX8_landCrows_48 : decode cX8_landCrows 48 = .ok (.iinc 1 1, 3) := by decide +kernel
theorem dX8_landCrows_51 : decode cX8_landCrows 51 = .ok (.goto (-49), 3) := by decide +kernel
theorem dX8_landCrows_54 : decode cX8_landCrows 54 = .ok (.return_, 1) := by decide +kernel
theorem dX8_wakeMessages_0 : decode cX8_wakeMessages 0 = .ok (.iconst 0, 1) := by decide +kernel
theorem dX8_wakeMessages_1 : decode cX8_wakeMessages 1 = .ok (.istore_n 1, 1) := by decide +kernel
theorem dX8_wakeMessages_2 : decode cX8_wakeMessages 2 = .ok (.iload_n 1, 1) := by decide +kernel
theorem dX8_wakeMessages_3 : decode cX8_wakeMessages 3 = .ok (.aload_n 0, 1) := by decide +kernel
theorem dX8_wakeMessages_4 : decode cX8_wakeMessages 4 = .ok (.getfield 43, 3) := by decide +kernel
theorem dX8_wakeMessages_7 : decode cX8_wakeMessages 7 = .ok (.if_icmp .ge 42, 3) := by decide +kernel
theorem dX8_wakeMessages_10 : decode cX8_wakeMessages 10 = .ok (.aload_n 0, 1) := by decide +kernel
theorem dX8_wakeMessages_11 : decode cX8_wakeMessages 11 = .ok (.getfield 25, 3) := by decide +kernel
theorem dX8_wakeMessages_14 : decode cX8_wakeMessages 14 = .ok (.iload_n 1, 1) := by decide +kernel
theorem dX8_wakeMessages_15 : decode cX8_wakeMessages 15 = .ok (.aaload, 1) := by decide +kernel
theorem dX8_wakeMessages_16 : decode cX8_wakeMessages 16 = .ok (.astore_n 2, 1) := by decide +kernel
theorem dX8_wakeMessages_17 : decode cX8_wakeMessages 17 = .ok (.aload_n 2, 1) := by decide +kernel
theorem dX8_wakeMessages_18 : decode cX8_wakeMessages 18 = .ok (.getfield 154, 3) := by decide +kernel
theorem dX8_wakeMessages_21 : decode cX8_wakeMessages 21 = .ok (.bipush 110, 2) := by decide +kernel
theorem dX8_wakeMessages_23 : decode cX8_wakeMessages 23 = .ok (.if_icmp .ne 20, 3) := by decide +kernel
theorem dX8_wakeMessages_26 : decode cX8_wakeMessages 26 = .ok (.aload_n 2, 1) := by decide +kernel
theorem dX8_wakeMessages_27 : decode cX8_wakeMessages 27 = .ok (.getfield 185, 3) := by decide +kernel
theorem dX8_wakeMessages_30 : decode cX8_wakeMessages 30 = .ok (.aload_n 0, 1) := by decide +kernel
theorem dX8_wakeMessages_31 : decode cX8_wakeMessages 31 = .ok (.getfield 46, 3) := by decide +kernel
theorem dX8_wakeMessages_34 : decode cX8_wakeMessages 34 = .ok (.if_icmp .ne 9, 3) := by decide +kernel
theorem dX8_wakeMessages_37 : decode cX8_wakeMessages 37 = .ok (.aload_n 2, 1) := by decide +kernel
theorem dX8_wakeMessages_38 : decode cX8_wakeMessages 38 = .ok (.bipush 119, 2) := by decide +kernel
theorem dX8_wakeMessages_40 : decode cX8_wakeMessages 40 = .ok (.putfield 154, 3) := by decide +kernel
theorem dX8_wakeMessages_43 : decode cX8_wakeMessages 43 = .ok (.iinc 1 1, 3) := by decide +kernel
theorem dX8_wakeMessages_46 : decode cX8_wakeMessages 46 = .ok (.goto (-44), 3) := by decide +kernel
theorem dX8_wakeMessages_49 : decode cX8_wakeMessages 49 = .ok (.return_, 1) := by decide +kernel
theorem dX8_sendCrows_0 : decode cX8_sendCrows 0 = .ok (.iconst 0, 1) := by decide +kernel
theorem dX8_sendCrows_1 : decode cX8_sendCrows 1 = .ok (.istore_n 1, 1) := by decide +kernel
theorem dX8_sendCrows_2 : decode cX8_sendCrows 2 = .ok (.iload_n 1, 1) := by decide +kernel
theorem dX8_sendCrows_3 : decode cX8_sendCrows 3 = .ok (.aload_n 0, 1) := by decide +kernel
theorem dX8_sendCrows_4 : decode cX8_sendCrows 4 = .ok (.getfield 40, 3) := by decide +kernel
theorem dX8_sendCrows_7 : decode cX8_sendCrows 7 = .ok (.if_icmp .ge 83, 3) := by decide +kernel
theorem dX8_sendCrows_10 : decode cX8_sendCrows 10 = .ok (.aload_n 0, 1) := by decide +kernel
theorem dX8_sendCrows_11 : decode cX8_sendCrows 11 = .ok (.getfield 19, 3) := by decide +kernel
theorem dX8_sendCrows_14 : decode cX8_sendCrows 14 = .ok (.iload_n 1, 1) := by decide +kernel
theorem dX8_sendCrows_15 : decode cX8_sendCrows 15 = .ok (.aaload, 1) := by decide +kernel
theorem dX8_sendCrows_16 : decode cX8_sendCrows 16 = .ok (.getfield 122, 3) := by decide +kernel
theorem dX8_sendCrows_19 : decode cX8_sendCrows 19 = .ok (.ifCond .eq 7, 3) := by decide +kernel
theorem dX8_sendCrows_22 : decode cX8_sendCrows 22 = .ok (.aconst_null, 1) := by decide +kernel
theorem dX8_sendCrows_23 : decode cX8_sendCrows 23 = .ok (.goto 8, 3) := by decide +kernel
theorem dX8_sendCrows_26 : decode cX8_sendCrows 26 = .ok (.aload_n 0, 1) := by decide +kernel
theorem dX8_sendCrows_27 : decode cX8_sendCrows 27 = .ok (.iconst 0, 1) := by decide +kernel
theorem dX8_sendCrows_28 : decode cX8_sendCrows 28 = .ok (.invokevirtual 188, 3) := by decide +kernel
theorem dX8_sendCrows_31 : decode cX8_sendCrows 31 = .ok (.astore_n 2, 1) := by decide +kernel
theorem dX8_sendCrows_32 : decode cX8_sendCrows 32 = .ok (.aload_n 2, 1) := by decide +kernel
theorem dX8_sendCrows_33 : decode cX8_sendCrows 33 = .ok (.ifnull 51, 3) := by decide +kernel
theorem dX8_sendCrows_36 : decode cX8_sendCrows 36 = .ok (.aload_n 2, 1) := by decide +kernel
theorem dX8_sendCrows_37 : decode cX8_sendCrows 37 = .ok (.bipush 102, 2) := by decide +kernel
theorem dX8_sendCrows_39 : decode cX8_sendCrows 39 = .ok (.putfield 154, 3) := by decide +kernel
theorem dX8_sendCrows_42 : decode cX8_sendCrows 42 = .ok (.aload_n 0, 1) := by decide +kernel
theorem dX8_sendCrows_43 : decode cX8_sendCrows 43 = .ok (.getfield 19, 3) := by decide +kernel
theorem dX8_sendCrows_46 : decode cX8_sendCrows 46 = .ok (.iload_n 1, 1) := by decide +kernel
theorem dX8_sendCrows_47 : decode cX8_sendCrows 47 = .ok (.aaload, 1) := by decide +kernel
theorem dX8_sendCrows_48 : decode cX8_sendCrows 48 = .ok (.iconst 1, 1) := by decide +kernel
theorem dX8_sendCrows_49 : decode cX8_sendCrows 49 = .ok (.putfield 122, 3) := by decide +kernel
theorem dX8_sendCrows_52 : decode cX8_sendCrows 52 = .ok (.aload_n 0, 1) := by decide +kernel
theorem dX8_sendCrows_53 : decode cX8_sendCrows 53 = .ok (.getfield 19, 3) := by decide +kernel
theorem dX8_sendCrows_56 : decode cX8_sendCrows 56 = .ok (.iload_n 1, 1) := by decide +kernel
theorem dX8_sendCrows_57 : decode cX8_sendCrows 57 = .ok (.aaload, 1) := by decide +kernel
theorem dX8_sendCrows_58 : decode cX8_sendCrows 58 = .ok (.aload_n 2, 1) := by decide +kernel
theorem dX8_sendCrows_59 : decode cX8_sendCrows 59 = .ok (.getfield 191, 3) := by decide +kernel
theorem dX8_sendCrows_62 : decode cX8_sendCrows 62 = .ok (.putfield 179, 3) := by decide +kernel
theorem dX8_sendCrows_65 : decode cX8_sendCrows 65 = .ok (.aload_n 0, 1) := by decide +kernel
theorem dX8_sendCrows_66 : decode cX8_sendCrows 66 = .ok (.getfield 19, 3) := by decide +kernel
theorem dX8_sendCrows_69 : decode cX8_sendCrows 69 = .ok (.iload_n 1, 1) := by decide +kernel
theorem dX8_sendCrows_70 : decode cX8_sendCrows 70 = .ok (.aaload, 1) := by decide +kernel
theorem dX8_sendCrows_71 : decode cX8_sendCrows 71 = .ok (.aload_n 0, 1) := by decide +kernel
theorem dX8_sendCrows_72 : decode cX8_sendCrows 72 = .ok (.getfield 46, 3) := by decide +kernel
theorem dX8_sendCrows_75 : decode cX8_sendCrows 75 = .ok (.aload_n 0, 1) := by decide +kernel
theorem dX8_sendCrows_76 : decode cX8_sendCrows 76 = .ok (.aload_n 2, 1) := by decide +kernel
theorem dX8_sendCrows_77 : decode cX8_sendCrows 77 = .ok (.invokevirtual 194, 3) := by decide +kernel
theorem dX8_sendCrows_80 : decode cX8_sendCrows 80 = .ok (.iadd, 1) := by decide +kernel
theorem dX8_sendCrows_81 : decode cX8_sendCrows 81 = .ok (.putfield 176, 3) := by decide +kernel
theorem dX8_sendCrows_84 : decode cX8_sendCrows 84 = .ok (.iinc 1 1, 3) := by decide +kernel
theorem dX8_sendCrows_87 : decode cX8_sendCrows 87 = .ok (.goto (-85), 3) := by decide +kernel
theorem dX8_sendCrows_90 : decode cX8_sendCrows 90 = .ok (.return_, 1) := by decide +kernel
theorem dX8_flightLength_0 : decode cX8_flightLength 0 = .ok (.aload_n 0, 1) := by decide +kernel
theorem dX8_flightLength_1 : decode cX8_flightLength 1 = .ok (.aload_n 1, 1) := by decide +kernel
theorem dX8_flightLength_2 : decode cX8_flightLength 2 = .ok (.getfield 198, 3) := by decide +kernel
theorem dX8_flightLength_5 : decode cX8_flightLength 5 = .ok (.invokevirtual 126, 3) := by decide +kernel
theorem dX8_flightLength_8 : decode cX8_flightLength 8 = .ok (.astore_n 2, 1) := by decide +kernel
theorem dX8_flightLength_9 : decode cX8_flightLength 9 = .ok (.aload_n 2, 1) := by decide +kernel
theorem dX8_flightLength_10 : decode cX8_flightLength 10 = .ok (.ifnonnull 7, 3) := by decide +kernel
theorem dX8_flightLength_13 : decode cX8_flightLength 13 = .ok (.iconst 1, 1) := by decide +kernel
theorem dX8_flightLength_14 : decode cX8_flightLength 14 = .ok (.goto 7, 3) := by decide +kernel
theorem dX8_flightLength_17 : decode cX8_flightLength 17 = .ok (.aload_n 2, 1) := by decide +kernel
theorem dX8_flightLength_18 : decode cX8_flightLength 18 = .ok (.getfield 201, 3) := by decide +kernel
theorem dX8_flightLength_21 : decode cX8_flightLength 21 = .ok (.istore_n 3, 1) := by decide +kernel
theorem dX8_flightLength_22 : decode cX8_flightLength 22 = .ok (.aload_n 0, 1) := by decide +kernel
theorem dX8_flightLength_23 : decode cX8_flightLength 23 = .ok (.getfield 49, 3) := by decide +kernel
theorem dX8_flightLength_26 : decode cX8_flightLength 26 = .ok (.iconst 5, 1) := by decide +kernel
theorem dX8_flightLength_27 : decode cX8_flightLength 27 = .ok (.if_icmp .le 9, 3) := by decide +kernel
theorem dX8_flightLength_30 : decode cX8_flightLength 30 = .ok (.iload_n 3, 1) := by decide +kernel
theorem dX8_flightLength_31 : decode cX8_flightLength 31 = .ok (.iconst 1, 1) := by decide +kernel
theorem dX8_flightLength_32 : decode cX8_flightLength 32 = .ok (.iadd, 1) := by decide +kernel
theorem dX8_flightLength_33 : decode cX8_flightLength 33 = .ok (.goto 4, 3) := by decide +kernel
theorem dX8_flightLength_36 : decode cX8_flightLength 36 = .ok (.iload_n 3, 1) := by decide +kernel
theorem dX8_flightLength_37 : decode cX8_flightLength 37 = .ok (.ireturn, 1) := by decide +kernel
theorem dX8_arrive_0 : decode cX8_arrive 0 = .ok (.aload_n 0, 1) := by decide +kernel
theorem dX8_arrive_1 : decode cX8_arrive 1 = .ok (.iload_n 1, 1) := by decide +kernel
theorem dX8_arrive_2 : decode cX8_arrive 2 = .ok (.invokevirtual 150, 3) := by decide +kernel
theorem dX8_arrive_5 : decode cX8_arrive 5 = .ok (.astore_n 2, 1) := by decide +kernel
theorem dX8_arrive_6 : decode cX8_arrive 6 = .ok (.aload_n 2, 1) := by decide +kernel
theorem dX8_arrive_7 : decode cX8_arrive 7 = .ok (.ifnonnull 4, 3) := by decide +kernel
theorem dX8_arrive_10 : decode cX8_arrive 10 = .ok (.return_, 1) := by decide +kernel
theorem dX8_arrive_11 : decode cX8_arrive 11 = .ok (.aload_n 0, 1) := by decide +kernel
theorem dX8_arrive_12 : decode cX8_arrive 12 = .ok (.aload_n 2, 1) := by decide +kernel
theorem dX8_arrive_13 : decode cX8_arrive 13 = .ok (.getfield 198, 3) := by decide +kernel
theorem dX8_arrive_16 : decode cX8_arrive 16 = .ok (.invokevirtual 126, 3) := by decide +kernel
theorem dX8_arrive_19 : decode cX8_arrive 19 = .ok (.astore_n 3, 1) := by decide +kernel
theorem dX8_arrive_20 : decode cX8_arrive 20 = .ok (.aload_n 3, 1) := by decide +kernel
theorem dX8_arrive_21 : decode cX8_arrive 21 = .ok (.ifnonnull 4, 3) := by decide +kernel
theorem dX8_arrive_24 : decode cX8_arrive 24 = .ok (.return_, 1) := by decide +kernel
theorem dX8_arrive_25 : decode cX8_arrive 25 = .ok (.aload_n 2, 1) := by decide +kernel
theorem dX8_arrive_26 : decode cX8_arrive 26 = .ok (.dup, 1) := by decide +kernel
theorem dX8_arrive_27 : decode cX8_arrive 27 = .ok (.getfield 204, 3) := by decide +kernel
theorem dX8_arrive_30 : decode cX8_arrive 30 = .ok (.iconst 1, 1) := by decide +kernel
theorem dX8_arrive_31 : decode cX8_arrive 31 = .ok (.iadd, 1) := by decide +kernel
theorem dX8_arrive_32 : decode cX8_arrive 32 = .ok (.putfield 204, 3) := by decide +kernel
theorem dX8_arrive_35 : decode cX8_arrive 35 = .ok (.aload_n 0, 1) := by decide +kernel
theorem dX8_arrive_36 : decode cX8_arrive 36 = .ok (.getfield 32, 3) := by decide +kernel
theorem dX8_arrive_39 : decode cX8_arrive 39 = .ok (.dup, 1) := by decide +kernel
theorem dX8_arrive_40 : decode cX8_arrive 40 = .ok (.getfield 207, 3) := by decide +kernel
theorem dX8_arrive_43 : decode cX8_arrive 43 = .ok (.iconst 1, 1) := by decide +kernel
theorem dX8_arrive_44 : decode cX8_arrive 44 = .ok (.iadd, 1) := by decide +kernel
theorem dX8_arrive_45 : decode cX8_arrive 45 = .ok (.putfield 207, 3) := by decide +kernel
theorem dX8_arrive_48 : decode cX8_arrive 48 = .ok (.aload_n 0, 1) := by decide +kernel
theorem dX8_arrive_49 : decode cX8_arrive 49 = .ok (.aload_n 2, 1) := by decide +kernel
theorem dX8_arrive_50 : decode cX8_arrive 50 = .ok (.aload_n 2, 1) := by decide +kernel
theorem dX8_arrive_51 : decode cX8_arrive 51 = .ok (.getfield 204, 3) := by decide +kernel
theorem dX8_arrive_54 : decode cX8_arrive 54 = .ok (.invokevirtual 210, 3) := by decide +kernel
theorem dX8_arrive_57 : decode cX8_arrive 57 = .ok (.istore 4, 2) := by decide +kernel
theorem dX8_arrive_59 : decode cX8_arrive 59 = .ok (.iload 4, 2) := by decide +kernel
theorem dX8_arrive_61 : decode cX8_arrive 61 = .ok (.ifCond .ne 35, 3) := by decide +kernel
theorem dX8_arrive_64 : decode cX8_arrive 64 = .ok (.aload_n 3, 1) := by decide +kernel
theorem dX8_arrive_65 : decode cX8_arrive 65 = .ok (.aload_n 2, 1) := by decide +kernel
theorem dX8_arrive_66 : decode cX8_arrive 66 = .ok (.getfield 214, 3) := by decide +kernel
theorem dX8_arrive_69 : decode cX8_arrive 69 = .ok (.invokevirtual 217, 3) := by decide +kernel
theorem dX8_arrive_72 : decode cX8_arrive 72 = .ok (.ifCond .eq 24, 3) := by decide +kernel
theorem dX8_arrive_75 : decode cX8_arrive 75 = .ok (.aload_n 0, 1) := by decide +kernel
theorem dX8_arrive_76 : decode cX8_arrive 76 = .ok (.iload_n 1, 1) := by decide +kernel
theorem dX8_arrive_77 : decode cX8_arrive 77 = .ok (.invokevirtual 143, 3) := by decide +kernel
theorem dX8_arrive_80 : decode cX8_arrive 80 = .ok (.aload_n 0, 1) := by decide +kernel
theorem dX8_arrive_81 : decode cX8_arrive 81 = .ok (.getfield 32, 3) := by decide +kernel
theorem dX8_arrive_84 : decode cX8_arrive 84 = .ok (.dup, 1) := by decide +kernel
theorem dX8_arrive_85 : decode cX8_arrive 85 = .ok (.getfield 221, 3) := by decide +kernel
theorem dX8_arrive_88 : decode cX8_arrive 88 = .ok (.iconst 1, 1) := by decide +kernel
theorem dX8_arrive_89 : decode cX8_arrive 89 = .ok (.iadd, 1) := by decide +kernel
theorem dX8_arrive_90 : decode cX8_arrive 90 = .ok (.putfield 221, 3) := by decide +kernel
theorem dX8_arrive_93 : decode cX8_arrive 93 = .ok (.goto 98, 3) := by decide +kernel
theorem dX8_arrive_96 : decode cX8_arrive 96 = .ok (.iload 4, 2) := by decide +kernel
theorem dX8_arrive_98 : decode cX8_arrive 98 = .ok (.ifCond .ne 41, 3) := by decide +kernel
theorem dX8_arrive_101 : decode cX8_arrive 101 = .ok (.aload_n 3, 1) := by decide +kernel
theorem dX8_arrive_102 : decode cX8_arrive 102 = .ok (.invokevirtual 224, 3) := by decide +kernel
theorem dX8_arrive_105 : decode cX8_arrive 105 = .ok (.ifCond .eq 34, 3) := by decide +kernel
theorem dX8_arrive_108 : decode cX8_arrive 108 = .ok (.aload_n 3, 1) := by decide +kernel
theorem dX8_arrive_109 : decode cX8_arrive 109 = .ok (.iload_n 1, 1) := by decide +kernel
theorem dX8_arrive_110 : decode cX8_arrive 110 = .ok (.aload_n 2, 1) := by decide +kernel
theorem dX8_arrive_111 : decode cX8_arrive 111 = .ok (.getfield 214, 3) := by decide +kernel
theorem dX8_arrive_114 : decode cX8_arrive 114 = .ok (.invokevirtual 228, 3) := by decide +kernel
theorem dX8_arrive_117 : decode cX8_arrive 117 = .ok (.aload_n 2, 1) := by decide +kernel
theorem dX8_arrive_118 : decode cX8_arrive 118 = .ok (.bipush 100, 2) := by decide +kernel
theorem dX8_arrive_120 : decode cX8_arrive 120 = .ok (.putfield 154, 3) := by decide +kernel
theorem dX8_arrive_123 : decode cX8_arrive 123 = .ok (.aload_n 0, 1) := by decide +kernel
theorem dX8_arrive_124 : decode cX8_arrive 124 = .ok (.getfield 32, 3) := by decide +kernel
theorem dX8_arrive_127 : decode cX8_arrive 127 = .ok (.dup, 1) := by decide +kernel
theorem dX8_arrive_128 : decode cX8_arrive 128 = .ok (.getfield 164, 3) := by decide +kernel
theorem dX8_arrive_131 : decode cX8_arrive 131 = .ok (.iconst 1, 1) := by decide +kernel
theorem dX8_arrive_132 : decode cX8_arrive 132 = .ok (.iadd, 1) := by decide +kernel
theorem dX8_arrive_133 : decode cX8_arrive 133 = .ok (.putfield 164, 3) := by decide +kernel
theorem dX8_arrive_136 : decode cX8_arrive 136 = .ok (.goto 55, 3) := by decide +kernel
theorem dX8_arrive_139 : decode cX8_arrive 139 = .ok (.aload_n 2, 1) := by decide +kernel
theorem dX8_arrive_140 : decode cX8_arrive 140 = .ok (.getfield 204, 3) := by decide +kernel
theorem dX8_arrive_143 : decode cX8_arrive 143 = .ok (.iconst 5, 1) := by decide +kernel
theorem dX8_arrive_144 : decode cX8_arrive 144 = .ok (.if_icmp .lt 24, 3) := by decide +kernel
theorem dX8_arrive_147 : decode cX8_arrive 147 = .ok (.aload_n 0, 1) := by decide +kernel
theorem dX8_arrive_148 : decode cX8_arrive 148 = .ok (.iload_n 1, 1) := by decide +kernel
theorem dX8_arrive_149 : decode cX8_arrive 149 = .ok (.invokevirtual 143, 3) := by decide +kernel
theorem dX8_arrive_152 : decode cX8_arrive 152 = .ok (.aload_n 0, 1) := by decide +kernel
theorem dX8_arrive_153 : decode cX8_arrive 153 = .ok (.getfield 32, 3) := by decide +kernel
theorem dX8_arrive_156 : decode cX8_arrive 156 = .ok (.dup, 1) := by decide +kernel
theorem dX8_arrive_157 : decode cX8_arrive 157 = .ok (.getfield 231, 3) := by decide +kernel
theorem dX8_arrive_160 : decode cX8_arrive 160 = .ok (.iconst 1, 1) := by decide +kernel
theorem dX8_arrive_161 : decode cX8_arrive 161 = .ok (.iadd, 1) := by decide +kernel
theorem dX8_arrive_162 : decode cX8_arrive 162 = .ok (.putfield 231, 3) := by decide +kernel
theorem dX8_arrive_165 : decode cX8_arrive 165 = .ok (.goto 26, 3) := by decide +kernel
theorem dX8_arrive_168 : decode cX8_arrive 168 = .ok (.aload_n 2, 1) := by decide +kernel
theorem dX8_arrive_169 : decode cX8_arrive 169 = .ok (.bipush 110, 2) := by decide +kernel
theorem dX8_arrive_171 : decode cX8_arrive 171 = .ok (.putfield 154, 3) := by decide +kernel
theorem dX8_arrive_174 : decode cX8_arrive 174 = .ok (.aload_n 2, 1) := by decide +kernel
theorem dX8_arrive_175 : decode cX8_arrive 175 = .ok (.aload_n 0, 1) := by decide +kernel
theorem dX8_arrive_176 : decode cX8_arrive 176 = .ok (.getfield 46, 3) := by decide +kernel
theorem dX8_arrive_179 : decode cX8_arrive 179 = .ok (.aload_n 2, 1) := by decide +kernel
theorem dX8_arrive_180 : decode cX8_arrive 180 = .ok (.getfield 204, 3) := by decide +kernel
theorem dX8_arrive_183 : decode cX8_arrive 183 = .ok (.invokestatic 234, 3) := by decide +kernel
theorem dX8_arrive_186 : decode cX8_arrive 186 = .ok (.l2i, 1) := by decide +kernel
theorem dX8_arrive_187 : decode cX8_arrive 187 = .ok (.iadd, 1) := by decide +kernel
theorem dX8_arrive_188 : decode cX8_arrive 188 = .ok (.putfield 185, 3) := by decide +kernel
theorem dX8_arrive_191 : decode cX8_arrive 191 = .ok (.return_, 1) := by decide +kernel
theorem dX8_isLost_0 : decode cX8_isLost 0 = .ok (.aload_n 0, 1) := by decide +kernel
theorem dX8_isLost_1 : decode cX8_isLost 1 = .ok (.aload_n 1, 1) := by decide +kernel
theorem dX8_isLost_2 : decode cX8_isLost 2 = .ok (.getfield 198, 3) := by decide +kernel
theorem dX8_isLost_5 : decode cX8_isLost 5 = .ok (.invokevirtual 126, 3) := by decide +kernel
theorem dX8_isLost_8 : decode cX8_isLost 8 = .ok (.astore_n 3, 1) := by decide +kernel
theorem dX8_isLost_9 : decode cX8_isLost 9 = .ok (.aload_n 3, 1) := by decide +kernel
theorem dX8_isLost_10 : decode cX8_isLost 10 = .ok (.ifnull 27, 3) := by decide +kernel
theorem dX8_isLost_13 : decode cX8_isLost 13 = .ok (.aload_n 1, 1) := by decide +kernel
theorem dX8_isLost_14 : decode cX8_isLost 14 = .ok (.getfield 191, 3) := by decide +kernel
theorem dX8_isLost_17 : decode cX8_isLost 17 = .ok (.iload_n 2, 1) := by decide +kernel
theorem dX8_isLost_18 : decode cX8_isLost 18 = .ok (.iadd, 1) := by decide +kernel
theorem dX8_isLost_19 : decode cX8_isLost 19 = .ok (.aload_n 0, 1) := by decide +kernel
theorem dX8_isLost_20 : decode cX8_isLost 20 = .ok (.getfield 49, 3) := by decide +kernel
theorem dX8_isLost_23 : decode cX8_isLost 23 = .ok (.iadd, 1) := by decide +kernel
theorem dX8_isLost_24 : decode cX8_isLost 24 = .ok (.iconst 5, 1) := by decide +kernel
theorem dX8_isLost_25 : decode cX8_isLost 25 = .ok (.irem, 1) := by decide +kernel
theorem dX8_isLost_26 : decode cX8_isLost 26 = .ok (.aload_n 3, 1) := by decide +kernel
theorem dX8_isLost_27 : decode cX8_isLost 27 = .ok (.getfield 238, 3) := by decide +kernel
theorem dX8_isLost_30 : decode cX8_isLost 30 = .ok (.if_icmp .ge 7, 3) := by decide +kernel
theorem dX8_isLost_33 : decode cX8_isLost 33 = .ok (.iconst 1, 1) := by decide +kernel
theorem dX8_isLost_34 : decode cX8_isLost 34 = .ok (.goto 4, 3) := by decide +kernel
theorem dX8_isLost_37 : decode cX8_isLost 37 = .ok (.iconst 0, 1) := by decide +kernel
theorem dX8_isLost_38 : decode cX8_isLost 38 = .ok (.ireturn, 1) := by decide +kernel
theorem dX8_remove_0 : decode cX8_remove 0 = .ok (.aload_n 0, 1) := by decide +kernel
theorem dX8_remove_1 : decode cX8_remove 1 = .ok (.iload_n 1, 1) := by decide +kernel
theorem dX8_remove_2 : decode cX8_remove 2 = .ok (.invokevirtual 241, 3) := by decide +kernel
theorem dX8_remove_5 : decode cX8_remove 5 = .ok (.istore_n 2, 1) := by decide +kernel
theorem dX8_remove_6 : decode cX8_remove 6 = .ok (.iload_n 2, 1) := by decide +kernel
theorem dX8_remove_7 : decode cX8_remove 7 = .ok (.iconst (-1), 1) := by decide +kernel
theorem dX8_remove_8 : decode cX8_remove 8 = .ok (.if_icmp .ne 4, 3) := by decide +kernel
theorem dX8_remove_11 : decode cX8_remove 11 = .ok (.return_, 1) := by decide +kernel
theorem dX8_remove_12 : decode cX8_remove 12 = .ok (.aload_n 0, 1) := by decide +kernel
theorem dX8_remove_13 : decode cX8_remove 13 = .ok (.getfield 25, 3) := by decide +kernel
theorem dX8_remove_16 : decode cX8_remove 16 = .ok (.iload_n 2, 1) := by decide +kernel
theorem dX8_remove_17 : decode cX8_remove 17 = .ok (.aaload, 1) := by decide +kernel
theorem dX8_remove_18 : decode cX8_remove 18 = .ok (.astore_n 3, 1) := by decide +kernel
theorem dX8_remove_19 : decode cX8_remove 19 = .ok (.iload_n 2, 1) := by decide +kernel
theorem dX8_remove_20 : decode cX8_remove 20 = .ok (.istore 4, 2) := by decide +kernel
theorem dX8_remove_22 : decode cX8_remove 22 = .ok (.iload 4, 2) := by decide +kernel
theorem dX8_remove_24 : decode cX8_remove 24 = .ok (.iconst 1, 1) := by decide +kernel
theorem dX8_remove_25 : decode cX8_remove 25 = .ok (.iadd, 1) := by decide +kernel
theorem dX8_remove_26 : decode cX8_remove 26 = .ok (.aload_n 0, 1) := by decide +kernel
theorem dX8_remove_27 : decode cX8_remove 27 = .ok (.getfield 43, 3) := by decide +kernel
theorem dX8_remove_30 : decode cX8_remove 30 = .ok (.if_icmp .ge 25, 3) := by decide +kernel
theorem dX8_remove_33 : decode cX8_remove 33 = .ok (.aload_n 0, 1) := by decide +kernel
theorem dX8_remove_34 : decode cX8_remove 34 = .ok (.getfield 25, 3) := by decide +kernel
theorem dX8_remove_37 : decode cX8_remove 37 = .ok (.iload 4, 2) := by decide +kernel
theorem dX8_remove_39 : decode cX8_remove 39 = .ok (.aload_n 0, 1) := by decide +kernel
theorem dX8_remove_40 : decode cX8_remove 40 = .ok (.getfield 25, 3) := by decide +kernel
theorem dX8_remove_43 : decode cX8_remove 43 = .ok (.iload 4, 2) := by decide +kernel
theorem dX8_remove_45 : decode cX8_remove 45 = .ok (.iconst 1, 1) := by decide +kernel
theorem dX8_remove_46 : decode cX8_remove 46 = .ok (.iadd, 1) := by decide +kernel
theorem dX8_remove_47 : decode cX8_remove 47 = .ok (.aaload, 1) := by decide +kernel
theorem dX8_remove_48 : decode cX8_remove 48 = .ok (.aastore, 1) := by decide +kernel
theorem dX8_remove_49 : decode cX8_remove 49 = .ok (.iinc 4 1, 3) := by decide +kernel
theorem dX8_remove_52 : decode cX8_remove 52 = .ok (.goto (-30), 3) := by decide +kernel
theorem dX8_remove_55 : decode cX8_remove 55 = .ok (.aload_n 0, 1) := by decide +kernel
theorem dX8_remove_56 : decode cX8_remove 56 = .ok (.dup, 1) := by decide +kernel
theorem dX8_remove_57 : decode cX8_remove 57 = .ok (.getfield 43, 3) := by decide +kernel
theorem dX8_remove_60 : decode cX8_remove 60 = .ok (.iconst 1, 1) := by decide +kernel
theorem dX8_remove_61 : decode cX8_remove 61 = .ok (.isub, 1) := by decide +kernel
theorem dX8_remove_62 : decode cX8_remove 62 = .ok (.putfield 43, 3) := by decide +kernel
theorem dX8_remove_65 : decode cX8_remove 65 = .ok (.aload_n 0, 1) := by decide +kernel
theorem dX8_remove_66 : decode cX8_remove 66 = .ok (.getfield 25, 3) := by decide +kernel
theorem dX8_remove_69 : decode cX8_remove 69 = .ok (.aload_n 0, 1) := by decide +kernel
theorem dX8_remove_70 : decode cX8_remove 70 = .ok (.getfield 43, 3) := by decide +kernel
theorem dX8_remove_73 : decode cX8_remove 73 = .ok (.aload_n 3, 1) := by decide +kernel
