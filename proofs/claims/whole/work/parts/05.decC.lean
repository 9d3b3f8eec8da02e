theorem dX11_init_0 : decode cX11_init 0 = .ok (.aload_n 0, 1) := by decide +kernel
theorem dX11_init_1 : decode cX11_init 1 = .ok (.invokespecial 1, 3) := by decide +kernel
theorem dX11_init_4 : decode cX11_init 4 = .ok (.aload_n 0, 1) := by decide +kernel
theorem dX11_init_5 : decode cX11_init 5 = .ok (.sipush 1634, 3) := by decide +kernel
theorem dX11_init_8 : decode cX11_init 8 = .ok (.newarray .int, 2) := by decide +kernel
theorem dX11_init_10 : decode cX11_init 10 = .ok (.putfield 7, 3) := by decide +kernel
theorem dX11_init_13 : decode cX11_init 13 = .ok (.aload_n 0, 1) := by decide +kernel
theorem dX11_init_14 : decode cX11_init 14 = .ok (.iconst 2, 1) := by decide +kernel
theorem dX11_init_15 : decode cX11_init 15 = .ok (.newarray .int, 2) := by decide +kernel
theorem dX11_init_17 : decode cX11_init 17 = .ok (.putfield 13, 3) := by decide +kernel
theorem dX11_init_20 : decode cX11_init 20 = .ok (.aload_n 0, 1) := by decide +kernel
theorem dX11_init_21 : decode cX11_init 21 = .ok (.bipush 60, 2) := by decide +kernel
theorem dX11_init_23 : decode cX11_init 23 = .ok (.newarray .int, 2) := by decide +kernel
theorem dX11_init_25 : decode cX11_init 25 = .ok (.putfield 16, 3) := by decide +kernel
theorem dX11_init_28 : decode cX11_init 28 = .ok (.aload_n 0, 1) := by decide +kernel
theorem dX11_init_29 : decode cX11_init 29 = .ok (.iconst (-1), 1) := by decide +kernel
theorem dX11_init_30 : decode cX11_init 30 = .ok (.putfield 19, 3) := by decide +kernel
theorem dX11_init_33 : decode cX11_init 33 = .ok (.aload_n 0, 1) := by decide +kernel
theorem dX11_init_34 : decode cX11_init 34 = .ok (.bipush 20, 2) := by decide +kernel
theorem dX11_init_36 : decode cX11_init 36 = .ok (.newarray .int, 2) := by decide +kernel
theorem dX11_init_38 : decode cX11_init 38 = .ok (.putfield 23, 3) := by decide +kernel
theorem dX11_init_41 : decode cX11_init 41 = .ok (.aload_n 0, 1) := by decide +kernel
theorem dX11_init_42 : decode cX11_init 42 = .ok (.bipush 20, 2) := by decide +kernel
theorem dX11_init_44 : decode cX11_init 44 = .ok (.newarray .int, 2) := by decide +kernel
theorem dX11_init_46 : decode cX11_init 46 = .ok (.putfield 26, 3) := by decide +kernel
theorem dX11_init_49 : decode cX11_init 49 = .ok (.aload_n 0, 1) := by decide +kernel
theorem dX11_init_50 : decode cX11_init 50 = .ok (.bipush 20, 2) := by decide +kernel
theorem dX11_init_52 : decode cX11_init 52 = .ok (.newarray .int, 2) := by decide +kernel
theorem dX11_init_54 : decode cX11_init 54 = .ok (.putfield 29, 3) := by decide +kernel
theorem dX11_init_57 : decode cX11_init 57 = .ok (.aload_n 0, 1) := by decide +kernel
theorem dX11_init_58 : decode cX11_init 58 = .ok (.bipush 52, 2) := by decide +kernel
theorem dX11_init_60 : decode cX11_init 60 = .ok (.newarray .int, 2) := by decide +kernel
theorem dX11_init_62 : decode cX11_init 62 = .ok (.putfield 32, 3) := by decide +kernel
theorem dX11_init_65 : decode cX11_init 65 = .ok (.aload_n 0, 1) := by decide +kernel
theorem dX11_init_66 : decode cX11_init 66 = .ok (.bipush 12, 2) := by decide +kernel
theorem dX11_init_68 : decode cX11_init 68 = .ok (.newarray .int, 2) := by decide +kernel
theorem dX11_init_70 : decode cX11_init 70 = .ok (.putfield 35, 3) := by decide +kernel
theorem dX11_init_73 : decode cX11_init 73 = .ok (.aload_n 0, 1) := by decide +kernel
theorem dX11_init_74 : decode cX11_init 74 = .ok (.sipush 160, 3) := by decide +kernel
theorem dX11_init_77 : decode cX11_init 77 = .ok (.newarray .int, 2) := by decide +kernel
theorem dX11_init_79 : decode cX11_init 79 = .ok (.putfield 38, 3) := by decide +kernel
theorem dX11_init_82 : decode cX11_init 82 = .ok (.aload_n 0, 1) := by decide +kernel
theorem dX11_init_83 : decode cX11_init 83 = .ok (.sipush 160, 3) := by decide +kernel
theorem dX11_init_86 : decode cX11_init 86 = .ok (.newarray .int, 2) := by decide +kernel
theorem dX11_init_88 : decode cX11_init 88 = .ok (.putfield 41, 3) := by decide +kernel
theorem dX11_init_91 : decode cX11_init 91 = .ok (.aload_n 0, 1) := by decide +kernel
theorem dX11_init_92 : decode cX11_init 92 = .ok (.sipush 160, 3) := by decide +kernel
theorem dX11_init_95 : decode cX11_init 95 = .ok (.newarray .int, 2) := by decide +kernel
theorem dX11_init_97 : decode cX11_init 97 = .ok (.putfield 44, 3) := by decide +kernel
theorem dX11_init_100 : decode cX11_init 100 = .ok (.aload_n 0, 1) := by decide +kernel
theorem dX11_init_101 : decode cX11_init 101 = .ok (.sipush 160, 3) := by decide +kernel
theorem dX11_init_104 : decode cX11_init 104 = .ok (.newarray .int, 2) := by decide +kernel
theorem dX11_init_106 : decode cX11_init 106 = .ok (.putfield 47, 3) := by decide +kernel
theorem dX11_init_109 : decode cX11_init 109 = .ok (.aload_n 0, 1) := by decide +kernel
theorem dX11_init_110 : decode cX11_init 110 = .ok (.sipush 160, 3) := by decide +kernel
theorem dX11_init_113 : decode cX11_init 113 = .ok (.newarray .int, 2) := by decide +kernel
theorem dX11_init_115 : decode cX11_init 115 = .ok (.putfield 50, 3) := by decide +kernel
theorem dX11_init_118 : decode cX11_init 118 = .ok (.aload_n 0, 1) := by decide +kernel
theorem dX11_init_119 : decode cX11_init 119 = .ok (.bipush 40, 2) := by decide +kernel
theorem dX11_init_121 : decode cX11_init 121 = .ok (.newarray .int, 2) := by decide +kernel
theorem dX11_init_123 : decode cX11_init 123 = .ok (.putfield 53, 3) := by decide +kernel
theorem dX11_init_126 : decode cX11_init 126 = .ok (.aload_n 0, 1) := by decide +kernel
theorem dX11_init_127 : decode cX11_init 127 = .ok (.bipush 40, 2) := by decide +kernel
theorem dX11_init_129 : decode cX11_init 129 = .ok (.newarray .int, 2) := by decide +kernel
theorem dX11_init_131 : decode cX11_init 131 = .ok (.putfield 56, 3) := by decide +kernel
theorem dX11_init_134 : decode cX11_init 134 = .ok (.aload_n 0, 1) := by decide +kernel
theorem dX11_init_135 : decode cX11_init 135 = .ok (.getfield 7, 3) := by decide +kernel
theorem dX11_init_138 : decode cX11_init 138 = .ok (.iconst 0, 1) := by decide +kernel
theorem dX11_init_139 : decode cX11_init 139 = .ok (.bipush 6, 2) := by decide +kernel
theorem dX11_init_141 : decode cX11_init 141 = .ok (.iastore, 1) := by decide +kernel
theorem dX11_init_142 : decode cX11_init 142 = .ok (.aload_n 0, 1) := by decide +kernel
theorem dX11_init_143 : decode cX11_init 143 = .ok (.getfield 7, 3) := by decide +kernel
theorem dX11_init_146 : decode cX11_init 146 = .ok (.iconst 2, 1) := by decide +kernel
theorem dX11_init_147 : decode cX11_init 147 = .ok (.iconst 2, 1) := by decide +kernel
theorem dX11_init_148 : decode cX11_init 148 = .ok (.iastore, 1) := by decide +kernel
theorem dX11_init_149 : decode cX11_init 149 = .ok (.aload_n 0, 1) := by decide +kernel
theorem dX11_init_150 : decode cX11_init 150 = .ok (.getfield 7, 3) := by decide +kernel
theorem dX11_init_153 : decode cX11_init 153 = .ok (.iconst 3, 1) := by decide +kernel
theorem dX11_init_154 : decode cX11_init 154 = .ok (.iconst 2, 1) := by decide +kernel
theorem dX11_init_155 : decode cX11_init 155 = .ok (.iastore, 1) := by decide +kernel
theorem dX11_init_156 : decode cX11_init 156 = .ok (.aload_n 0, 1) := by decide +kernel
theorem dX11_init_157 : decode cX11_init 157 = .ok (.getfield 7, 3) := by decide +kernel
theorem dX11_init_160 : decode cX11_init 160 = .ok (.iconst 4, 1) := by decide +kernel
theorem dX11_init_161 : decode cX11_init 161 = .ok (.iconst 2, 1) := by decide +kernel
theorem dX11_init_162 : decode cX11_init 162 = .ok (.iastore, 1) := by decide +kernel
theorem dX11_init_163 : decode cX11_init 163 = .ok (.aload_n 0, 1) := by decide +kernel
theorem dX11_init_164 : decode cX11_init 164 = .ok (.getfield 7, 3) := by decide +kernel
theorem dX11_init_167 : decode cX11_init 167 = .ok (.iconst 5, 1) := by decide +kernel
theorem dX11_init_168 : decode cX11_init 168 = .ok (.bipush 6, 2) := by decide +kernel
theorem dX11_init_170 : decode cX11_init 170 = .ok (.iastore, 1) := by decide +kernel
theorem dX11_init_171 : decode cX11_init 171 = .ok (.return_, 1) := by decide +kernel
theorem dX11_in_0 : decode cX11_in 0 = .ok (.lload_n 0, 1) := by decide +kernel
theorem dX11_in_1 : decode cX11_in 1 = .ok (.lload_n 2, 1) := by decide +kernel
theorem dX11_in_2 : decode cX11_in 2 = .ok (.lcmp, 1) := by decide +kernel
theorem dX11_in_3 : decode cX11_in 3 = .ok (.ifCond .lt 14, 3) := by decide +kernel
theorem dX11_in_6 : decode cX11_in 6 = .ok (.lload_n 0, 1) := by decide +kernel
theorem dX11_in_7 : decode cX11_in 7 = .ok (.lload 4, 2) := by decide +kernel
theorem dX11_in_9 : decode cX11_in 9 = .ok (.lcmp, 1) := by decide +kernel
theorem dX11_in_10 : decode cX11_in 10 = .ok (.ifCond .gt 7, 3) := by decide +kernel
theorem dX11_in_13 : decode cX11_in 13 = .ok (.iconst 1, 1) := by decide +kernel
theorem dX11_in_14 : decode cX11_in 14 = .ok (.goto 4, 3) := by decide +kernel
theorem dX11_in_17 : decode cX11_in 17 = .ok (.iconst 0, 1) := by decide +kernel
theorem dX11_in_18 : decode cX11_in 18 = .ok (.ireturn, 1) := by decide +kernel
theorem dX11_has_0 : decode cX11_has 0 = .ok (.iload_n 0, 1) := by decide +kernel
theorem dX11_has_1 : decode cX11_has 1 = .ok (.iload_n 1, 1) := by decide +kernel
theorem dX11_has_2 : decode cX11_has 2 = .ok (.ishr, 1) := by decide +kernel
theorem dX11_has_3 : decode cX11_has 3 = .ok (.iconst 1, 1) := by decide +kernel
theorem dX11_has_4 : decode cX11_has 4 = .ok (.iand, 1) := by decide +kernel
theorem dX11_has_5 : decode cX11_has 5 = .ok (.iconst 1, 1) := by decide +kernel
theorem dX11_has_6 : decode cX11_has 6 = .ok (.if_icmp .ne 7, 3) := by decide +kernel
theorem dX11_has_9 : decode cX11_has 9 = .ok (.iconst 1, 1) := by decide +kernel
theorem dX11_has_10 : decode cX11_has 10 = .ok (.goto 4, 3) := by decide +kernel
theorem dX11_has_13 : decode cX11_has 13 = .ok (.iconst 0, 1) := by decide +kernel
theorem dX11_has_14 : decode cX11_has 14 = .ok (.ireturn, 1) := by decide +kernel
theorem dX11_copyRow_0 : decode cX11_copyRow 0 = .ok (.iconst 0, 1) := by decide +kernel
theorem dX11_copyRow_1 : decode cX11_copyRow 1 = .ok (.istore_n 3, 1) := by decide +kernel
theorem dX11_copyRow_2 : decode cX11_copyRow 2 = .ok (.iload_n 3, 1) := by decide +kernel
theorem dX11_copyRow_3 : decode cX11_copyRow 3 = .ok (.bipush 86, 2) := by decide +kernel
theorem dX11_copyRow_5 : decode cX11_copyRow 5 = .ok (.if_icmp .ge 25, 3) := by decide +kernel
theorem dX11_copyRow_8 : decode cX11_copyRow 8 = .ok (.aload_n 0, 1) := by decide +kernel
theorem dX11_copyRow_9 : decode cX11_copyRow 9 = .ok (.getfield 7, 3) := by decide +kernel
theorem dX11_copyRow_12 : decode cX11_copyRow 12 = .ok (.iload_n 2, 1) := by decide +kernel
theorem dX11_copyRow_13 : decode cX11_copyRow 13 = .ok (.iload_n 3, 1) := by decide +kernel
theorem dX11_copyRow_14 : decode cX11_copyRow 14 = .ok (.iadd, 1) := by decide +kernel
theorem dX11_copyRow_15 : decode cX11_copyRow 15 = .ok (.aload_n 0, 1) := by decide +kernel
theorem dX11_copyRow_16 : decode cX11_copyRow 16 = .ok (.getfield 7, 3) := by decide +kernel
theorem dX11_copyRow_19 : decode cX11_copyRow 19 = .ok (.iload_n 1, 1) := by decide +kernel
theorem dX11_copyRow_20 : decode cX11_copyRow 20 = .ok (.iload_n 3, 1) := by decide +kernel
theorem dX11_copyRow_21 : decode cX11_copyRow 21 = .ok (.iadd, 1) := by decide +kernel
theorem dX11_copyRow_22 : decode cX11_copyRow 22 = .ok (.iaload, 1) := by decide +kernel
theorem dX11_copyRow_23 : decode cX11_copyRow 23 = .ok (.iastore, 1) := by decide +kernel
theorem dX11_copyRow_24 : decode cX11_copyRow 24 = .ok (.iinc 3 1, 3) := by decide +kernel
theorem dX11_copyRow_27 : decode cX11_copyRow 27 = .ok (.goto (-25), 3) := by decide +kernel
theorem dX11_copyRow_30 : decode cX11_copyRow 30 = .ok (.return_, 1) := by decide +kernel
theorem dX11_remember_0 : decode cX11_remember 0 = .ok (.bipush 16, 2) := by decide +kernel
theorem dX11_remember_2 : decode cX11_remember 2 = .ok (.istore_n 1, 1) := by decide +kernel
theorem dX11_remember_3 : decode cX11_remember 3 = .ok (.iload_n 1, 1) := by decide +kernel
theorem dX11_remember_4 : decode cX11_remember 4 = .ok (.ifCond .le 23, 3) := by decide +kernel
theorem dX11_remember_7 : decode cX11_remember 7 = .ok (.aload_n 0, 1) := by decide +kernel
theorem dX11_remember_8 : decode cX11_remember 8 = .ok (.bipush 86, 2) := by decide +kernel
theorem dX11_remember_10 : decode cX11_remember 10 = .ok (.iload_n 1, 1) := by decide +kernel
theorem dX11_remember_11 : decode cX11_remember 11 = .ok (.iconst 1, 1) := by decide +kernel
theorem dX11_remember_12 : decode cX11_remember 12 = .ok (.isub, 1) := by decide +kernel
theorem dX11_remember_13 : decode cX11_remember 13 = .ok (.imul, 1) := by decide +kernel
theorem dX11_remember_14 : decode cX11_remember 14 = .ok (.bipush 86, 2) := by decide +kernel
theorem dX11_remember_16 : decode cX11_remember 16 = .ok (.iload_n 1, 1) := by decide +kernel
theorem dX11_remember_17 : decode cX11_remember 17 = .ok (.imul, 1) := by decide +kernel
theorem dX11_remember_18 : decode cX11_remember 18 = .ok (.invokevirtual 59, 3) := by decide +kernel
theorem dX11_remember_21 : decode cX11_remember 21 = .ok (.iinc 1 (-1), 3) := by decide +kernel
theorem dX11_remember_24 : decode cX11_remember 24 = .ok (.goto (-21), 3) := by decide +kernel
theorem dX11_remember_27 : decode cX11_remember 27 = .ok (.aload_n 0, 1) := by decide +kernel
theorem dX11_remember_28 : decode cX11_remember 28 = .ok (.aload_n 0, 1) := by decide +kernel
theorem dX11_remember_29 : decode cX11_remember 29 = .ok (.getfield 63, 3) := by decide +kernel
theorem dX11_remember_32 : decode cX11_remember 32 = .ok (.bipush 16, 2) := by decide +kernel
theorem dX11_remember_34 : decode cX11_remember 34 = .ok (.if_icmp .ge 12, 3) := by decide +kernel
theorem dX11_remember_37 : decode cX11_remember 37 = .ok (.aload_n 0, 1) := by decide +kernel
theorem dX11_remember_38 : decode cX11_remember 38 = .ok (.getfield 63, 3) := by decide +kernel
theorem dX11_remember_41 : decode cX11_remember 41 = .ok (.iconst 1, 1) := by decide +kernel
theorem dX11_remember_42 : decode cX11_remember 42 = .ok (.iadd, 1) := by decide +kernel
theorem dX11_remember_43 : decode cX11_remember 43 = .ok (.goto 5, 3) := by decide +kernel
theorem dX11_remember_46 : decode cX11_remember 46 = .ok (.bipush 16, 2) := by decide +kernel
theorem dX11_remember_48 : decode cX11_remember 48 = .ok (.putfield 63, 3) := by decide +kernel
theorem dX11_remember_51 : decode cX11_remember 51 = .ok (.return_, 1) := by decide +kernel
theorem dX11_count_0 : decode cX11_count 0 = .ok (.iconst 0, 1) := by decide +kernel
theorem dX11_count_1 : decode cX11_count 1 = .ok (.istore_n 3, 1) := by decide +kernel
theorem dX11_count_2 : decode cX11_count 2 = .ok (.iconst 0, 1) := by decide +kernel
theorem dX11_count_3 : decode cX11_count 3 = .ok (.istore 4, 2) := by decide +kernel
theorem dX11_count_5 : decode cX11_count 5 = .ok (.iload 4, 2) := by decide +kernel
theorem dX11_count_7 : decode cX11_count 7 = .ok (.aload_n 0, 1) := by decide +kernel
theorem dX11_count_8 : decode cX11_count 8 = .ok (.getfield 7, 3) := by decide +kernel
theorem dX11_count_11 : decode cX11_count 11 = .ok (.iconst 1, 1) := by decide +kernel
theorem dX11_count_12 : decode cX11_count 12 = .ok (.iaload, 1) := by decide +kernel
theorem dX11_count_13 : decode cX11_count 13 = .ok (.if_icmp .ge 51, 3) := by decide +kernel
theorem dX11_count_16 : decode cX11_count 16 = .ok (.iload_n 3, 1) := by decide +kernel
theorem dX11_count_17 : decode cX11_count 17 = .ok (.iload_n 1, 1) := by decide +kernel
theorem dX11_count_18 : decode cX11_count 18 = .ok (.ifCond .lt 17, 3) := by decide +kernel
theorem dX11_count_21 : decode cX11_count 21 = .ok (.aload_n 0, 1) := by decide +kernel
theorem dX11_count_22 : decode cX11_count 22 = .ok (.getfield 7, 3) := by decide +kernel
theorem dX11_count_25 : decode cX11_count 25 = .ok (.bipush 6, 2) := by decide +kernel
theorem dX11_count_27 : decode cX11_count 27 = .ok (.iload 4, 2) := by decide +kernel
theorem dX11_count_29 : decode cX11_count 29 = .ok (.iadd, 1) := by decide +kernel
theorem dX11_count_30 : decode cX11_count 30 = .ok (.iaload, 1) := by decide +kernel
theorem dX11_count_31 : decode cX11_count 31 = .ok (.iload_n 1, 1) := by decide +kernel
theorem dX11_count_32 : decode cX11_count 32 = .ok (.if_icmp .ne 23, 3) := by decide +kernel
theorem dX11_count_35 : decode cX11_count 35 = .ok (.aload_n 0, 1) := by decide +kernel
theorem dX11_count_36 : decode cX11_count 36 = .ok (.getfield 7, 3) := by decide +kernel
theorem dX11_count_39 : decode cX11_count 39 = .ok (.bipush 46, 2) := by decide +kernel
theorem dX11_count_41 : decode cX11_count 41 = .ok (.iload 4, 2) := by decide +kernel
theorem dX11_count_43 : decode cX11_count 43 = .ok (.iadd, 1) := by decide +kernel
theorem dX11_count_44 : decode cX11_count 44 = .ok (.iaload, 1) := by decide +kernel
theorem dX11_count_45 : decode cX11_count 45 = .ok (.iload_n 2, 1) := by decide +kernel
theorem dX11_count_46 : decode cX11_count 46 = .ok (.iand, 1) := by decide +kernel
theorem dX11_count_47 : decode cX11_count 47 = .ok (.iload_n 2, 1) := by decide +kernel
theorem dX11_count_48 : decode cX11_count 48 = .ok (.if_icmp .ne 7, 3) := by decide +kernel
theorem dX11_count_51 : decode cX11_count 51 = .ok (.iconst 1, 1) := by decide +kernel
theorem dX11_count_52 : decode cX11_count 52 = .ok (.goto 4, 3) := by decide +kernel
theorem dX11_count_55 : decode cX11_count 55 = .ok (.iconst 0, 1) := by decide +kernel
theorem dX11_count_56 : decode cX11_count 56 = .ok (.iadd, 1) := by decide +kernel
theorem dX11_count_57 : decode cX11_count 57 = .ok (.istore_n 3, 1) := by decide +kernel
theorem dX11_count_58 : decode cX11_count 58 = .ok (.iinc 4 1, 3) := by decide +kernel
theorem dX11_count_61 : decode cX11_count 61 = .ok (.goto (-56), 3) := by decide +kernel
theorem dX11_count_64 : decode cX11_count 64 = .ok (.iload_n 3, 1) := by decide +kernel
theorem dX11_count_65 : decode cX11_count 65 = .ok (.ireturn, 1) := by decide +kernel
theorem dX11_wanted_0 : decode cX11_wanted 0 = .ok (.aload_n 0, 1) := by decide +kernel
theorem dX11_wanted_1 : decode cX11_wanted 1 = .ok (.getfield 7, 3) := by decide +kernel
theorem dX11_wanted_4 : decode cX11_wanted 4 = .ok (.iconst 1, 1) := by decide +kernel
theorem dX11_wanted_5 : decode cX11_wanted 5 = .ok (.iaload, 1) := by decide +kernel
theorem dX11_wanted_6 : decode cX11_wanted 6 = .ok (.ifCond .ne 7, 3) := by decide +kernel
theorem dX11_wanted_9 : decode cX11_wanted 9 = .ok (.iconst 0, 1) := by decide +kernel
theorem dX11_wanted_10 : decode cX11_wanted 10 = .ok (.goto 25, 3) := by decide +kernel
theorem dX11_wanted_13 : decode cX11_wanted 13 = .ok (.aload_n 0, 1) := by decide +kernel
theorem dX11_wanted_14 : decode cX11_wanted 14 = .ok (.iload_n 2, 1) := by decide +kernel
theorem dX11_wanted_15 : decode cX11_wanted 15 = .ok (.iconst 0, 1) := by decide +kernel
theorem dX11_wanted_16 : decode cX11_wanted 16 = .ok (.invokevirtual 66, 3) := by decide +kernel
theorem dX11_wanted_19 : decode cX11_wanted 19 = .ok (.aload_n 0, 1) := by decide +kernel
theorem dX11_wanted_20 : decode cX11_wanted 20 = .ok (.iconst (-1), 1) := by decide +kernel
theorem dX11_wanted_21 : decode cX11_wanted 21 = .ok (.iconst 1, 1) := by decide +kernel
theorem dX11_wanted_22 : decode cX11_wanted 22 = .ok (.iload_n 1, 1) := by decide +kernel
theorem dX11_wanted_23 : decode cX11_wanted 23 = .ok (.ishl, 1) := by decide +kernel
theorem dX11_wanted_24 : decode cX11_wanted 24 = .ok (.invokevirtual 66, 3) := by decide +kernel
theorem dX11_wanted_27 : decode cX11_wanted 27 = .ok (.imul, 1) := by decide +kernel
theorem dX11_wanted_28 : decode cX11_wanted 28 = .ok (.aload_n 0, 1) := by decide +kernel
theorem dX11_wanted_29 : decode cX11_wanted 29 = .ok (.getfield 7, 3) := by decide +kernel
theorem dX11_wanted_32 : decode cX11_wanted 32 = .ok (.iconst 1, 1) := by decide +kernel
theorem dX11_wanted_33 : decode cX11_wanted 33 = .ok (.iaload, 1) := by decide +kernel
theorem dX11_wanted_34 : decode cX11_wanted 34 = .ok (.idiv, 1) := by decide +kernel
theorem dX11_wanted_35 : decode cX11_wanted 35 = .ok (.istore 4, 2) := by decide +kernel
theorem dX11_wanted_37 : decode cX11_wanted 37 = .ok (.iload 4, 2) := by decide +kernel
theorem dX11_wanted_39 : decode cX11_wanted 39 = .ok (.iload_n 3, 1) := by decide +kernel
theorem dX11_wanted_40 : decode cX11_wanted 40 = .ok (.aload_n 0, 1) := by decide +kernel
theorem dX11_wanted_41 : decode cX11_wanted 41 = .ok (.getfield 7, 3) := by decide +kernel
theorem dX11_wanted_44 : decode cX11_wanted 44 = .ok (.iconst 4, 1) := by decide +kernel
theorem dX11_wanted_45 : decode cX11_wanted 45 = .ok (.iaload, 1) := by decide +kernel
theorem dX11_wanted_46 : decode cX11_wanted 46 = .ok (.imul, 1) := by decide +kernel
theorem dX11_wanted_47 : decode cX11_wanted 47 = .ok (.iadd, 1) := by decide +kernel
theorem dX11_wanted_48 : decode cX11_wanted 48 = .ok (.ireturn, 1) := by decide +kernel
theorem dX11_unlikely_0 : decode cX11_unlikely 0 = .ok (.aload_n 0, 1) := by decide +kernel
theorem dX11_unlikely_1 : decode cX11_unlikely 1 = .ok (.iload_n 2, 1) := by decide +kernel
theorem dX11_unlikely_2 : decode cX11_unlikely 2 = .ok (.iconst 1, 1) := by decide +kernel
theorem dX11_unlikely_3 : decode cX11_unlikely 3 = .ok (.iload_n 1, 1) := by decide +kernel
theorem dX11_unlikely_4 : decode cX11_unlikely 4 = .ok (.ishl, 1) := by decide +kernel
theorem dX11_unlikely_5 : decode cX11_unlikely 5 = .ok (.invokevirtual 66, 3) := by decide +kernel
theorem dX11_unlikely_8 : decode cX11_unlikely 8 = .ok (.aload_n 0, 1) := by decide +kernel
theorem dX11_unlikely_9 : decode cX11_unlikely 9 = .ok (.iload_n 1, 1) := by decide +kernel
theorem dX11_unlikely_10 : decode cX11_unlikely 10 = .ok (.iload_n 2, 1) := by decide +kernel
theorem dX11_unlikely_11 : decode cX11_unlikely 11 = .ok (.iload_n 3, 1) := by decide +kernel
theorem dX11_unlikely_12 : decode cX11_unlikely 12 = .ok (.invokevirtual 70, 3) := by decide +kernel
theorem dX11_unlikely_15 : decode cX11_unlikely 15 = .ok (.isub, 1) := by decide +kernel
theorem dX11_unlikely_16 : decode cX11_unlikely 16 = .ok (.istore 4, 2) := by decide +kernel
theorem dX11_unlikely_18 : decode cX11_unlikely 18 = .ok (.aload_n 0, 1) := by decide +kernel
theorem dX11_unlikely_19 : decode cX11_unlikely 19 = .ok (.getfield 7, 3) := by decide +kernel
theorem dX11_unlikely_22 : decode cX11_unlikely 22 = .ok (.iconst 3, 1) := by decide +kernel
theorem dX11_unlikely_23 : decode cX11_unlikely 23 = .ok (.iaload, 1) := by decide +kernel
theorem dX11_unlikely_24 : decode cX11_unlikely 24 = .ok (.iload 4, 2) := by decide +kernel
theorem dX11_unlikely_26 : decode cX11_unlikely 26 = .ok (.ifCond .ge 9, 3) := by decide +kernel
theorem dX11_unlikely_29 : decode cX11_unlikely 29 = .ok (.iload 4, 2) := by decide +kernel
theorem dX11_unlikely_31 : decode cX11_unlikely 31 = .ok (.ineg, 1) := by decide +kernel
theorem dX11_unlikely_32 : decode cX11_unlikely 32 = .ok (.goto 5, 3) := by decide +kernel
theorem dX11_unlikely_35 : decode cX11_unlikely 35 = .ok (.iload 4, 2) := by decide +kernel
theorem dX11_unlikely_37 : decode cX11_unlikely 37 = .ok (.imul, 1) := by decide +kernel
theorem dX11_unlikely_38 : decode cX11_unlikely 38 = .ok (.ireturn, 1) := by decide +kernel
theorem dX11_through_0 : decode cX11_through 0 = .ok (.iload 4, 2) := by decide +kernel
theorem dX11_through_2 : decode cX11_through 2 = .ok (.iload_n 3, 1) := by decide +kernel
theorem dX11_through_3 : decode cX11_through 3 = .ok (.if_icmp .le 10, 3) := by decide +kernel
theorem dX11_through_6 : decode cX11_through 6 = .ok (.iload 4, 2) := by decide +kernel
theorem dX11_through_8 : decode cX11_through 8 = .ok (.iload_n 3, 1) := by decide +kernel
theorem dX11_through_9 : decode cX11_through 9 = .ok (.isub, 1) := by decide +kernel
theorem dX11_through_10 : decode cX11_through 10 = .ok (.goto 4, 3) := by decide +kernel
theorem dX11_through_13 : decode cX11_through 13 = .ok (.iconst 0, 1) := by decide +kernel
theorem dX11_through_14 : decode cX11_through 14 = .ok (.istore 5, 2) := by decide +kernel
theorem dX11_through_16 : decode cX11_through 16 = .ok (.aload_n 0, 1) := by decide +kernel
theorem dX11_through_17 : decode cX11_through 17 = .ok (.iload_n 1, 1) := by decide +kernel
theorem dX11_through_18 : decode cX11_through 18 = .ok (.iload_n 2, 1) := by decide +kernel
theorem dX11_through_19 : decode cX11_through 19 = .ok (.iload 4, 2) := by decide +kernel
theorem dX11_through_21 : decode cX11_through 21 = .ok (.invokevirtual 74, 3) := by decide +kernel
theorem dX11_through_24 : decode cX11_through 24 = .ok (.aload_n 0, 1) := by decide +kernel
theorem dX11_through_25 : decode cX11_through 25 = .ok (.getfield 7, 3) := by decide +kernel
theorem dX11_through_28 : decode cX11_through 28 = .ok (.iconst 5, 1) := by decide +kernel
theorem dX11_through_29 : decode cX11_through 29 = .ok (.iaload, 1) := by decide +kernel
theorem dX11_through_30 : decode cX11_through 30 = .ok (.iload 5, 2) := by decide +kernel
theorem dX11_through_32 : decode cX11_through 32 = .ok (.imul, 1) := by decide +kernel
theorem dX11_through_33 : decode cX11_through 33 = .ok (.iadd, 1) := by decide +kernel
theorem dX11_through_34 : decode cX11_through 34 = .ok (.aload_n 0, 1) := by decide +kernel
theorem dX11_through_35 : decode cX11_through 35 = .ok (.getfield 32, 3) := by decide +kernel
theorem dX11_through_38 : decode cX11_through 38 = .ok (.iconst 4, 1) := by decide +kernel
theorem dX11_through_39 : decode cX11_through 39 = .ok (.iload_n 2, 1) := by decide +kernel
theorem dX11_through_40 : decode cX11_through 40 = .ok (.iconst 1, 1) := by decide +kernel
theorem dX11_through_41 : decode cX11_through 41 = .ok (.iadd, 1) := by decide +kernel
theorem dX11_through_42 : decode cX11_through 42 = .ok (.imul, 1) := by decide +kernel
theorem dX11_through_43 : decode cX11_through 43 = .ok (.iload 4, 2) := by decide +kernel
theorem dX11_through_45 : decode cX11_through 45 = .ok (.iadd, 1) := by decide +kernel
theorem dX11_through_46 : decode cX11_through 46 = .ok (.iaload, 1) := by decide +kernel
theorem dX11_through_47 : decode cX11_through 47 = .ok (.iadd, 1) := by decide +kernel
theorem dX11_through_48 : decode cX11_through 48 = .ok (.ireturn, 1) := by decide +kernel
theorem dX11_bestLevel_0 : decode cX11_bestLevel 0 = .ok (.iconst 0, 1) := by decide +kernel
theorem dX11_bestLevel_1 : decode cX11_bestLevel 1 = .ok (.istore 4, 2) := by decide +kernel
theorem dX11_bestLevel_3 : decode cX11_bestLevel 3 = .ok (.iconst 1, 1) := by decide +kernel
theorem dX11_bestLevel_4 : decode cX11_bestLevel 4 = .ok (.istore 5, 2) := by decide +kernel
theorem dX11_bestLevel_6 : decode cX11_bestLevel 6 = .ok (.iload 5, 2) := by decide +kernel
theorem dX11_bestLevel_8 : decode cX11_bestLevel 8 = .ok (.aload_n 0, 1) := by decide +kernel
theorem dX11_bestLevel_9 : decode cX11_bestLevel 9 = .ok (.getfield 7, 3) := by decide +kernel
theorem dX11_bestLevel_12 : decode cX11_bestLevel 12 = .ok (.iconst 2, 1) := by decide +kernel
theorem dX11_bestLevel_13 : decode cX11_bestLevel 13 = .ok (.iaload, 1) := by decide +kernel
theorem dX11_bestLevel_14 : decode cX11_bestLevel 14 = .ok (.if_icmp .gt 39, 3) := by decide +kernel
theorem dX11_bestLevel_17 : decode cX11_bestLevel 17 = .ok (.aload_n 0, 1) := by decide +kernel
theorem dX11_bestLevel_18 : decode cX11_bestLevel 18 = .ok (.iload_n 1, 1) := by decide +kernel
theorem dX11_bestLevel_19 : decode cX11_bestLevel 19 = .ok (.iload_n 2, 1) := by decide +kernel
theorem dX11_bestLevel_20 : decode cX11_bestLevel 20 = .ok (.iload_n 3, 1) := by decide +kernel
theorem dX11_bestLevel_21 : decode cX11_bestLevel 21 = .ok (.iload 5, 2) := by decide +kernel
theorem dX11_bestLevel_23 : decode cX11_bestLevel 23 = .ok (.invokevirtual 77, 3) := by decide +kernel
theorem dX11_bestLevel_26 : decode cX11_bestLevel 26 = .ok (.aload_n 0, 1) := by decide +kernel
theorem dX11_bestLevel_27 : decode cX11_bestLevel 27 = .ok (.iload_n 1, 1) := by decide +kernel
theorem dX11_bestLevel_28 : decode cX11_bestLevel 28 = .ok (.iload_n 2, 1) := by decide +kernel
theorem dX11_bestLevel_29 : decode cX11_bestLevel 29 = .ok (.iload_n 3, 1) := by decide +kernel
theorem dX11_bestLevel_30 : decode cX11_bestLevel 30 = .ok (.iload 4, 2) := by decide +kernel
theorem dX11_bestLevel_32 : decode cX11_bestLevel 32 = .ok (.invokevirtual 77, 3) := by decide +kernel
theorem dX11_bestLevel_35 : decode cX11_bestLevel 35 = .ok (.if_icmp .ge 8, 3) := by decide +kernel
theorem dX11_bestLevel_38 : decode cX11_bestLevel 38 = .ok (.iload 5, 2) := by decide +kernel
theorem dX11_bestLevel_40 : decode cX11_bestLevel 40 = .ok (.goto 5, 3) := by decide +kernel
theorem dX11_bestLevel_43 : decode cX11_bestLevel 43 = .ok (.iload 4, 2) := by decide +kernel
theorem dX11_bestLevel_45 : decode cX11_bestLevel 45 = .ok (.istore 4, 2) := by decide +kernel
theorem dX11_bestLevel_47 : decode cX11_bestLevel 47 = .ok (.iinc 5 1, 3) := by decide +kernel
theorem dX11_bestLevel_50 : decode cX11_bestLevel 50 = .ok (.goto (-44), 3) := by decide +kernel
theorem dX11_bestLevel_53 : decode cX11_bestLevel 53 = .ok (.iload 4, 2) := by decide +kernel
theorem dX11_bestLevel_55 : decode cX11_bestLevel 55 = .ok (.ireturn, 1) := by decide +kernel
theorem dX11_layLevels_0 : decode cX11_layLevels 0 = .ok (.iconst 0, 1) := by decide +kernel
theorem dX11_layLevels_1 : decode cX11_layLevels 1 = .ok (.istore_n 2, 1) := by decide +kernel
theorem dX11_layLevels_2 : decode cX11_layLevels 2 = .ok (.iload_n 2, 1) := by decide +kernel
theorem dX11_layLevels_3 : decode cX11_layLevels 3 = .ok (.iconst 4, 1) := by decide +kernel
theorem dX11_layLevels_4 : decode cX11_layLevels 4 = .ok (.if_icmp .ge 25, 3) := by decide +kernel
theorem dX11_layLevels_7 : decode cX11_layLevels 7 = .ok (.aload_n 0, 1) := by decide +kernel
theorem dX11_layLevels_8 : decode cX11_layLevels 8 = .ok (.getfield 32, 3) := by decide +kernel
theorem dX11_layLevels_11 : decode cX11_layLevels 11 = .ok (.iconst 4, 1) := by decide +kernel
theorem dX11_layLevels_12 : decode cX11_layLevels 12 = .ok (.aload_n 0, 1) := by decide +kernel
theorem dX11_layLevels_13 : decode cX11_layLevels 13 = .ok (.getfield 7, 3) := by decide +kernel
theorem dX11_layLevels_16 : decode cX11_layLevels 16 = .ok (.iconst 0, 1) := by decide +kernel
theorem dX11_layLevels_17 : decode cX11_layLevels 17 = .ok (.iaload, 1) := by decide +kernel
theorem dX11_layLevels_18 : decode cX11_layLevels 18 = .ok (.imul, 1) := by decide +kernel
theorem dX11_layLevels_19 : decode cX11_layLevels 19 = .ok (.iload_n 2, 1) := by decide +kernel
theorem dX11_layLevels_20 : decode cX11_layLevels 20 = .ok (.iadd, 1) := by decide +kernel
theorem dX11_layLevels_21 : decode cX11_layLevels 21 = .ok (.iconst 0, 1) := by decide +kernel
theorem dX11_layLevels_22 : decode cX11_layLevels 22 = .ok (.iastore, 1) := by decide +kernel
theorem dX11_layLevels_23 : decode cX11_layLevels 23 = .ok (.iinc 2 1, 3) := by decide +kernel
theorem dX11_layLevels_26 : decode cX11_layLevels 26 = .ok (.goto (-24), 3) := by decide +kernel
theorem dX11_layLevels_29 : decode cX11_layLevels 29 = .ok (.aload_n 0, 1) := by decide +kernel
theorem dX11_layLevels_30 : decode cX11_layLevels 30 = .ok (.getfield 7, 3) := by decide +kernel
theorem dX11_layLevels_33 : decode cX11_layLevels 33 = .ok (.iconst 0, 1) := by decide +kernel
theorem dX11_layLevels_34 : decode cX11_layLevels 34 = .ok (.iaload, 1) := by decide +kernel
theorem dX11_layLevels_35 : decode cX11_layLevels 35 = .ok (.iconst 1, 1) := by decide +kernel
theorem dX11_layLevels_36 : decode cX11_layLevels 36 = .ok (.isub, 1) := by decide +kernel
theorem dX11_layLevels_37 : decode cX11_layLevels 37 = .ok (.istore_n 2, 1) := by decide +kernel
theorem dX11_layLevels_38 : decode cX11_layLevels 38 = .ok (.iload_n 2, 1) := by decide +kernel
theorem dX11_layLevels_39 : decode cX11_layLevels 39 = .ok (.ifCond .lt 51, 3) := by decide +kernel
theorem dX11_layLevels_42 : decode cX11_layLevels 42 = .ok (.iconst 0, 1) := by decide +kernel
theorem dX11_layLevels_43 : decode cX11_layLevels 43 = .ok (.istore_n 3, 1) := by decide +kernel
theorem dX11_layLevels_44 : decode cX11_layLevels 44 = .ok (.iload_n 3, 1) := by decide +kernel
theorem dX11_layLevels_45 : decode cX11_layLevels 45 = .ok (.aload_n 0, 1) := by decide +kernel
theorem dX11_layLevels_46 : decode cX11_layLevels 46 = .ok (.getfield 7, 3) := by decide +kernel
theorem dX11_layLevels_49 : decode cX11_layLevels 49 = .ok (.iconst 2, 1) := by decide +kernel
theorem dX11_layLevels_50 : decode cX11_layLevels 50 = .ok (.iaload, 1) := by decide +kernel
theorem dX11_layLevels_51 : decode cX11_layLevels 51 = .ok (.if_icmp .gt 33, 3) := by decide +kernel
theorem dX11_layLevels_54 : decode cX11_layLevels 54 = .ok (.aload_n 0, 1) := by decide +kernel
theorem dX11_layLevels_55 : decode cX11_layLevels 55 = .ok (.getfield 32, 3) := by decide +kernel
theorem dX11_layLevels_58 : decode cX11_layLevels 58 = .ok (.iconst 4, 1) := by decide +kernel
theorem dX11_layLevels_59 : decode cX11_layLevels 59 = .ok (.iload_n 2, 1) := by decide +kernel
theorem dX11_layLevels_60 : decode cX11_layLevels 60 = .ok (.imul, 1) := by decide +kernel
theorem dX11_layLevels_61 : decode cX11_layLevels 61 = .ok (.iload_n 3, 1) := by decide +kernel
theorem dX11_layLevels_62 : decode cX11_layLevels 62 = .ok (.iadd, 1) := by decide +kernel
theorem dX11_layLevels_63 : decode cX11_layLevels 63 = .ok (.aload_n 0, 1) := by decide +kernel
theorem dX11_layLevels_64 : decode cX11_layLevels 64 = .ok (.iload_n 1, 1) := by decide +kernel
theorem dX11_layLevels_65 : decode cX11_layLevels 65 = .ok (.iload_n 2, 1) := by decide +kernel
theorem dX11_layLevels_66 : decode cX11_layLevels 66 = .ok (.iload_n 3, 1) := by decide +kernel
theorem dX11_layLevels_67 : decode cX11_layLevels 67 = .ok (.aload_n 0, 1) := by decide +kernel
theorem dX11_layLevels_68 : decode cX11_layLevels 68 = .ok (.iload_n 1, 1) := by decide +kernel
theorem dX11_layLevels_69 : decode cX11_layLevels 69 = .ok (.iload_n 2, 1) := by decide +kernel
theorem dX11_layLevels_70 : decode cX11_layLevels 70 = .ok (.iload_n 3, 1) := by decide +kernel
theorem dX11_layLevels_71 : decode cX11_layLevels 71 = .ok (.invokevirtual 81, 3) := by decide +kernel
theorem dX11_layLevels_74 : decode cX11_layLevels 74 = .ok (.invokevirtual 77, 3) := by decide +kernel
theorem dX11_layLevels_77 : decode cX11_layLevels 77 = .ok (.iastore, 1) := by decide +kernel
theorem dX11_layLevels_78 : decode cX11_layLevels 78 = .ok (.iinc 3 1, 3) := by decide +kernel
theorem dX11_layLevels_81 : decode cX11_layLevels 81 = .ok (.goto (-37), 3) := by decide +kernel
theorem dX11_layLevels_84 : decode cX11_layLevels 84 = .ok (.iinc 2 (-1), 3) := by decide +kernel
theorem dX11_layLevels_87 : decode cX11_layLevels 87 = .ok (.goto (-49), 3) := by decide +kernel
theorem dX11_layLevels_90 : decode cX11_layLevels 90 = .ok (.iconst 0, 1) := by decide +kernel
theorem dX11_layLevels_91 : decode cX11_layLevels 91 = .ok (.istore_n 2, 1) := by decide +kernel
theorem dX11_layLevels_92 : decode cX11_layLevels 92 = .ok (.iconst 0, 1) := by decide +kernel
theorem dX11_layLevels_93 : decode cX11_layLevels 93 = .ok (.istore_n 3, 1) := by decide +kernel
theorem dX11_layLevels_94 : decode cX11_layLevels 94 = .ok (.iload_n 3, 1) := by decide +kernel
theorem dX11_layLevels_95 : decode cX11_layLevels 95 = .ok (.aload_n 0, 1) := by decide +kernel
theorem dX11_layLevels_96 : decode cX11_layLevels 96 = .ok (.getfield 7, 3) := by decide +kernel
theorem dX11_layLevels_99 : decode cX11_layLevels 99 = .ok (.iconst 0, 1) := by decide +kernel
theorem dX11_layLevels_100 : decode cX11_layLevels 100 = .ok (.iaload, 1) := by decide +kernel
theorem dX11_layLevels_101 : decode cX11_layLevels 101 = .ok (.if_icmp .ge 29, 3) := by decide +kernel
theorem dX11_layLevels_104 : decode cX11_layLevels 104 = .ok (.aload_n 0, 1) := by decide +kernel
theorem dX11_layLevels_105 : decode cX11_layLevels 105 = .ok (.getfield 35, 3) := by decide +kernel
theorem dX11_layLevels_108 : decode cX11_layLevels 108 = .ok (.iload_n 3, 1) := by decide +kernel
theorem dX11_layLevels_109 : decode cX11_layLevels 109 = .ok (.aload_n 0, 1) := by decide +kernel
theorem dX11_layLevels_110 : decode cX11_layLevels 110 = .ok (.iload_n 1, 1) := by decide +kernel
theorem dX11_layLevels_111 : decode cX11_layLevels 111 = .ok (.iload_n 3, 1) := by decide +kernel
theorem dX11_layLevels_112 : decode cX11_layLevels 112 = .ok (.iload_n 2, 1) := by decide +kernel
theorem dX11_layLevels_113 : decode cX11_layLevels 113 = .ok (.invokevirtual 81, 3) := by decide +kernel
theorem dX11_layLevels_116 : decode cX11_layLevels 116 = .ok (.iastore, 1) := by decide +kernel
theorem dX11_layLevels_117 : decode cX11_layLevels 117 = .ok (.aload_n 0, 1) := by decide +kernel
theorem dX11_layLevels_118 : decode cX11_layLevels 118 = .ok (.getfield 35, 3) := by decide +kernel
theorem dX11_layLevels_121 : decode cX11_layLevels 121 = .ok (.iload_n 3, 1) := by decide +kernel
theorem dX11_layLevels_122 : decode cX11_layLevels 122 = .ok (.iaload, 1) := by decide +kernel
theorem dX11_layLevels_123 : decode cX11_layLevels 123 = .ok (.istore_n 2, 1) := by decide +kernel
theorem dX11_layLevels_124 : decode cX11_layLevels 124 = .ok (.iinc 3 1, 3) := by decide +kernel
theorem dX11_layLevels_127 : decode cX11_layLevels 127 = .ok (.goto (-33), 3) := by decide +kernel
theorem dX11_layLevels_130 : decode cX11_layLevels 130 = .ok (.return_, 1) := by decide +kernel
theorem dX11_levelOf_0 : decode cX11_levelOf 0 = .ok (.aload_n 0, 1) := by decide +kernel
theorem dX11_levelOf_1 : decode cX11_levelOf 1 = .ok (.iload_n 1, 1) := by decide +kernel
theorem dX11_levelOf_2 : decode cX11_levelOf 2 = .ok (.invokevirtual 84, 3) := by decide +kernel
theorem dX11_levelOf_5 : decode cX11_levelOf 5 = .ok (.aload_n 0, 1) := by decide +kernel
theorem dX11_levelOf_6 : decode cX11_levelOf 6 = .ok (.getfield 35, 3) := by decide +kernel
theorem dX11_levelOf_9 : decode cX11_levelOf 9 = .ok (.iload_n 2, 1) := by decide +kernel
theorem dX11_levelOf_10 : decode cX11_levelOf 10 = .ok (.iaload, 1) := by decide +kernel
theorem dX11_levelOf_11 : decode cX11_levelOf 11 = .ok (.ireturn, 1) := by decide +kernel
theorem dX11_addFlares_0 : decode cX11_addFlares 0 = .ok (.iconst (-1), 1) := by decide +kernel
theorem dX11_addFlares_1 : decode cX11_addFlares 1 = .ok (.istore_n 3, 1) := by decide +kernel
theorem dX11_addFlares_2 : decode cX11_addFlares 2 = .ok (.iconst 0, 1) := by decide +kernel
theorem dX11_addFlares_3 : decode cX11_addFlares 3 = .ok (.istore 4, 2) := by decide +kernel
theorem dX11_addFlares_5 : decode cX11_addFlares 5 = .ok (.iload 4, 2) := by decide +kernel
theorem dX11_addFlares_7 : decode cX11_addFlares 7 = .ok (.aload_n 0, 1) := by decide +kernel
theorem dX11_addFlares_8 : decode cX11_addFlares 8 = .ok (.getfield 7, 3) := by decide +kernel
theorem dX11_addFlares_11 : decode cX11_addFlares 11 = .ok (.iconst 0, 1) := by decide +kernel
theorem dX11_addFlares_12 : decode cX11_addFlares 12 = .ok (.iaload, 1) := by decide +kernel
theorem dX11_addFlares_13 : decode cX11_addFlares 13 = .ok (.if_icmp .gt 124, 3) := by decide +kernel
theorem dX11_addFlares_16 : decode cX11_addFlares 16 = .ok (.iload 4, 2) := by decide +kernel
theorem dX11_addFlares_18 : decode cX11_addFlares 18 = .ok (.aload_n 0, 1) := by decide +kernel
theorem dX11_addFlares_19 : decode cX11_addFlares 19 = .ok (.getfield 7, 3) := by decide +kernel
theorem dX11_addFlares_22 : decode cX11_addFlares 22 = .ok (.iconst 0, 1) := by decide +kernel
theorem dX11_addFlares_23 : decode cX11_addFlares 23 = .ok (.iaload, 1) := by decide +kernel
theorem dX11_addFlares_24 : decode cX11_addFlares 24 = .ok (.if_icmp .ge 18, 3) := by decide +kernel
theorem dX11_addFlares_27 : decode cX11_addFlares 27 = .ok (.aload_n 0, 1) := by decide +kernel
theorem dX11_addFlares_28 : decode cX11_addFlares 28 = .ok (.getfield 35, 3) := by decide +kernel
theorem dX11_addFlares_31 : decode cX11_addFlares 31 = .ok (.iload 4, 2) := by decide +kernel
theorem dX11_addFlares_33 : decode cX11_addFlares 33 = .ok (.iaload, 1) := by decide +kernel
theorem dX11_addFlares_34 : decode cX11_addFlares 34 = .ok (.iload_n 2, 1) := by decide +kernel
theorem dX11_addFlares_35 : decode cX11_addFlares 35 = .ok (.if_icmp .lt 7, 3) := by decide +kernel
theorem dX11_addFlares_38 : decode cX11_addFlares 38 = .ok (.iconst 1, 1) := by decide +kernel
theorem dX11_addFlares_39 : decode cX11_addFlares 39 = .ok (.goto 4, 3) := by decide +kernel
theorem dX11_addFlares_42 : decode cX11_addFlares 42 = .ok (.iconst 0, 1) := by decide +kernel
theorem dX11_addFlares_43 : decode cX11_addFlares 43 = .ok (.istore 5, 2) := by decide +kernel
theorem dX11_addFlares_45 : decode cX11_addFlares 45 = .ok (.iload 5, 2) := by decide +kernel
theorem dX11_addFlares_47 : decode cX11_addFlares 47 = .ok (.ifCond .eq 10, 3) := by decide +kernel
theorem dX11_addFlares_50 : decode cX11_addFlares 50 = .ok (.iload_n 3, 1) := by decide +kernel
theorem dX11_addFlares_51 : decode cX11_addFlares 51 = .ok (.ifCond .ge 6, 3) := by decide +kernel
theorem dX11_addFlares_54 : decode cX11_addFlares 54 = .ok (.iload 4, 2) := by decide +kernel
theorem dX11_addFlares_56 : decode cX11_addFlares 56 = .ok (.istore_n 3, 1) := by decide +kernel
theorem dX11_addFlares_57 : decode cX11_addFlares 57 = .ok (.iload 5, 2) := by decide +kernel
theorem dX11_addFlares_59 : decode cX11_addFlares 59 = .ok (.ifCond .ne 72, 3) := by decide +kernel
theorem dX11_addFlares_62 : decode cX11_addFlares 62 = .ok (.iload_n 3, 1) := by decide +kernel
theorem dX11_addFlares_63 : decode cX11_addFlares 63 = .ok (.ifCond .lt 68, 3) := by decide +kernel
theorem dX11_addFlares_66 : decode cX11_addFlares 66 = .ok (.aload_n 0, 1) := by decide +kernel
theorem dX11_addFlares_67 : decode cX11_addFlares 67 = .ok (.getfield 88, 3) := by decide +kernel
theorem dX11_addFlares_70 : decode cX11_addFlares 70 = .ok (.sipush 160, 3) := by decide +kernel
theorem dX11_addFlares_73 : decode cX11_addFlares 73 = .ok (.if_icmp .ge 58, 3) := by decide +kernel
theorem dX11_addFlares_76 : decode cX11_addFlares 76 = .ok (.aload_n 0, 1) := by decide +kernel
theorem dX11_addFlares_77 : decode cX11_addFlares 77 = .ok (.getfield 38, 3) := by decide +kernel
theorem dX11_addFlares_80 : decode cX11_addFlares 80 = .ok (.aload_n 0, 1) := by decide +kernel
theorem dX11_addFlares_81 : decode cX11_addFlares 81 = .ok (.getfield 88, 3) := by decide +kernel
theorem dX11_addFlares_84 : decode cX11_addFlares 84 = .ok (.iload_n 1, 1) := by decide +kernel
theorem dX11_addFlares_85 : decode cX11_addFlares 85 = .ok (.iastore, 1) := by decide +kernel
theorem dX11_addFlares_86 : decode cX11_addFlares 86 = .ok (.aload_n 0, 1) := by decide +kernel
theorem dX11_addFlares_87 : decode cX11_addFlares 87 = .ok (.getfield 41, 3) := by decide +kernel
theorem dX11_addFlares_90 : decode cX11_addFlares 90 = .ok (.aload_n 0, 1) := by decide +kernel
theorem dX11_addFlares_91 : decode cX11_addFlares 91 = .ok (.getfield 88, 3) := by decide +kernel
theorem dX11_addFlares_94 : decode cX11_addFlares 94 = .ok (.iload_n 2, 1) := by decide +kernel
theorem dX11_addFlares_95 : decode cX11_addFlares 95 = .ok (.iastore, 1) := by decide +kernel
theorem dX11_addFlares_96 : decode cX11_addFlares 96 = .ok (.aload_n 0, 1) := by decide +kernel
theorem dX11_addFlares_97 : decode cX11_addFlares 97 = .ok (.getfield 44, 3) := by decide +kernel
theorem dX11_addFlares_100 : decode cX11_addFlares 100 = .ok (.aload_n 0, 1) := by decide +kernel
theorem dX11_addFlares_101 : decode cX11_addFlares 101 = .ok (.getfield 88, 3) := by decide +kernel
theorem dX11_addFlares_104 : decode cX11_addFlares 104 = .ok (.iload_n 3, 1) := by decide +kernel
theorem dX11_addFlares_105 : decode cX11_addFlares 105 = .ok (.iastore, 1) := by decide +kernel
theorem dX11_addFlares_106 : decode cX11_addFlares 106 = .ok (.aload_n 0, 1) := by decide +kernel
theorem dX11_addFlares_107 : decode cX11_addFlares 107 = .ok (.getfield 47, 3) := by decide +kernel
theorem dX11_addFlares_110 : decode cX11_addFlares 110 = .ok (.aload_n 0, 1) := by decide +kernel
theorem dX11_addFlares_111 : decode cX11_addFlares 111 = .ok (.getfield 88, 3) := by decide +kernel
theorem dX11_addFlares_114 : decode cX11_addFlares 114 = .ok (.iload 4, 2) := by decide +kernel
theorem dX11_addFlares_116 : decode cX11_addFlares 116 = .ok (.iconst 1, 1) := by decide +kernel
theorem dX11_addFlares_117 : decode cX11_addFlares 117 = .ok (.isub, 1) := by decide +kernel
theorem dX11_addFlares_118 : decode cX11_addFlares 118 = .ok (.iastore, 1) := by decide +kernel
theorem dX11_addFlares_119 : decode cX11_addFlares 119 = .ok (.aload_n 0, 1) := by decide +kernel
theorem dX11_addFlares_120 : decode cX11_addFlares 120 = .ok (.dup, 1) := by decide +kernel
theorem dX11_addFlares_121 : decode cX11_addFlares 121 = .ok (.getfield 88, 3) := by decide +kernel
theorem dX11_addFlares_124 : decode cX11_addFlares 124 = .ok (.iconst 1, 1) := by decide +kernel
theorem dX11_addFlares_125 : decode cX11_addFlares 125 = .ok (.iadd, 1) := by decide +kernel
theorem dX11_addFlares_126 : decode cX11_addFlares 126 = .ok (.putfield 88, 3) := by decide +kernel
theorem dX11_addFlares_129 : decode cX11_addFlares 129 = .ok (.iconst (-1), 1) := by decide +kernel
theorem dX11_addFlares_130 : decode cX11_addFlares 130 = .ok (.istore_n 3, 1) := by decide +kernel
theorem dX11_addFlares_131 : decode cX11_addFlares 131 = .ok (.iinc 4 1, 3) := by decide +kernel
theorem dX11_addFlares_134 : decode cX11_addFlares 134 = .ok (.goto (-129), 3) := by decide +kernel
theorem dX11_addFlares_137 : decode cX11_addFlares 137 = .ok (.return_, 1) := by decide +kernel
theorem dX11_layFlares_0 : decode cX11_layFlares 0 = .ok (.aload_n 0, 1) := by decide +kernel
theorem dX11_layFlares_1 : decode cX11_layFlares 1 = .ok (.iconst 0, 1) := by decide +kernel
theorem dX11_layFlares_2 : decode cX11_layFlares 2 = .ok (.putfield 88, 3) := by decide +kernel
theorem dX11_layFlares_5 : decode cX11_layFlares 5 = .ok (.iconst 0, 1) := by decide +kernel
theorem dX11_layFlares_6 : decode cX11_layFlares 6 = .ok (.istore_n 1, 1) := by decide +kernel
theorem dX11_layFlares_7 : decode cX11_layFlares 7 = .ok (.iload_n 1, 1) := by decide +kernel
theorem dX11_layFlares_8 : decode cX11_layFlares 8 = .ok (.bipush 8, 2) := by decide +kernel
theorem dX11_layFlares_10 : decode cX11_layFlares 10 = .ok (.if_icmp .ge 38, 3) := by decide +kernel
theorem dX11_layFlares_13 : decode cX11_layFlares 13 = .ok (.aload_n 0, 1) := by decide +kernel
theorem dX11_layFlares_14 : decode cX11_layFlares 14 = .ok (.iload_n 1, 1) := by decide +kernel
theorem dX11_layFlares_15 : decode cX11_layFlares 15 = .ok (.invokevirtual 84, 3) := by decide +kernel
theorem dX11_layFlares_18 : decode cX11_layFlares 18 = .ok (.iconst 1, 1) := by decide +kernel
theorem dX11_layFlares_19 : decode cX11_layFlares 19 = .ok (.istore_n 2, 1) := by decide +kernel
theorem dX11_layFlares_20 : decode cX11_layFlares 20 = .ok (.iload_n 2, 1) := by decide +kernel
theorem dX11_layFlares_21 : decode cX11_layFlares 21 = .ok (.aload_n 0, 1) := by decide +kernel
theorem dX11_layFlares_22 : decode cX11_layFlares 22 = .ok (.getfield 7, 3) := by decide +kernel
theorem dX11_layFlares_25 : decode cX11_layFlares 25 = .ok (.iconst 2, 1) := by decide +kernel
theorem dX11_layFlares_26 : decode cX11_layFlares 26 = .ok (.iaload, 1) := by decide +kernel
theorem dX11_layFlares_27 : decode cX11_layFlares 27 = .ok (.if_icmp .gt 15, 3) := by decide +kernel
theorem dX11_layFlares_30 : decode cX11_layFlares 30 = .ok (.aload_n 0, 1) := by decide +kernel
theorem dX11_layFlares_31 : decode cX11_layFlares 31 = .ok (.iload_n 1, 1) := by decide +kernel
theorem dX11_layFlares_32 : decode cX11_layFlares 32 = .ok (.iload_n 2, 1) := by decide +kernel
theorem dX11_layFlares_33 : decode cX11_layFlares 33 = .ok (.invokevirtual 91, 3) := by decide +kernel
theorem dX11_layFlares_36 : decode cX11_layFlares 36 = .ok (.iinc 2 1, 3) := by decide +kernel
theorem dX11_layFlares_39 : decode cX11_layFlares 39 = .ok (.goto (-19), 3) := by decide +kernel
theorem dX11_layFlares_42 : decode cX11_layFlares 42 = .ok (.iinc 1 1, 3) := by decide +kernel
theorem dX11_layFlares_45 : decode cX11_layFlares 45 = .ok (.goto (-38), 3) := by decide +kernel
theorem dX11_layFlares_48 : decode cX11_layFlares 48 = .ok (.return_, 1) := by decide +kernel
theorem dX11_isIn_0 : decode cX11_isIn 0 = .ok (.iload_n 2, 1) := by decide +kernel
theorem dX11_isIn_1 : decode cX11_isIn 1 = .ok (.i2l, 1) := by decide +kernel
theorem dX11_isIn_2 : decode cX11_isIn 2 = .ok (.aload_n 0, 1) := by decide +kernel
theorem dX11_isIn_3 : decode cX11_isIn 3 = .ok (.getfield 44, 3) := by decide +kernel
theorem dX11_isIn_6 : decode cX11_isIn 6 = .ok (.iload_n 1, 1) := by decide +kernel
theorem dX11_isIn_7 : decode cX11_isIn 7 = .ok (.iaload, 1) := by decide +kernel
theorem dX11_isIn_8 : decode cX11_isIn 8 = .ok (.i2l, 1) := by decide +kernel
theorem dX11_isIn_9 : decode cX11_isIn 9 = .ok (.aload_n 0, 1) := by decide +kernel
theorem dX11_isIn_10 : decode cX11_isIn 10 = .ok (.getfield 47, 3) := by decide +kernel
theorem dX11_isIn_13 : decode cX11_isIn 13 = .ok (.iload_n 1, 1) := by decide +kernel
theorem dX11_isIn_14 : decode cX11_isIn 14 = .ok (.iaload, 1) := by decide +kernel
theorem dX11_isIn_15 : decode cX11_isIn 15 = .ok (.i2l, 1) := by decide +kernel
theorem dX11_isIn_16 : decode cX11_isIn 16 = .ok (.invokestatic 94, 3) := by decide +kernel
theorem dX11_isIn_19 : decode cX11_isIn 19 = .ok (.ireturn, 1) := by decide +kernel
theorem dX11_areTied_0 : decode cX11_areTied 0 = .ok (.iconst 0, 1) := by decide +kernel
theorem dX11_areTied_1 : decode cX11_areTied 1 = .ok (.istore_n 3, 1) := by decide +kernel
theorem dX11_areTied_2 : decode cX11_areTied 2 = .ok (.iconst 1, 1) := by decide +kernel
theorem dX11_areTied_3 : decode cX11_areTied 3 = .ok (.aload_n 0, 1) := by decide +kernel
theorem dX11_areTied_4 : decode cX11_areTied 4 = .ok (.getfield 38, 3) := by decide +kernel
theorem dX11_areTied_7 : decode cX11_areTied 7 = .ok (.iload_n 1, 1) := by decide +kernel
theorem dX11_areTied_8 : decode cX11_areTied 8 = .ok (.iaload, 1) := by decide +kernel
theorem dX11_areTied_9 : decode cX11_areTied 9 = .ok (.ishl, 1) := by decide +kernel
theorem dX11_areTied_10 : decode cX11_areTied 10 = .ok (.iconst 1, 1) := by decide +kernel
theorem dX11_areTied_11 : decode cX11_areTied 11 = .ok (.aload_n 0, 1) := by decide +kernel
theorem dX11_areTied_12 : decode cX11_areTied 12 = .ok (.getfield 38, 3) := by decide +kernel
theorem dX11_areTied_15 : decode cX11_areTied 15 = .ok (.iload_n 2, 1) := by decide +kernel
theorem dX11_areTied_16 : decode cX11_areTied 16 = .ok (.iaload, 1) := by decide +kernel
theorem dX11_areTied_17 : decode cX11_areTied 17 = .ok (.ishl, 1) := by decide +kernel
theorem dX11_areTied_18 : decode cX11_areTied 18 = .ok (.ior, 1) := by decide +kernel
theorem dX11_areTied_19 : decode cX11_areTied 19 = .ok (.istore 4, 2) := by decide +kernel
theorem dX11_areTied_21 : decode cX11_areTied 21 = .ok (.iconst 0, 1) := by decide +kernel
theorem dX11_areTied_22 : decode cX11_areTied 22 = .ok (.istore 5, 2) := by decide +kernel
theorem dX11_areTied_24 : decode cX11_areTied 24 = .ok (.iload 5, 2) := by decide +kernel
theorem dX11_areTied_26 : decode cX11_areTied 26 = .ok (.aload_n 0, 1) := by decide +kernel
theorem dX11_areTied_27 : decode cX11_areTied 27 = .ok (.getfield 7, 3) := by decide +kernel
theorem dX11_areTied_30 : decode cX11_areTied 30 = .ok (.iconst 1, 1) := by decide +kernel
theorem dX11_areTied_31 : decode cX11_areTied 31 = .ok (.iaload, 1) := by decide +kernel
theorem dX11_areTied_32 : decode cX11_areTied 32 = .ok (.if_icmp .ge 73, 3) := by decide +kernel
theorem dX11_areTied_35 : decode cX11_areTied 35 = .ok (.iload_n 3, 1) := by decide +kernel
theorem dX11_areTied_36 : decode cX11_areTied 36 = .ok (.ifCond .ne 57, 3) := by decide +kernel
theorem dX11_areTied_39 : decode cX11_areTied 39 = .ok (.aload_n 0, 1) := by decide +kernel
theorem dX11_areTied_40 : decode cX11_areTied 40 = .ok (.iload_n 1, 1) := by decide +kernel
theorem dX11_areTied_41 : decode cX11_areTied 41 = .ok (.aload_n 0, 1) := by decide +kernel
theorem dX11_areTied_42 : decode cX11_areTied 42 = .ok (.getfield 7, 3) := by decide +kernel
theorem dX11_areTied_45 : decode cX11_areTied 45 = .ok (.bipush 6, 2) := by decide +kernel
theorem dX11_areTied_47 : decode cX11_areTied 47 = .ok (.iload 5, 2) := by decide +kernel
theorem dX11_areTied_49 : decode cX11_areTied 49 = .ok (.iadd, 1) := by decide +kernel
theorem dX11_areTied_50 : decode cX11_areTied 50 = .ok (.iaload, 1) := by decide +kernel
theorem dX11_areTied_51 : decode cX11_areTied 51 = .ok (.invokevirtual 98, 3) := by decide +kernel
theorem dX11_areTied_54 : decode cX11_areTied 54 = .ok (.ifCond .eq 43, 3) := by decide +kernel
theorem dX11_areTied_57 : decode cX11_areTied 57 = .ok (.aload_n 0, 1) := by decide +kernel
theorem dX11_areTied_58 : decode cX11_areTied 58 = .ok (.iload_n 2, 1) := by decide +kernel
theorem dX11_areTied_59 : decode cX11_areTied 59 = .ok (.aload_n 0, 1) := by decide +kernel
theorem dX11_areTied_60 : decode cX11_areTied 60 = .ok (.getfield 7, 3) := by decide +kernel
theorem dX11_areTied_63 : decode cX11_areTied 63 = .ok (.bipush 6, 2) := by decide +kernel
theorem dX11_areTied_65 : decode cX11_areTied 65 = .ok (.iload 5, 2) := by decide +kernel
theorem dX11_areTied_67 : decode cX11_areTied 67 = .ok (.iadd, 1) := by decide +kernel
theorem dX11_areTied_68 : decode cX11_areTied 68 = .ok (.iaload, 1) := by decide +kernel
theorem dX11_areTied_69 : decode cX11_areTied 69 = .ok (.invokevirtual 98, 3) := by decide +kernel
theorem dX11_areTied_72 : decode cX11_areTied 72 = .ok (.ifCond .eq 25, 3) := by decide +kernel
theorem dX11_areTied_75 : decode cX11_areTied 75 = .ok (.aload_n 0, 1) := by decide +kernel
theorem dX11_areTied_76 : decode cX11_areTied 76 = .ok (.getfield 7, 3) := by decide +kernel
theorem dX11_areTied_79 : decode cX11_areTied 79 = .ok (.bipush 46, 2) := by decide +kernel
theorem dX11_areTied_81 : decode cX11_areTied 81 = .ok (.iload 5, 2) := by decide +kernel
theorem dX11_areTied_83 : decode cX11_areTied 83 = .ok (.iadd, 1) := by decide +kernel
theorem dX11_areTied_84 : decode cX11_areTied 84 = .ok (.iaload, 1) := by decide +kernel
theorem dX11_areTied_85 : decode cX11_areTied 85 = .ok (.iload 4, 2) := by decide +kernel
theorem dX11_areTied_87 : decode cX11_areTied 87 = .ok (.iand, 1) := by decide +kernel
theorem dX11_areTied_88 : decode cX11_areTied 88 = .ok (.iload 4, 2) := by decide +kernel
theorem dX11_areTied_90 : decode cX11_areTied 90 = .ok (.if_icmp .ne 7, 3) := by decide +kernel
theorem dX11_areTied_93 : decode cX11_areTied 93 = .ok (.iconst 1, 1) := by decide +kernel
theorem dX11_areTied_94 : decode cX11_areTied 94 = .ok (.goto 4, 3) := by decide +kernel
theorem dX11_areTied_97 : decode cX11_areTied 97 = .ok (.iconst 0, 1) := by decide +kernel
theorem dX11_areTied_98 : decode cX11_areTied 98 = .ok (.istore_n 3, 1) := by decide +kernel
theorem dX11_areTied_99 : decode cX11_areTied 99 = .ok (.iinc 5 1, 3) := by decide +kernel
theorem dX11_areTied_102 : decode cX11_areTied 102 = .ok (.goto (-78), 3) := by decide +kernel
theorem dX11_areTied_105 : decode cX11_areTied 105 = .ok (.iload_n 3, 1) := by decide +kernel
theorem dX11_areTied_106 : decode cX11_areTied 106 = .ok (.ifCond .eq 42, 3) := by decide +kernel
theorem dX11_areTied_109 : decode cX11_areTied 109 = .ok (.aload_n 0, 1) := by decide +kernel
theorem dX11_areTied_110 : decode cX11_areTied 110 = .ok (.getfield 38, 3) := by decide +kernel
theorem dX11_areTied_113 : decode cX11_areTied 113 = .ok (.iload_n 1, 1) := by decide +kernel
theorem dX11_areTied_114 : decode cX11_areTied 114 = .ok (.iaload, 1) := by decide +kernel
theorem dX11_areTied_115 : decode cX11_areTied 115 = .ok (.aload_n 0, 1) := by decide +kernel
theorem dX11_areTied_116 : decode cX11_areTied 116 = .ok (.getfield 38, 3) := by decide +kernel
theorem dX11_areTied_119 : decode cX11_areTied 119 = .ok (.iload_n 2, 1) := by decide +kernel
theorem dX11_areTied_120 : decode cX11_areTied 120 = .ok (.iaload, 1) := by decide +kernel
theorem dX11_areTied_121 : decode cX11_areTied 121 = .ok (.if_icmp .eq 27, 3) := by decide +kernel
theorem dX11_areTied_124 : decode cX11_areTied 124 = .ok (.aload_n 0, 1) := by decide +kernel
theorem dX11_areTied_125 : decode cX11_areTied 125 = .ok (.getfield 41, 3) := by decide +kernel
theorem dX11_areTied_128 : decode cX11_areTied 128 = .ok (.iload_n 1, 1) := by decide +kernel
theorem dX11_areTied_129 : decode cX11_areTied 129 = .ok (.iaload, 1) := by decide +kernel
theorem dX11_areTied_130 : decode cX11_areTied 130 = .ok (.iconst 1, 1) := by decide +kernel
theorem dX11_areTied_131 : decode cX11_areTied 131 = .ok (.if_icmp .ne 17, 3) := by decide +kernel
theorem dX11_areTied_134 : decode cX11_areTied 134 = .ok (.aload_n 0, 1) := by decide +kernel
theorem dX11_areTied_135 : decode cX11_areTied 135 = .ok (.getfield 41, 3) := by decide +kernel
theorem dX11_areTied_138 : decode cX11_areTied 138 = .ok (.iload_n 2, 1) := by decide +kernel
theorem dX11_areTied_139 : decode cX11_areTied 139 = .ok (.iaload, 1) := by decide +kernel
theorem dX11_areTied_140 : decode cX11_areTied 140 = .ok (.iconst 1, 1) := by decide +kernel
theorem dX11_areTied_141 : decode cX11_areTied 141 = .ok (.if_icmp .ne 7, 3) := by decide +kernel
theorem dX11_areTied_144 : decode cX11_areTied 144 = .ok (.iconst 1, 1) := by decide +kernel
theorem dX11_areTied_145 : decode cX11_areTied 145 = .ok (.goto 4, 3) := by decide +kernel
theorem dX11_areTied_148 : decode cX11_areTied 148 = .ok (.iconst 0, 1) := by decide +kernel
theorem dX11_areTied_149 : decode cX11_areTied 149 = .ok (.ireturn, 1) := by decide +kernel
theorem dX11_layHeaps_0 : decode cX11_layHeaps 0 = .ok (.aload_n 0, 1) := by decide +kernel
theorem dX11_layHeaps_1 : decode cX11_layHeaps 1 = .ok (.invokevirtual 102, 3) := by decide +kernel
theorem dX11_layHeaps_4 : decode cX11_layHeaps 4 = .ok (.iconst 0, 1) := by decide +kernel
theorem dX11_layHeaps_5 : decode cX11_layHeaps 5 = .ok (.istore_n 1, 1) := by decide +kernel
theorem dX11_layHeaps_6 : decode cX11_layHeaps 6 = .ok (.iload_n 1, 1) := by decide +kernel
theorem dX11_layHeaps_7 : decode cX11_layHeaps 7 = .ok (.aload_n 0, 1) := by decide +kernel
theorem dX11_layHeaps_8 : decode cX11_layHeaps 8 = .ok (.getfield 88, 3) := by decide +kernel
theorem dX11_layHeaps_11 : decode cX11_layHeaps 11 = .ok (.if_icmp .ge 16, 3) := by decide +kernel
theorem dX11_layHeaps_14 : decode cX11_layHeaps 14 = .ok (.aload_n 0, 1) := by decide +kernel
theorem dX11_layHeaps_15 : decode cX11_layHeaps 15 = .ok (.getfield 50, 3) := by decide +kernel
theorem dX11_layHeaps_18 : decode cX11_layHeaps 18 = .ok (.iload_n 1, 1) := by decide +kernel
theorem dX11_layHeaps_19 : decode cX11_layHeaps 19 = .ok (.iload_n 1, 1) := by decide +kernel
theorem dX11_layHeaps_20 : decode cX11_layHeaps 20 = .ok (.iastore, 1) := by decide +kernel
theorem dX11_layHeaps_21 : decode cX11_layHeaps 21 = .ok (.iinc 1 1, 3) := by decide +kernel
theorem dX11_layHeaps_24 : decode cX11_layHeaps 24 = .ok (.goto (-18), 3) := by decide +kernel
theorem dX11_layHeaps_27 : decode cX11_layHeaps 27 = .ok (.iconst 1, 1) := by decide +kernel
theorem dX11_layHeaps_28 : decode cX11_layHeaps 28 = .ok (.istore_n 1, 1) := by decide +kernel
theorem dX11_layHeaps_29 : decode cX11_layHeaps 29 = .ok (.iload_n 1, 1) := by decide +kernel
theorem dX11_layHeaps_30 : decode cX11_layHeaps 30 = .ok (.ifCond .eq 78, 3) := by decide +kernel
theorem dX11_layHeaps_33 : decode cX11_layHeaps 33 = .ok (.iconst 0, 1) := by decide +kernel
theorem dX11_layHeaps_34 : decode cX11_layHeaps 34 = .ok (.istore_n 1, 1) := by decide +kernel
theorem dX11_layHeaps_35 : decode cX11_layHeaps 35 = .ok (.iconst 0, 1) := by decide +kernel
theorem dX11_layHeaps_36 : decode cX11_layHeaps 36 = .ok (.istore_n 2, 1) := by decide +kernel
theorem dX11_layHeaps_37 : decode cX11_layHeaps 37 = .ok (.iload_n 2, 1) := by decide +kernel
theorem dX11_layHeaps_38 : decode cX11_layHeaps 38 = .ok (.aload_n 0, 1) := by decide +kernel
theorem dX11_layHeaps_39 : decode cX11_layHeaps 39 = .ok (.getfield 88, 3) := by decide +kernel
theorem dX11_layHeaps_42 : decode cX11_layHeaps 42 = .ok (.if_icmp .ge 63, 3) := by decide +kernel
theorem dX11_layHeaps_45 : decode cX11_layHeaps 45 = .ok (.iconst 0, 1) := by decide +kernel
theorem dX11_layHeaps_46 : decode cX11_layHeaps 46 = .ok (.istore_n 3, 1) := by decide +kernel
theorem dX11_layHeaps_47 : decode cX11_layHeaps 47 = .ok (.iload_n 3, 1) := by decide +kernel
theorem dX11_layHeaps_48 : decode cX11_layHeaps 48 = .ok (.aload_n 0, 1) := by decide +kernel
theorem dX11_layHeaps_49 : decode cX11_layHeaps 49 = .ok (.getfield 88, 3) := by decide +kernel
theorem dX11_layHeaps_52 : decode cX11_layHeaps 52 = .ok (.if_icmp .ge 47, 3) := by decide +kernel
theorem dX11_layHeaps_55 : decode cX11_layHeaps 55 = .ok (.aload_n 0, 1) := by decide +kernel
theorem dX11_layHeaps_56 : decode cX11_layHeaps 56 = .ok (.getfield 50, 3) := by decide +kernel
theorem dX11_layHeaps_59 : decode cX11_layHeaps 59 = .ok (.iload_n 3, 1) := by decide +kernel
theorem dX11_layHeaps_60 : decode cX11_layHeaps 60 = .ok (.iaload, 1) := by decide +kernel
theorem dX11_layHeaps_61 : decode cX11_layHeaps 61 = .ok (.aload_n 0, 1) := by decide +kernel
theorem dX11_layHeaps_62 : decode cX11_layHeaps 62 = .ok (.getfield 50, 3) := by decide +kernel
theorem dX11_layHeaps_65 : decode cX11_layHeaps 65 = .ok (.iload_n 2, 1) := by decide +kernel
theorem dX11_layHeaps_66 : decode cX11_layHeaps 66 = .ok (.iaload, 1) := by decide +kernel
theorem dX11_layHeaps_67 : decode cX11_layHeaps 67 = .ok (.if_icmp .ge 26, 3) := by decide +kernel
theorem dX11_layHeaps_70 : decode cX11_layHeaps 70 = .ok (.aload_n 0, 1) := by decide +kernel
theorem dX11_layHeaps_71 : decode cX11_layHeaps 71 = .ok (.iload_n 2, 1) := by decide +kernel
theorem dX11_layHeaps_72 : decode cX11_layHeaps 72 = .ok (.iload_n 3, 1) := by decide +kernel
theorem dX11_layHeaps_73 : decode cX11_layHeaps 73 = .ok (.invokevirtual 105, 3) := by decide +kernel
theorem dX11_layHeaps_76 : decode cX11_layHeaps 76 = .ok (.ifCond .eq 17, 3) := by decide +kernel
theorem dX11_layHeaps_79 : decode cX11_layHeaps 79 = .ok (.aload_n 0, 1) := by decide +kernel
theorem dX11_layHeaps_80 : decode cX11_layHeaps 80 = .ok (.getfield 50, 3) := by decide +kernel
theorem dX11_layHeaps_83 : decode cX11_layHeaps 83 = .ok (.iload_n 2, 1) := by decide +kernel
theorem dX11_layHeaps_84 : decode cX11_layHeaps 84 = .ok (.aload_n 0, 1) := by decide +kernel
theorem dX11_layHeaps_85 : decode cX11_layHeaps 85 = .ok (.getfield 50, 3) := by decide +kernel
theorem dX11_layHeaps_88 : decode cX11_layHeaps 88 = .ok (.iload_n 3, 1) := by decide +kernel
theorem dX11_layHeaps_89 : decode cX11_layHeaps 89 = .ok (.iaload, 1) := by decide +kernel
theorem dX11_layHeaps_90 : decode cX11_layHeaps 90 = .ok (.iastore, 1) := by decide +kernel
theorem dX11_layHeaps_91 : decode cX11_layHeaps 91 = .ok (.iconst 1, 1) := by decide +kernel
theorem dX11_layHeaps_92 : decode cX11_layHeaps 92 = .ok (.istore_n 1, 1) := by decide +kernel
theorem dX11_layHeaps_93 : decode cX11_layHeaps 93 = .ok (.iinc 3 1, 3) := by decide +kernel
theorem dX11_layHeaps_96 : decode cX11_layHeaps 96 = .ok (.goto (-49), 3) := by decide +kernel
theorem dX11_layHeaps_99 : decode cX11_layHeaps 99 = .ok (.iinc 2 1, 3) := by decide +kernel
theorem dX11_layHeaps_102 : decode cX11_layHeaps 102 = .ok (.goto (-65), 3) := by decide +kernel
theorem dX11_layHeaps_105 : decode cX11_layHeaps 105 = .ok (.goto (-76), 3) := by decide +kernel
theorem dX11_layHeaps_108 : decode cX11_layHeaps 108 = .ok (.return_, 1) := by decide +kernel
theorem dX11_begins_0 : decode cX11_begins 0 = .ok (.aload_n 0, 1) := by decide +kernel
theorem dX11_begins_1 : decode cX11_begins 1 = .ok (.getfield 41, 3) := by decide +kernel
theorem dX11_begins_4 : decode cX11_begins 4 = .ok (.iload_n 1, 1) := by decide +kernel
theorem dX11_begins_5 : decode cX11_begins 5 = .ok (.iaload, 1) := by decide +kernel
theorem dX11_begins_6 : decode cX11_begins 6 = .ok (.iconst 1, 1) := by decide +kernel
theorem dX11_begins_7 : decode cX11_begins 7 = .ok (.if_icmp .ne 17, 3) := by decide +kernel
theorem dX11_begins_10 : decode cX11_begins 10 = .ok (.aload_n 0, 1) := by decide +kernel
theorem dX11_begins_11 : decode cX11_begins 11 = .ok (.getfield 50, 3) := by decide +kernel
theorem dX11_begins_14 : decode cX11_begins 14 = .ok (.iload_n 1, 1) := by decide +kernel
theorem dX11_begins_15 : decode cX11_begins 15 = .ok (.iaload, 1) := by decide +kernel
theorem dX11_begins_16 : decode cX11_begins 16 = .ok (.iload_n 1, 1) := by decide +kernel
theorem dX11_begins_17 : decode cX11_begins 17 = .ok (.if_icmp .ne 7, 3) := by decide +kernel
theorem dX11_begins_20 : decode cX11_begins 20 = .ok (.iconst 1, 1) := by decide +kernel
theorem dX11_begins_21 : decode cX11_begins 21 = .ok (.goto 4, 3) := by decide +kernel
theorem dX11_begins_24 : decode cX11_begins 24 = .ok (.iconst 0, 1) := by decide +kernel
theorem dX11_begins_25 : decode cX11_begins 25 = .ok (.ireturn, 1) := by decide +kernel
theorem dX11_stories_0 : decode cX11_stories 0 = .ok (.aload_n 0, 1) := by decide +kernel
theorem dX11_stories_1 : decode cX11_stories 1 = .ok (.invokevirtual 108, 3) := by decide +kernel
theorem dX11_stories_4 : decode cX11_stories 4 = .ok (.iconst 0, 1) := by decide +kernel
theorem dX11_stories_5 : decode cX11_stories 5 = .ok (.istore_n 1, 1) := by decide +kernel
theorem dX11_stories_6 : decode cX11_stories 6 = .ok (.iconst 0, 1) := by decide +kernel
theorem dX11_stories_7 : decode cX11_stories 7 = .ok (.istore_n 2, 1) := by decide +kernel
theorem dX11_stories_8 : decode cX11_stories 8 = .ok (.iload_n 2, 1) := by decide +kernel
theorem dX11_stories_9 : decode cX11_stories 9 = .ok (.aload_n 0, 1) := by decide +kernel
theorem dX11_stories_10 : decode cX11_stories 10 = .ok (.getfield 88, 3) := by decide +kernel
theorem dX11_stories_13 : decode cX11_stories 13 = .ok (.if_icmp .ge 25, 3) := by decide +kernel
theorem dX11_stories_16 : decode cX11_stories 16 = .ok (.iload_n 1, 1) := by decide +kernel
theorem dX11_stories_17 : decode cX11_stories 17 = .ok (.aload_n 0, 1) := by decide +kernel
theorem dX11_stories_18 : decode cX11_stories 18 = .ok (.iload_n 2, 1) := by decide +kernel
theorem dX11_stories_19 : decode cX11_stories 19 = .ok (.invokevirtual 111, 3) := by decide +kernel
theorem dX11_stories_22 : decode cX11_stories 22 = .ok (.ifCond .eq 7, 3) := by decide +kernel
theorem dX11_stories_25 : decode cX11_stories 25 = .ok (.iconst 1, 1) := by decide +kernel
theorem dX11_stories_26 : decode cX11_stories 26 = .ok (.goto 4, 3) := by decide +kernel
theorem dX11_stories_29 : decode cX11_stories 29 = .ok (.iconst 0, 1) := by decide +kernel
theorem dX11_stories_30 : decode cX11_stories 30 = .ok (.iadd, 1) := by decide +kernel
theorem dX11_stories_31 : decode cX11_stories 31 = .ok (.istore_n 1, 1) := by decide +kernel
theorem dX11_stories_32 : decode cX11_stories 32 = .ok (.iinc 2 1, 3) := by decide +kernel
theorem dX11_stories_35 : decode cX11_stories 35 = .ok (.goto (-27), 3) := by decide +kernel
theorem dX11_stories_38 : decode cX11_stories 38 = .ok (.iload_n 1, 1) := by decide +kernel
theorem dX11_stories_39 : decode cX11_stories 39 = .ok (.ireturn, 1) := by decide +kernel
theorem dX11_storyOf_0 : decode cX11_storyOf 0 = .ok (.iconst (-1), 1) := by decide +kernel
theorem dX11_storyOf_1 : decode cX11_storyOf 1 = .ok (.istore_n 2, 1) := by decide +kernel
theorem dX11_storyOf_2 : decode cX11_storyOf 2 = .ok (.iconst 0, 1) := by decide +kernel
theorem dX11_storyOf_3 : decode cX11_storyOf 3 = .ok (.istore_n 3, 1) := by decide +kernel
theorem dX11_storyOf_4 : decode cX11_storyOf 4 = .ok (.iload_n 3, 1) := by decide +kernel
theorem dX11_storyOf_5 : decode cX11_storyOf 5 = .ok (.aload_n 0, 1) := by decide +kernel
theorem dX11_storyOf_6 : decode cX11_storyOf 6 = .ok (.getfield 50, 3) := by decide +kernel
theorem dX11_storyOf_9 : decode cX11_storyOf 9 = .ok (.iload_n 1, 1) := by decide +kernel
theorem dX11_storyOf_10 : decode cX11_storyOf 10 = .ok (.iaload, 1) := by decide +kernel
theorem dX11_storyOf_11 : decode cX11_storyOf 11 = .ok (.if_icmp .gt 25, 3) := by decide +kernel
theorem dX11_storyOf_14 : decode cX11_storyOf 14 = .ok (.iload_n 2, 1) := by decide +kernel
theorem dX11_storyOf_15 : decode cX11_storyOf 15 = .ok (.aload_n 0, 1) := by decide +kernel
theorem dX11_storyOf_16 : decode cX11_storyOf 16 = .ok (.iload_n 3, 1) := by decide +kernel
theorem dX11_storyOf_17 : decode cX11_storyOf 17 = .ok (.invokevirtual 111, 3) := by decide +kernel
theorem dX11_storyOf_20 : decode cX11_storyOf 20 = .ok (.ifCond .eq 7, 3) := by decide +kernel
theorem dX11_storyOf_23 : decode cX11_storyOf 23 = .ok (.iconst 1, 1) := by decide +kernel
theorem dX11_storyOf_24 : decode cX11_storyOf 24 = .ok (.goto 4, 3) := by decide +kernel
theorem dX11_storyOf_27 : decode cX11_storyOf 27 = .ok (.iconst 0, 1) := by decide +kernel
theorem dX11_storyOf_28 : decode cX11_storyOf 28 = .ok (.iadd, 1) := by decide +kernel
theorem dX11_storyOf_29 : decode cX11_storyOf 29 = .ok (.istore_n 2, 1) := by decide +kernel
theorem dX11_storyOf_30 : decode cX11_storyOf 30 = .ok (.iinc 3 1, 3) := by decide +kernel
theorem dX11_storyOf_33 : decode cX11_storyOf 33 = .ok (.goto (-29), 3) := by decide +kernel
theorem dX11_storyOf_36 : decode cX11_storyOf 36 = .ok (.aload_n 0, 1) := by decide +kernel
theorem dX11_storyOf_37 : decode cX11_storyOf 37 = .ok (.getfield 41, 3) := by decide +kernel
theorem dX11_storyOf_40 : decode cX11_storyOf 40 = .ok (.iload_n 1, 1) := by decide +kernel
theorem dX11_storyOf_41 : decode cX11_storyOf 41 = .ok (.iaload, 1) := by decide +kernel
theorem dX11_storyOf_42 : decode cX11_storyOf 42 = .ok (.iconst 1, 1) := by decide +kernel
theorem dX11_storyOf_43 : decode cX11_storyOf 43 = .ok (.if_icmp .le 7, 3) := by decide +kernel
theorem dX11_storyOf_46 : decode cX11_storyOf 46 = .ok (.iconst (-1), 1) := by decide +kernel
theorem dX11_storyOf_47 : decode cX11_storyOf 47 = .ok (.goto 4, 3) := by decide +kernel
theorem dX11_storyOf_50 : decode cX11_storyOf 50 = .ok (.iload_n 2, 1) := by decide +kernel
theorem dX11_storyOf_51 : decode cX11_storyOf 51 = .ok (.ireturn, 1) := by decide +kernel
theorem dX11_isFigure_0 : decode cX11_isFigure 0 = .ok (.iload_n 0, 1) := by decide +kernel
theorem dX11_isFigure_1 : decode cX11_isFigure 1 = .ok (.i2l, 1) := by decide +kernel
theorem dX11_isFigure_2 : decode cX11_isFigure 2 = .ok (.ldc2_w 115, 3) := by decide +kernel
theorem dX11_isFigure_5 : decode cX11_isFigure 5 = .ok (.ldc2_w 117, 3) := by decide +kernel
theorem dX11_isFigure_8 : decode cX11_isFigure 8 = .ok (.invokestatic 94, 3) := by decide +kernel
theorem dX11_isFigure_11 : decode cX11_isFigure 11 = .ok (.ireturn, 1) := by decide +kernel
theorem dX11_dayAt_0 : decode cX11_dayAt 0 = .ok (.iload_n 1, 1) := by decide +kernel
theorem dX11_dayAt_1 : decode cX11_dayAt 1 = .ok (.iconst 1, 1) := by decide +kernel
theorem dX11_dayAt_2 : decode cX11_dayAt 2 = .ok (.iadd, 1) := by decide +kernel
theorem dX11_dayAt_3 : decode cX11_dayAt 3 = .ok (.aload_n 0, 1) := by decide +kernel
theorem dX11_dayAt_4 : decode cX11_dayAt 4 = .ok (.getfield 119, 3) := by decide +kernel
theorem dX11_dayAt_7 : decode cX11_dayAt 7 = .ok (.if_icmp .ge 14, 3) := by decide +kernel
theorem dX11_dayAt_10 : decode cX11_dayAt 10 = .ok (.aload_n 0, 1) := by decide +kernel
theorem dX11_dayAt_11 : decode cX11_dayAt 11 = .ok (.getfield 16, 3) := by decide +kernel
theorem dX11_dayAt_14 : decode cX11_dayAt 14 = .ok (.iload_n 1, 1) := by decide +kernel
theorem dX11_dayAt_15 : decode cX11_dayAt 15 = .ok (.iconst 1, 1) := by decide +kernel
theorem dX11_dayAt_16 : decode cX11_dayAt 16 = .ok (.iadd, 1) := by decide +kernel
theorem dX11_dayAt_17 : decode cX11_dayAt 17 = .ok (.iaload, 1) := by decide +kernel
theorem dX11_dayAt_18 : decode cX11_dayAt 18 = .ok (.goto 4, 3) := by decide +kernel
theorem dX11_dayAt_21 : decode cX11_dayAt 21 = .ok (.iconst (-1), 1) := by decide +kernel
theorem dX11_dayAt_22 : decode cX11_dayAt 22 = .ok (.istore_n 2, 1) := by decide +kernel
theorem dX11_dayAt_23 : decode cX11_dayAt 23 = .ok (.aload_n 0, 1) := by decide +kernel
theorem dX11_dayAt_24 : decode cX11_dayAt 24 = .ok (.getfield 16, 3) := by decide +kernel
theorem dX11_dayAt_27 : decode cX11_dayAt 27 = .ok (.iload_n 1, 1) := by decide +kernel
theorem dX11_dayAt_28 : decode cX11_dayAt 28 = .ok (.iaload, 1) := by decide +kernel
theorem dX11_dayAt_29 : decode cX11_dayAt 29 = .ok (.bipush 49, 2) := by decide +kernel
theorem dX11_dayAt_31 : decode cX11_dayAt 31 = .ok (.if_icmp .ne 19, 3) := by decide +kernel
theorem dX11_dayAt_34 : decode cX11_dayAt 34 = .ok (.iload_n 2, 1) := by decide +kernel
theorem dX11_dayAt_35 : decode cX11_dayAt 35 = .ok (.bipush 48, 2) := by decide +kernel
theorem dX11_dayAt_37 : decode cX11_dayAt 37 = .ok (.if_icmp .eq 9, 3) := by decide +kernel
theorem dX11_dayAt_40 : decode cX11_dayAt 40 = .ok (.iload_n 2, 1) := by decide +kernel
theorem dX11_dayAt_41 : decode cX11_dayAt 41 = .ok (.bipush 49, 2) := by decide +kernel
theorem dX11_dayAt_43 : decode cX11_dayAt 43 = .ok (.if_icmp .ne 7, 3) := by decide +kernel
theorem dX11_dayAt_46 : decode cX11_dayAt 46 = .ok (.iconst 1, 1) := by decide +kernel
theorem dX11_dayAt_47 : decode cX11_dayAt 47 = .ok (.goto 4, 3) := by decide +kernel
theorem dX11_dayAt_50 : decode cX11_dayAt 50 = .ok (.iconst 0, 1) := by decide +kernel
theorem dX11_dayAt_51 : decode cX11_dayAt 51 = .ok (.istore_n 3, 1) := by decide +kernel
theorem dX11_dayAt_52 : decode cX11_dayAt 52 = .ok (.iload_n 3, 1) := by decide +kernel
theorem dX11_dayAt_53 : decode cX11_dayAt 53 = .ok (.ifCond .eq 13, 3) := by decide +kernel
theorem dX11_dayAt_56 : decode cX11_dayAt 56 = .ok (.bipush 10, 2) := by decide +kernel
theorem dX11_dayAt_58 : decode cX11_dayAt 58 = .ok (.iload_n 2, 1) := by decide +kernel
theorem dX11_dayAt_59 : decode cX11_dayAt 59 = .ok (.iadd, 1) := by decide +kernel
theorem dX11_dayAt_60 : decode cX11_dayAt 60 = .ok (.bipush 48, 2) := by decide +kernel
theorem dX11_dayAt_62 : decode cX11_dayAt 62 = .ok (.isub, 1) := by decide +kernel
theorem dX11_dayAt_63 : decode cX11_dayAt 63 = .ok (.goto 12, 3) := by decide +kernel
theorem dX11_dayAt_66 : decode cX11_dayAt 66 = .ok (.aload_n 0, 1) := by decide +kernel
theorem dX11_dayAt_67 : decode cX11_dayAt 67 = .ok (.getfield 16, 3) := by decide +kernel
theorem dX11_dayAt_70 : decode cX11_dayAt 70 = .ok (.iload_n 1, 1) := by decide +kernel
theorem dX11_dayAt_71 : decode cX11_dayAt 71 = .ok (.iaload, 1) := by decide +kernel
theorem dX11_dayAt_72 : decode cX11_dayAt 72 = .ok (.bipush 48, 2) := by decide +kernel
theorem dX11_dayAt_74 : decode cX11_dayAt 74 = .ok (.isub, 1) := by decide +kernel
theorem dX11_dayAt_75 : decode cX11_dayAt 75 = .ok (.ireturn, 1) := by decide +kernel
theorem dX11_faultOf_0 : decode cX11_faultOf 0 = .ok (.aload_n 0, 1) := by decide +kernel
theorem dX11_faultOf_1 : decode cX11_faultOf 1 = .ok (.getfield 16, 3) := by decide +kernel
theorem dX11_faultOf_4 : decode cX11_faultOf 4 = .ok (.iload_n 1, 1) := by decide +kernel
theorem dX11_faultOf_5 : decode cX11_faultOf 5 = .ok (.iaload, 1) := by decide +kernel
theorem dX11_faultOf_6 : decode cX11_faultOf 6 = .ok (.istore_n 2, 1) := by decide +kernel
theorem dX11_faultOf_7 : decode cX11_faultOf 7 = .ok (.aload_n 0, 1) := by decide +kernel
theorem dX11_faultOf_8 : decode cX11_faultOf 8 = .ok (.getfield 122, 3) := by decide +kernel
theorem dX11_faultOf_11 : decode cX11_faultOf 11 = .ok (.tableswitch 112 0 2 #[25, 76, 100], 25) := by decide +kernel
theorem dX11_faultOf_36 : decode cX11_faultOf 36 = .ok (.iload_n 2, 1) := by decide +kernel
theorem dX11_faultOf_37 : decode cX11_faultOf 37 = .ok (.invokestatic 125, 3) := by decide +kernel
theorem dX11_faultOf_40 : decode cX11_faultOf 40 = .ok (.ifCond .ne 7, 3) := by decide +kernel
theorem dX11_faultOf_43 : decode cX11_faultOf 43 = .ok (.iconst 1, 1) := by decide +kernel
theorem dX11_faultOf_44 : decode cX11_faultOf 44 = .ok (.goto 42, 3) := by decide +kernel
theorem dX11_faultOf_47 : decode cX11_faultOf 47 = .ok (.aload_n 0, 1) := by decide +kernel
theorem dX11_faultOf_48 : decode cX11_faultOf 48 = .ok (.iload_n 1, 1) := by decide +kernel
theorem dX11_faultOf_49 : decode cX11_faultOf 49 = .ok (.invokevirtual 128, 3) := by decide +kernel
theorem dX11_faultOf_52 : decode cX11_faultOf 52 = .ok (.aload_n 0, 1) := by decide +kernel
theorem dX11_faultOf_53 : decode cX11_faultOf 53 = .ok (.getfield 7, 3) := by decide +kernel
theorem dX11_faultOf_56 : decode cX11_faultOf 56 = .ok (.iconst 0, 1) := by decide +kernel
theorem dX11_faultOf_57 : decode cX11_faultOf 57 = .ok (.iaload, 1) := by decide +kernel
theorem dX11_faultOf_58 : decode cX11_faultOf 58 = .ok (.if_icmp .lt 7, 3) := by decide +kernel
theorem dX11_faultOf_61 : decode cX11_faultOf 61 = .ok (.iconst 2, 1) := by decide +kernel
theorem dX11_faultOf_62 : decode cX11_faultOf 62 = .ok (.goto 24, 3) := by decide +kernel
theorem dX11_faultOf_65 : decode cX11_faultOf 65 = .ok (.aload_n 0, 1) := by decide +kernel
theorem dX11_faultOf_66 : decode cX11_faultOf 66 = .ok (.getfield 7, 3) := by decide +kernel
theorem dX11_faultOf_69 : decode cX11_faultOf 69 = .ok (.iconst 1, 1) := by decide +kernel
theorem dX11_faultOf_70 : decode cX11_faultOf 70 = .ok (.iaload, 1) := by decide +kernel
theorem dX11_faultOf_71 : decode cX11_faultOf 71 = .ok (.aload_n 0, 1) := by decide +kernel
theorem dX11_faultOf_72 : decode cX11_faultOf 72 = .ok (.getfield 132, 3) := by decide +kernel
theorem dX11_faultOf_75 : decode cX11_faultOf 75 = .ok (.iadd, 1) := by decide +kernel
theorem dX11_faultOf_76 : decode cX11_faultOf 76 = .ok (.bipush 40, 2) := by decide +kernel
theorem dX11_faultOf_78 : decode cX11_faultOf 78 = .ok (.if_icmp .ne 7, 3) := by decide +kernel
theorem dX11_faultOf_81 : decode cX11_faultOf 81 = .ok (.iconst 3, 1) := by decide +kernel
theorem dX11_faultOf_82 : decode cX11_faultOf 82 = .ok (.goto 4, 3) := by decide +kernel
theorem dX11_faultOf_85 : decode cX11_faultOf 85 = .ok (.iconst 0, 1) := by decide +kernel
theorem dX11_faultOf_86 : decode cX11_faultOf 86 = .ok (.ireturn, 1) := by decide +kernel
theorem dX11_faultOf_87 : decode cX11_faultOf 87 = .ok (.iload_n 2, 1) := by decide +kernel
theorem dX11_faultOf_88 : decode cX11_faultOf 88 = .ok (.bipush 48, 2) := by decide +kernel
theorem dX11_faultOf_90 : decode cX11_faultOf 90 = .ok (.if_icmp .eq 15, 3) := by decide +kernel
theorem dX11_faultOf_93 : decode cX11_faultOf 93 = .ok (.iload_n 2, 1) := by decide +kernel
theorem dX11_faultOf_94 : decode cX11_faultOf 94 = .ok (.bipush 49, 2) := by decide +kernel
theorem dX11_faultOf_96 : decode cX11_faultOf 96 = .ok (.if_icmp .eq 9, 3) := by decide +kernel
theorem dX11_faultOf_99 : decode cX11_faultOf 99 = .ok (.iload_n 2, 1) := by decide +kernel
theorem dX11_faultOf_100 : decode cX11_faultOf 100 = .ok (.bipush 58, 2) := by decide +kernel
theorem dX11_faultOf_102 : decode cX11_faultOf 102 = .ok (.if_icmp .ne 7, 3) := by decide +kernel
theorem dX11_faultOf_105 : decode cX11_faultOf 105 = .ok (.iconst 0, 1) := by decide +kernel
theorem dX11_faultOf_106 : decode cX11_faultOf 106 = .ok (.goto 4, 3) := by decide +kernel
theorem dX11_faultOf_109 : decode cX11_faultOf 109 = .ok (.iconst 1, 1) := by decide +kernel
theorem dX11_faultOf_110 : decode cX11_faultOf 110 = .ok (.ireturn, 1) := by decide +kernel
theorem dX11_faultOf_111 : decode cX11_faultOf 111 = .ok (.iload_n 2, 1) := by decide +kernel
theorem dX11_faultOf_112 : decode cX11_faultOf 112 = .ok (.bipush 58, 2) := by decide +kernel
theorem dX11_faultOf_114 : decode cX11_faultOf 114 = .ok (.if_icmp .ne 7, 3) := by decide +kernel
theorem dX11_faultOf_117 : decode cX11_faultOf 117 = .ok (.iconst 0, 1) := by decide +kernel
theorem dX11_faultOf_118 : decode cX11_faultOf 118 = .ok (.goto 4, 3) := by decide +kernel
theorem dX11_faultOf_121 : decode cX11_faultOf 121 = .ok (.iconst 1, 1) := by decide +kernel
theorem dX11_faultOf_122 : decode cX11_faultOf 122 = .ok (.ireturn, 1) := by decide +kernel
theorem dX11_faultOf_123 : decode cX11_faultOf 123 = .ok (.iload_n 2, 1) := by decide +kernel
theorem dX11_faultOf_124 : decode cX11_faultOf 124 = .ok (.i2l, 1) := by decide +kernel
theorem dX11_faultOf_125 : decode cX11_faultOf 125 = .ok (.ldc2_w 135, 3) := by decide +kernel
theorem dX11_faultOf_128 : decode cX11_faultOf 128 = .ok (.ldc2_w 137, 3) := by decide +kernel
theorem dX11_faultOf_131 : decode cX11_faultOf 131 = .ok (.invokestatic 94, 3) := by decide +kernel
theorem dX11_faultOf_134 : decode cX11_faultOf 134 = .ok (.ifCond .ne 9, 3) := by decide +kernel
theorem dX11_faultOf_137 : decode cX11_faultOf 137 = .ok (.iload_n 2, 1) := by decide +kernel
theorem dX11_faultOf_138 : decode cX11_faultOf 138 = .ok (.bipush 59, 2) := by decide +kernel
theorem dX11_faultOf_140 : decode cX11_faultOf 140 = .ok (.if_icmp .ne 7, 3) := by decide +kernel
theorem dX11_faultOf_143 : decode cX11_faultOf 143 = .ok (.iconst 0, 1) := by decide +kernel
theorem dX11_faultOf_144 : decode cX11_faultOf 144 = .ok (.goto 4, 3) := by decide +kernel
theorem dX11_faultOf_147 : decode cX11_faultOf 147 = .ok (.iconst 1, 1) := by decide +kernel
theorem dX11_faultOf_148 : decode cX11_faultOf 148 = .ok (.ireturn, 1) := by decide +kernel
theorem dX11_goOn_0 : decode cX11_goOn 0 = .ok (.aload_n 0, 1) := by decide +kernel
theorem dX11_goOn_1 : decode cX11_goOn 1 = .ok (.getfield 16, 3) := by decide +kernel
theorem dX11_goOn_4 : decode cX11_goOn 4 = .ok (.iload_n 1, 1) := by decide +kernel
theorem dX11_goOn_5 : decode cX11_goOn 5 = .ok (.iaload, 1) := by decide +kernel
theorem dX11_goOn_6 : decode cX11_goOn 6 = .ok (.istore_n 2, 1) := by decide +kernel
theorem dX11_goOn_7 : decode cX11_goOn 7 = .ok (.aload_n 0, 1) := by decide +kernel
theorem dX11_goOn_8 : decode cX11_goOn 8 = .ok (.getfield 122, 3) := by decide +kernel
theorem dX11_goOn_11 : decode cX11_goOn 11 = .ok (.ifCond .ne 45, 3) := by decide +kernel
theorem dX11_goOn_14 : decode cX11_goOn 14 = .ok (.aload_n 0, 1) := by decide +kernel
theorem dX11_goOn_15 : decode cX11_goOn 15 = .ok (.getfield 53, 3) := by decide +kernel
theorem dX11_goOn_18 : decode cX11_goOn 18 = .ok (.aload_n 0, 1) := by decide +kernel
theorem dX11_goOn_19 : decode cX11_goOn 19 = .ok (.getfield 132, 3) := by decide +kernel
theorem dX11_goOn_22 : decode cX11_goOn 22 = .ok (.aload_n 0, 1) := by decide +kernel
theorem dX11_goOn_23 : decode cX11_goOn 23 = .ok (.iload_n 1, 1) := by decide +kernel
theorem dX11_goOn_24 : decode cX11_goOn 24 = .ok (.invokevirtual 128, 3) := by decide +kernel
theorem dX11_goOn_27 : decode cX11_goOn 27 = .ok (.iastore, 1) := by decide +kernel
theorem dX11_goOn_28 : decode cX11_goOn 28 = .ok (.aload_n 0, 1) := by decide +kernel
theorem dX11_goOn_29 : decode cX11_goOn 29 = .ok (.getfield 56, 3) := by decide +kernel
theorem dX11_goOn_32 : decode cX11_goOn 32 = .ok (.aload_n 0, 1) := by decide +kernel
theorem dX11_goOn_33 : decode cX11_goOn 33 = .ok (.getfield 132, 3) := by decide +kernel
theorem dX11_goOn_36 : decode cX11_goOn 36 = .ok (.iconst 0, 1) := by decide +kernel
theorem dX11_goOn_37 : decode cX11_goOn 37 = .ok (.iastore, 1) := by decide +kernel
theorem dX11_goOn_38 : decode cX11_goOn 38 = .ok (.aload_n 0, 1) := by decide +kernel
theorem dX11_goOn_39 : decode cX11_goOn 39 = .ok (.iload_n 2, 1) := by decide +kernel
theorem dX11_goOn_40 : decode cX11_goOn 40 = .ok (.bipush 49, 2) := by decide +kernel
theorem dX11_goOn_42 : decode cX11_goOn 42 = .ok (.if_icmp .ne 7, 3) := by decide +kernel
theorem dX11_goOn_45 : decode cX11_goOn 45 = .ok (.iconst 1, 1) := by decide +kernel
theorem dX11_goOn_46 : decode cX11_goOn 46 = .ok (.goto 4, 3) := by decide +kernel
theorem dX11_goOn_49 : decode cX11_goOn 49 = .ok (.iconst 2, 1) := by decide +kernel
theorem dX11_goOn_50 : decode cX11_goOn 50 = .ok (.putfield 122, 3) := by decide +kernel
theorem dX11_goOn_53 : decode cX11_goOn 53 = .ok (.goto 71, 3) := by decide +kernel
theorem dX11_goOn_56 : decode cX11_goOn 56 = .ok (.aload_n 0, 1) := by decide +kernel
theorem dX11_goOn_57 : decode cX11_goOn 57 = .ok (.getfield 122, 3) := by decide +kernel
theorem dX11_goOn_60 : decode cX11_goOn 60 = .ok (.iconst 3, 1) := by decide +kernel
theorem dX11_goOn_61 : decode cX11_goOn 61 = .ok (.if_icmp .ge 21, 3) := by decide +kernel
theorem dX11_goOn_64 : decode cX11_goOn 64 = .ok (.aload_n 0, 1) := by decide +kernel
theorem dX11_goOn_65 : decode cX11_goOn 65 = .ok (.iload_n 2, 1) := by decide +kernel
theorem dX11_goOn_66 : decode cX11_goOn 66 = .ok (.bipush 58, 2) := by decide +kernel
theorem dX11_goOn_68 : decode cX11_goOn 68 = .ok (.if_icmp .ne 7, 3) := by decide +kernel
theorem dX11_goOn_71 : decode cX11_goOn 71 = .ok (.iconst 3, 1) := by decide +kernel
theorem dX11_goOn_72 : decode cX11_goOn 72 = .ok (.goto 4, 3) := by decide +kernel
theorem dX11_goOn_75 : decode cX11_goOn 75 = .ok (.iconst 2, 1) := by decide +kernel
theorem dX11_goOn_76 : decode cX11_goOn 76 = .ok (.putfield 122, 3) := by decide +kernel
theorem dX11_goOn_79 : decode cX11_goOn 79 = .ok (.goto 45, 3) := by decide +kernel
theorem dX11_goOn_82 : decode cX11_goOn 82 = .ok (.iload_n 2, 1) := by decide +kernel
theorem dX11_goOn_83 : decode cX11_goOn 83 = .ok (.bipush 59, 2) := by decide +kernel
theorem dX11_goOn_85 : decode cX11_goOn 85 = .ok (.if_icmp .ne 21, 3) := by decide +kernel
theorem dX11_goOn_88 : decode cX11_goOn 88 = .ok (.aload_n 0, 1) := by decide +kernel
theorem dX11_goOn_89 : decode cX11_goOn 89 = .ok (.dup, 1) := by decide +kernel
theorem dX11_goOn_90 : decode cX11_goOn 90 = .ok (.getfield 132, 3) := by decide +kernel
theorem dX11_goOn_93 : decode cX11_goOn 93 = .ok (.iconst 1, 1) := by decide +kernel
theorem dX11_goOn_94 : decode cX11_goOn 94 = .ok (.iadd, 1) := by decide +kernel
theorem dX11_goOn_95 : decode cX11_goOn 95 = .ok (.putfield 132, 3) := by decide +kernel
theorem dX11_goOn_98 : decode cX11_goOn 98 = .ok (.aload_n 0, 1) := by decide +kernel
theorem dX11_goOn_99 : decode cX11_goOn 99 = .ok (.iconst 0, 1) := by decide +kernel
theorem dX11_goOn_100 : decode cX11_goOn 100 = .ok (.putfield 122, 3) := by decide +kernel
theorem dX11_goOn_103 : decode cX11_goOn 103 = .ok (.goto 21, 3) := by decide +kernel
theorem dX11_goOn_106 : decode cX11_goOn 106 = .ok (.aload_n 0, 1) := by decide +kernel
theorem dX11_goOn_107 : decode cX11_goOn 107 = .ok (.getfield 56, 3) := by decide +kernel
theorem dX11_goOn_110 : decode cX11_goOn 110 = .ok (.aload_n 0, 1) := by decide +kernel
theorem dX11_goOn_111 : decode cX11_goOn 111 = .ok (.getfield 132, 3) := by decide +kernel
theorem dX11_goOn_114 : decode cX11_goOn 114 = .ok (.dup2, 1) := by decide +kernel
theorem dX11_goOn_115 : decode cX11_goOn 115 = .ok (.iaload, 1) := by decide +kernel
theorem dX11_goOn_116 : decode cX11_goOn 116 = .ok (.iconst 1, 1) := by decide +kernel
theorem dX11_goOn_117 : decode cX11_goOn 117 = .ok (.iload_n 2, 1) := by decide +kernel
theorem dX11_goOn_118 : decode cX11_goOn 118 = .ok (.bipush 97, 2) := by decide +kernel
theorem dX11_goOn_120 : decode cX11_goOn 120 = .ok (.isub, 1) := by decide +kernel
theorem dX11_goOn_121 : decode cX11_goOn 121 = .ok (.ishl, 1) := by decide +kernel
theorem dX11_goOn_122 : decode cX11_goOn 122 = .ok (.ior, 1) := by decide +kernel
theorem dX11_goOn_123 : decode cX11_goOn 123 = .ok (.iastore, 1) := by decide +kernel
theorem dX11_goOn_124 : decode cX11_goOn 124 = .ok (.return_, 1) := by decide +kernel
theorem dX11_readText_0 : decode cX11_readText 0 = .ok (.aload_n 0, 1) := by decide +kernel
theorem dX11_readText_1 : decode cX11_readText 1 = .ok (.iconst 0, 1) := by decide +kernel
theorem dX11_readText_2 : decode cX11_readText 2 = .ok (.putfield 122, 3) := by decide +kernel
theorem dX11_readText_5 : decode cX11_readText 5 = .ok (.aload_n 0, 1) := by decide +kernel
theorem dX11_readText_6 : decode cX11_readText 6 = .ok (.iconst 0, 1) := by decide +kernel
theorem dX11_readText_7 : decode cX11_readText 7 = .ok (.putfield 132, 3) := by decide +kernel
theorem dX11_readText_10 : decode cX11_readText 10 = .ok (.iconst 0, 1) := by decide +kernel
theorem dX11_readText_11 : decode cX11_readText 11 = .ok (.istore_n 1, 1) := by decide +kernel
theorem dX11_readText_12 : decode cX11_readText 12 = .ok (.iload_n 1, 1) := by decide +kernel
theorem dX11_readText_13 : decode cX11_readText 13 = .ok (.aload_n 0, 1) := by decide +kernel
theorem dX11_readText_14 : decode cX11_readText 14 = .ok (.getfield 119, 3) := by decide +kernel
theorem dX11_readText_17 : decode cX11_readText 17 = .ok (.if_icmp .ge 31, 3) := by decide +kernel
theorem dX11_readText_20 : decode cX11_readText 20 = .ok (.aload_n 0, 1) := by decide +kernel
theorem dX11_readText_21 : decode cX11_readText 21 = .ok (.iload_n 1, 1) := by decide +kernel
theorem dX11_readText_22 : decode cX11_readText 22 = .ok (.invokevirtual 139, 3) := by decide +kernel
theorem dX11_readText_25 : decode cX11_readText 25 = .ok (.istore_n 2, 1) := by decide +kernel
theorem dX11_readText_26 : decode cX11_readText 26 = .ok (.iload_n 2, 1) := by decide +kernel
theorem dX11_readText_27 : decode cX11_readText 27 = .ok (.ifCond .le 10, 3) := by decide +kernel
theorem dX11_readText_30 : decode cX11_readText 30 = .ok (.aload_n 0, 1) := by decide +kernel
theorem dX11_readText_31 : decode cX11_readText 31 = .ok (.iload_n 1, 1) := by decide +kernel
theorem dX11_readText_32 : decode cX11_readText 32 = .ok (.putfield 19, 3) := by decide +kernel
theorem dX11_readText_35 : decode cX11_readText 35 = .ok (.iload_n 2, 1) := by decide +kernel
theorem dX11_readText_36 : decode cX11_readText 36 = .ok (.ireturn, 1) := by decide +kernel
theorem dX11_readText_37 : decode cX11_readText 37 = .ok (.aload_n 0, 1) := by decide +kernel
theorem dX11_readText_38 : decode cX11_readText 38 = .ok (.iload_n 1, 1) := by decide +kernel
theorem dX11_readText_39 : decode cX11_readText 39 = .ok (.invokevirtual 142, 3) := by decide +kernel
theorem dX11_readText_42 : decode cX11_readText 42 = .ok (.iinc 1 1, 3) := by decide +kernel
theorem dX11_readText_45 : decode cX11_readText 45 = .ok (.goto (-33), 3) := by decide +kernel
theorem dX11_readText_48 : decode cX11_readText 48 = .ok (.aload_n 0, 1) := by decide +kernel
theorem dX11_readText_49 : decode cX11_readText 49 = .ok (.aload_n 0, 1) := by decide +kernel
theorem dX11_readText_50 : decode cX11_readText 50 = .ok (.getfield 122, 3) := by decide +kernel
theorem dX11_readText_53 : decode cX11_readText 53 = .ok (.ifCond .ne 7, 3) := by decide +kernel
theorem dX11_readText_56 : decode cX11_readText 56 = .ok (.iconst (-1), 1) := by decide +kernel
theorem dX11_readText_57 : decode cX11_readText 57 = .ok (.goto 7, 3) := by decide +kernel
theorem dX11_readText_60 : decode cX11_readText 60 = .ok (.aload_n 0, 1) := by decide +kernel
theorem dX11_readText_61 : decode cX11_readText 61 = .ok (.getfield 119, 3) := by decide +kernel
theorem dX11_readText_64 : decode cX11_readText 64 = .ok (.putfield 19, 3) := by decide +kernel
theorem dX11_readText_67 : decode cX11_readText 67 = .ok (.aload_n 0, 1) := by decide +kernel
theorem dX11_readText_68 : decode cX11_readText 68 = .ok (.getfield 122, 3) := by decide +kernel
theorem dX11_readText_71 : decode cX11_readText 71 = .ok (.ifCond .ne 7, 3) := by decide +kernel
theorem dX11_readText_74 : decode cX11_readText 74 = .ok (.iconst 0, 1) := by decide +kernel
theorem dX11_readText_75 : decode cX11_readText 75 = .ok (.goto 4, 3) := by decide +kernel
theorem dX11_readText_78 : decode cX11_readText 78 = .ok (.iconst 1, 1) := by decide +kernel
theorem dX11_readText_79 : decode cX11_readText 79 = .ok (.ireturn, 1) := by decide +kernel
theorem dX11_feed_0 : decode cX11_feed 0 = .ok (.iload_n 1, 1) := by decide +kernel
theorem dX11_feed_1 : decode cX11_feed 1 = .ok (.i2l, 1) := by decide +kernel
theorem dX11_feed_2 : decode cX11_feed 2 = .ok (.lconst 0, 1) := by decide +kernel
theorem dX11_feed_3 : decode cX11_feed 3 = .ok (.ldc2_w 145, 3) := by decide +kernel
theorem dX11_feed_6 : decode cX11_feed 6 = .ok (.invokestatic 94, 3) := by decide +kernel
theorem dX11_feed_9 : decode cX11_feed 9 = .ok (.ifCond .ne 6, 3) := by decide +kernel
theorem dX11_feed_12 : decode cX11_feed 12 = .ok (.ldc 147, 2) := by decide +kernel
theorem dX11_feed_14 : decode cX11_feed 14 = .ok (.ireturn, 1) := by decide +kernel
theorem dX11_feed_15 : decode cX11_feed 15 = .ok (.aload_n 0, 1) := by decide +kernel
theorem dX11_feed_16 : decode cX11_feed 16 = .ok (.getfield 119, 3) := by decide +kernel
theorem dX11_feed_19 : decode cX11_feed 19 = .ok (.bipush 60, 2) := by decide +kernel
theorem dX11_feed_21 : decode cX11_feed 21 = .ok (.if_icmp .ne 6, 3) := by decide +kernel
theorem dX11_feed_24 : decode cX11_feed 24 = .ok (.ldc 148, 2) := by decide +kernel
theorem dX11_feed_26 : decode cX11_feed 26 = .ok (.ireturn, 1) := by decide +kernel
theorem dX11_feed_27 : decode cX11_feed 27 = .ok (.aload_n 0, 1) := by decide +kernel
theorem dX11_feed_28 : decode cX11_feed 28 = .ok (.getfield 16, 3) := by decide +kernel
theorem dX11_feed_31 : decode cX11_feed 31 = .ok (.aload_n 0, 1) := by decide +kernel
theorem dX11_feed_32 : decode cX11_feed 32 = .ok (.getfield 119, 3) := by decide +kernel
theorem dX11_feed_35 : decode cX11_feed 35 = .ok (.iload_n 1, 1) := by decide +kernel
theorem dX11_feed_36 : decode cX11_feed 36 = .ok (.iastore, 1) := by decide +kernel
theorem dX11_feed_37 : decode cX11_feed 37 = .ok (.aload_n 0, 1) := by decide +kernel
theorem dX11_feed_38 : decode cX11_feed 38 = .ok (.dup, 1) := by decide +kernel
theorem dX11_feed_39 : decode cX11_feed 39 = .ok (.getfield 119, 3) := by decide +kernel
theorem dX11_feed_42 : decode cX11_feed 42 = .ok (.iconst 1, 1) := by decide +kernel
theorem dX11_feed_43 : decode cX11_feed 43 = .ok (.iadd, 1) := by decide +kernel
theorem dX11_feed_44 : decode cX11_feed 44 = .ok (.putfield 119, 3) := by decide +kernel
theorem dX11_feed_47 : decode cX11_feed 47 = .ok (.aload_n 0, 1) := by decide +kernel
theorem dX11_feed_48 : decode cX11_feed 48 = .ok (.getfield 119, 3) := by decide +kernel
theorem dX11_feed_51 : decode cX11_feed 51 = .ok (.ireturn, 1) := by decide +kernel
theorem dX11_add_0 : decode cX11_add 0 = .ok (.aload_n 0, 1) := by decide +kernel
theorem dX11_add_1 : decode cX11_add 1 = .ok (.getfield 7, 3) := by decide +kernel
theorem dX11_add_4 : decode cX11_add 4 = .ok (.bipush 6, 2) := by decide +kernel
theorem dX11_add_6 : decode cX11_add 6 = .ok (.aload_n 0, 1) := by decide +kernel
theorem dX11_add_7 : decode cX11_add 7 = .ok (.getfield 7, 3) := by decide +kernel
theorem dX11_add_10 : decode cX11_add 10 = .ok (.iconst 1, 1) := by decide +kernel
theorem dX11_add_11 : decode cX11_add 11 = .ok (.iaload, 1) := by decide +kernel
theorem dX11_add_12 : decode cX11_add 12 = .ok (.iadd, 1) := by decide +kernel
theorem dX11_add_13 : decode cX11_add 13 = .ok (.iload_n 1, 1) := by decide +kernel
theorem dX11_add_14 : decode cX11_add 14 = .ok (.iastore, 1) := by decide +kernel
theorem dX11_add_15 : decode cX11_add 15 = .ok (.aload_n 0, 1) := by decide +kernel
theorem dX11_add_16 : decode cX11_add 16 = .ok (.getfield 7, 3) := by decide +kernel
theorem dX11_add_19 : decode cX11_add 19 = .ok (.bipush 46, 2) := by decide +kernel
theorem dX11_add_21 : decode cX11_add 21 = .ok (.aload_n 0, 1) := by decide +kernel
theorem dX11_add_22 : decode cX11_add 22 = .ok (.getfield 7, 3) := by decide +kernel
theorem dX11_add_25 : decode cX11_add 25 = .ok (.iconst 1, 1) := by decide +kernel
theorem dX11_add_26 : decode cX11_add 26 = .ok (.iaload, 1) := by decide +kernel
theorem dX11_add_27 : decode cX11_add 27 = .ok (.iadd, 1) := by decide +kernel
theorem dX11_add_28 : decode cX11_add 28 = .ok (.iload_n 2, 1) := by decide +kernel
theorem dX11_add_29 : decode cX11_add 29 = .ok (.iastore, 1) := by decide +kernel
theorem dX11_add_30 : decode cX11_add 30 = .ok (.aload_n 0, 1) := by decide +kernel
theorem dX11_add_31 : decode cX11_add 31 = .ok (.getfield 7, 3) := by decide +kernel
theorem dX11_add_34 : decode cX11_add 34 = .ok (.iconst 1, 1) := by decide +kernel
theorem dX11_add_35 : decode cX11_add 35 = .ok (.dup2, 1) := by decide +kernel
theorem dX11_add_36 : decode cX11_add 36 = .ok (.iaload, 1) := by decide +kernel
theorem dX11_add_37 : decode cX11_add 37 = .ok (.iconst 1, 1) := by decide +kernel
theorem dX11_add_38 : decode cX11_add 38 = .ok (.iadd, 1) := by decide +kernel
theorem dX11_add_39 : decode cX11_add 39 = .ok (.iastore, 1) := by decide +kernel
theorem dX11_add_40 : decode cX11_add 40 = .ok (.return_, 1) := by decide +kernel
theorem dX11_pieces_0 : decode cX11_pieces 0 = .ok (.aload_n 0, 1) := by decide +kernel
theorem dX11_pieces_1 : decode cX11_pieces 1 = .ok (.invokevirtual 149, 3) := by decide +kernel
theorem dX11_pieces_4 : decode cX11_pieces 4 = .ok (.istore_n 1, 1) := by decide +kernel
theorem dX11_pieces_5 : decode cX11_pieces 5 = .ok (.aload_n 0, 1) := by decide +kernel
theorem dX11_pieces_6 : decode cX11_pieces 6 = .ok (.iconst 0, 1) := by decide +kernel
theorem dX11_pieces_7 : decode cX11_pieces 7 = .ok (.putfield 119, 3) := by decide +kernel
theorem dX11_pieces_10 : decode cX11_pieces 10 = .ok (.iload_n 1, 1) := by decide +kernel
theorem dX11_pieces_11 : decode cX11_pieces 11 = .ok (.ifCond .le 8, 3) := by decide +kernel
theorem dX11_pieces_14 : decode cX11_pieces 14 = .ok (.bipush (-10), 2) := by decide +kernel
theorem dX11_pieces_16 : decode cX11_pieces 16 = .ok (.iload_n 1, 1) := by decide +kernel
theorem dX11_pieces_17 : decode cX11_pieces 17 = .ok (.isub, 1) := by decide +kernel
theorem dX11_pieces_18 : decode cX11_pieces 18 = .ok (.ireturn, 1) := by decide +kernel
theorem dX11_pieces_19 : decode cX11_pieces 19 = .ok (.aload_n 0, 1) := by decide +kernel
theorem dX11_pieces_20 : decode cX11_pieces 20 = .ok (.invokevirtual 153, 3) := by decide +kernel
theorem dX11_pieces_23 : decode cX11_pieces 23 = .ok (.iconst 0, 1) := by decide +kernel
theorem dX11_pieces_24 : decode cX11_pieces 24 = .ok (.istore_n 2, 1) := by decide +kernel
theorem dX11_pieces_25 : decode cX11_pieces 25 = .ok (.iload_n 2, 1) := by decide +kernel
theorem dX11_pieces_26 : decode cX11_pieces 26 = .ok (.aload_n 0, 1) := by decide +kernel
theorem dX11_pieces_27 : decode cX11_pieces 27 = .ok (.getfield 132, 3) := by decide +kernel
theorem dX11_pieces_30 : decode cX11_pieces 30 = .ok (.if_icmp .ge 25, 3) := by decide +kernel
theorem dX11_pieces_33 : decode cX11_pieces 33 = .ok (.aload_n 0, 1) := by decide +kernel
theorem dX11_pieces_34 : decode cX11_pieces 34 = .ok (.aload_n 0, 1) := by decide +kernel
theorem dX11_pieces_35 : decode cX11_pieces 35 = .ok (.getfield 53, 3) := by decide +kernel
theorem dX11_pieces_38 : decode cX11_pieces 38 = .ok (.iload_n 2, 1) := by decide +kernel
theorem dX11_pieces_39 : decode cX11_pieces 39 = .ok (.iaload, 1) := by decide +kernel
theorem dX11_pieces_40 : decode cX11_pieces 40 = .ok (.aload_n 0, 1) := by decide +kernel
theorem dX11_pieces_41 : decode cX11_pieces 41 = .ok (.getfield 56, 3) := by decide +kernel
theorem dX11_pieces_44 : decode cX11_pieces 44 = .ok (.iload_n 2, 1) := by decide +kernel
theorem dX11_pieces_45 : decode cX11_pieces 45 = .ok (.iaload, 1) := by decide +kernel
theorem dX11_pieces_46 : decode cX11_pieces 46 = .ok (.invokevirtual 156, 3) := by decide +kernel
theorem dX11_pieces_49 : decode cX11_pieces 49 = .ok (.iinc 2 1, 3) := by decide +kernel
theorem dX11_pieces_52 : decode cX11_pieces 52 = .ok (.goto (-27), 3) := by decide +kernel
theorem dX11_pieces_55 : decode cX11_pieces 55 = .ok (.aload_n 0, 1) := by decide +kernel
theorem dX11_pieces_56 : decode cX11_pieces 56 = .ok (.getfield 7, 3) := by decide +kernel
theorem dX11_pieces_59 : decode cX11_pieces 59 = .ok (.iconst 1, 1) := by decide +kernel
theorem dX11_pieces_60 : decode cX11_pieces 60 = .ok (.iaload, 1) := by decide +kernel
theorem dX11_pieces_61 : decode cX11_pieces 61 = .ok (.ireturn, 1) := by decide +kernel
theorem dX11_fault_0 : decode cX11_fault 0 = .ok (.aload_n 0, 1) := by decide +kernel
theorem dX11_fault_1 : decode cX11_fault 1 = .ok (.getfield 19, 3) := by decide +kernel
theorem dX11_fault_4 : decode cX11_fault 4 = .ok (.ireturn, 1) := by decide +kernel
theorem dX11_isDay_0 : decode cX11_isDay 0 = .ok (.iload_n 1, 1) := by decide +kernel
theorem dX11_isDay_1 : decode cX11_isDay 1 = .ok (.i2l, 1) := by decide +kernel
theorem dX11_isDay_2 : decode cX11_isDay 2 = .ok (.lconst 0, 1) := by decide +kernel
theorem dX11_isDay_3 : decode cX11_isDay 3 = .ok (.aload_n 0, 1) := by decide +kernel
theorem dX11_isDay_4 : decode cX11_isDay 4 = .ok (.getfield 7, 3) := by decide +kernel
theorem dX11_isDay_7 : decode cX11_isDay 7 = .ok (.iconst 0, 1) := by decide +kernel
theorem dX11_isDay_8 : decode cX11_isDay 8 = .ok (.iaload, 1) := by decide +kernel
theorem dX11_isDay_9 : decode cX11_isDay 9 = .ok (.iconst 1, 1) := by decide +kernel
theorem dX11_isDay_10 : decode cX11_isDay 10 = .ok (.isub, 1) := by decide +kernel
theorem dX11_isDay_11 : decode cX11_isDay 11 = .ok (.i2l, 1) := by decide +kernel
theorem dX11_isDay_12 : decode cX11_isDay 12 = .ok (.invokestatic 94, 3) := by decide +kernel
theorem dX11_isDay_15 : decode cX11_isDay 15 = .ok (.ireturn, 1) := by decide +kernel
theorem dX11_isWord_0 : decode cX11_isWord 0 = .ok (.iload_n 0, 1) := by decide +kernel
theorem dX11_isWord_1 : decode cX11_isWord 1 = .ok (.i2l, 1) := by decide +kernel
theorem dX11_isWord_2 : decode cX11_isWord 2 = .ok (.lconst 0, 1) := by decide +kernel
theorem dX11_isWord_3 : decode cX11_isWord 3 = .ok (.ldc2_w 159, 3) := by decide +kernel
theorem dX11_isWord_6 : decode cX11_isWord 6 = .ok (.invokestatic 94, 3) := by decide +kernel
theorem dX11_isWord_9 : decode cX11_isWord 9 = .ok (.ireturn, 1) := by decide +kernel
theorem dX11_wrong_0 : decode cX11_wrong 0 = .ok (.iconst 0, 1) := by decide +kernel
theorem dX11_wrong_1 : decode cX11_wrong 1 = .ok (.istore_n 1, 1) := by decide +kernel
theorem dX11_wrong_2 : decode cX11_wrong 2 = .ok (.iload_n 1, 1) := by decide +kernel
theorem dX11_wrong_3 : decode cX11_wrong 3 = .ok (.aload_n 0, 1) := by decide +kernel
theorem dX11_wrong_4 : decode cX11_wrong 4 = .ok (.getfield 161, 3) := by decide +kernel
theorem dX11_wrong_7 : decode cX11_wrong 7 = .ok (.if_icmp .ge 49, 3) := by decide +kernel
theorem dX11_wrong_10 : decode cX11_wrong 10 = .ok (.aload_n 0, 1) := by decide +kernel
theorem dX11_wrong_11 : decode cX11_wrong 11 = .ok (.aload_n 0, 1) := by decide +kernel
theorem dX11_wrong_12 : decode cX11_wrong 12 = .ok (.getfield 26, 3) := by decide +kernel
theorem dX11_wrong_15 : decode cX11_wrong 15 = .ok (.iload_n 1, 1) := by decide +kernel
theorem dX11_wrong_16 : decode cX11_wrong 16 = .ok (.iaload, 1) := by decide +kernel
theorem dX11_wrong_17 : decode cX11_wrong 17 = .ok (.invokevirtual 164, 3) := by decide +kernel
theorem dX11_wrong_20 : decode cX11_wrong 20 = .ok (.ifCond .eq 28, 3) := by decide +kernel
theorem dX11_wrong_23 : decode cX11_wrong 23 = .ok (.aload_n 0, 1) := by decide +kernel
theorem dX11_wrong_24 : decode cX11_wrong 24 = .ok (.aload_n 0, 1) := by decide +kernel
theorem dX11_wrong_25 : decode cX11_wrong 25 = .ok (.getfield 23, 3) := by decide +kernel
theorem dX11_wrong_28 : decode cX11_wrong 28 = .ok (.iload_n 1, 1) := by decide +kernel
theorem dX11_wrong_29 : decode cX11_wrong 29 = .ok (.iaload, 1) := by decide +kernel
theorem dX11_wrong_30 : decode cX11_wrong 30 = .ok (.aload_n 0, 1) := by decide +kernel
theorem dX11_wrong_31 : decode cX11_wrong 31 = .ok (.getfield 26, 3) := by decide +kernel
theorem dX11_wrong_34 : decode cX11_wrong 34 = .ok (.iload_n 1, 1) := by decide +kernel
theorem dX11_wrong_35 : decode cX11_wrong 35 = .ok (.iaload, 1) := by decide +kernel
theorem dX11_wrong_36 : decode cX11_wrong 36 = .ok (.invokevirtual 167, 3) := by decide +kernel
theorem dX11_wrong_39 : decode cX11_wrong 39 = .ok (.aload_n 0, 1) := by decide +kernel
theorem dX11_wrong_40 : decode cX11_wrong 40 = .ok (.getfield 29, 3) := by decide +kernel
theorem dX11_wrong_43 : decode cX11_wrong 43 = .ok (.iload_n 1, 1) := by decide +kernel
theorem dX11_wrong_44 : decode cX11_wrong 44 = .ok (.iaload, 1) := by decide +kernel
theorem dX11_wrong_45 : decode cX11_wrong 45 = .ok (.if_icmp .eq 5, 3) := by decide +kernel
theorem dX11_wrong_48 : decode cX11_wrong 48 = .ok (.iload_n 1, 1) := by decide +kernel
theorem dX11_wrong_49 : decode cX11_wrong 49 = .ok (.ireturn, 1) := by decide +kernel
theorem dX11_wrong_50 : decode cX11_wrong 50 = .ok (.iinc 1 1, 3) := by decide +kernel
theorem dX11_wrong_53 : decode cX11_wrong 53 = .ok (.goto (-51), 3) := by decide +kernel
theorem dX11_wrong_56 : decode cX11_wrong 56 = .ok (.iconst (-1), 1) := by decide +kernel
theorem dX11_wrong_57 : decode cX11_wrong 57 = .ok (.ireturn, 1) := by decide +kernel
theorem dX11_flaresNow_0 : decode cX11_flaresNow 0 = .ok (.aload_n 0, 1) := by decide +kernel
theorem dX11_flaresNow_1 : decode cX11_flaresNow 1 = .ok (.invokevirtual 102, 3) := by decide +kernel
theorem dX11_flaresNow_4 : decode cX11_flaresNow 4 = .ok (.aload_n 0, 1) := by decide +kernel
theorem dX11_flaresNow_5 : decode cX11_flaresNow 5 = .ok (.getfield 88, 3) := by decide +kernel
theorem dX11_flaresNow_8 : decode cX11_flaresNow 8 = .ok (.ireturn, 1) := by decide +kernel
theorem dX11_toldMore_0 : decode cX11_toldMore 0 = .ok (.iload_n 1, 1) := by decide +kernel
theorem dX11_toldMore_1 : decode cX11_toldMore 1 = .ok (.tableswitch 60 8 12 #[35, 40, 45, 50, 55], 35) := by decide +kernel
theorem dX11_toldMore_36 : decode cX11_toldMore 36 = .ok (.aload_n 0, 1) := by decide +kernel
theorem dX11_toldMore_37 : decode cX11_toldMore 37 = .ok (.getfield 119, 3) := by decide +kernel
theorem dX11_toldMore_40 : decode cX11_toldMore 40 = .ok (.ireturn, 1) := by decide +kernel
theorem dX11_toldMore_41 : decode cX11_toldMore 41 = .ok (.aload_n 0, 1) := by decide +kernel
theorem dX11_toldMore_42 : decode cX11_toldMore 42 = .ok (.getfield 161, 3) := by decide +kernel
theorem dX11_toldMore_45 : decode cX11_toldMore 45 = .ok (.ireturn, 1) := by decide +kernel
theorem dX11_toldMore_46 : decode cX11_toldMore 46 = .ok (.aload_n 0, 1) := by decide +kernel
theorem dX11_toldMore_47 : decode cX11_toldMore 47 = .ok (.invokevirtual 170, 3) := by decide +kernel
theorem dX11_toldMore_50 : decode cX11_toldMore 50 = .ok (.ireturn, 1) := by decide +kernel
theorem dX11_toldMore_51 : decode cX11_toldMore 51 = .ok (.aload_n 0, 1) := by decide +kernel
theorem dX11_toldMore_52 : decode cX11_toldMore 52 = .ok (.getfield 63, 3) := by decide +kernel
theorem dX11_toldMore_55 : decode cX11_toldMore 55 = .ok (.ireturn, 1) := by decide +kernel
theorem dX11_toldMore_56 : decode cX11_toldMore 56 = .ok (.aload_n 0, 1) := by decide +kernel
theorem dX11_toldMore_57 : decode cX11_toldMore 57 = .ok (.getfield 173, 3) := by decide +kernel
theorem dX11_toldMore_60 : decode cX11_toldMore 60 = .ok (.ireturn, 1) := by decide +kernel
theorem dX11_toldMore_61 : decode cX11_toldMore 61 = .ok (.ldc 147, 2) := by decide +kernel
theorem dX11_toldMore_63 : decode cX11_toldMore 63 = .ok (.ireturn, 1) := by decide +kernel
theorem dX11_told_0 : decode cX11_told 0 = .ok (.iload_n 1, 1) := by decide +kernel
theorem dX11_told_1 : decode cX11_told 1 = .ok (.tableswitch 75 0 7 #[47, 47, 54, 59, 64, 64, 64, 64], 47) := by decide +kernel
theorem dX11_told_48 : decode cX11_told 48 = .ok (.aload_n 0, 1) := by decide +kernel
theorem dX11_told_49 : decode cX11_told 49 = .ok (.getfield 7, 3) := by decide +kernel
theorem dX11_told_52 : decode cX11_told 52 = .ok (.iload_n 1, 1) := by decide +kernel
theorem dX11_told_53 : decode cX11_told 53 = .ok (.iaload, 1) := by decide +kernel
theorem dX11_told_54 : decode cX11_told 54 = .ok (.ireturn, 1) := by decide +kernel
theorem dX11_told_55 : decode cX11_told 55 = .ok (.aload_n 0, 1) := by decide +kernel
theorem dX11_told_56 : decode cX11_told 56 = .ok (.invokevirtual 176, 3) := by decide +kernel
theorem dX11_told_59 : decode cX11_told 59 = .ok (.ireturn, 1) := by decide +kernel
theorem dX11_told_60 : decode cX11_told 60 = .ok (.aload_n 0, 1) := by decide +kernel
theorem dX11_told_61 : decode cX11_told 61 = .ok (.invokevirtual 179, 3) := by decide +kernel
theorem dX11_told_64 : decode cX11_told 64 = .ok (.ireturn, 1) := by decide +kernel
theorem dX11_told_65 : decode cX11_told 65 = .ok (.aload_n 0, 1) := by decide +kernel
theorem dX11_told_66 : decode cX11_told 66 = .ok (.getfield 7, 3) := by decide +kernel
theorem dX11_told_69 : decode cX11_told 69 = .ok (.iconst 2, 1) := by decide +kernel
theorem dX11_told_70 : decode cX11_told 70 = .ok (.iload_n 1, 1) := by decide +kernel
theorem dX11_told_71 : decode cX11_told 71 = .ok (.iadd, 1) := by decide +kernel
theorem dX11_told_72 : decode cX11_told 72 = .ok (.iconst 4, 1) := by decide +kernel
theorem dX11_told_73 : decode cX11_told 73 = .ok (.isub, 1) := by decide +kernel
theorem dX11_told_74 : decode cX11_told 74 = .ok (.iaload, 1) := by decide +kernel
theorem dX11_told_75 : decode cX11_told 75 = .ok (.ireturn, 1) := by decide +kernel
theorem dX11_told_76 : decode cX11_told 76 = .ok (.aload_n 0, 1) := by decide +kernel
theorem dX11_told_77 : decode cX11_told 77 = .ok (.iload_n 1, 1) := by decide +kernel
theorem dX11_told_78 : decode cX11_told 78 = .ok (.invokevirtual 182, 3) := by decide +kernel
theorem dX11_told_81 : decode cX11_told 81 = .ok (.ireturn, 1) := by decide +kernel
theorem dX11_isPiece_0 : decode cX11_isPiece 0 = .ok (.iload_n 1, 1) := by decide +kernel
theorem dX11_isPiece_1 : decode cX11_isPiece 1 = .ok (.i2l, 1) := by decide +kernel
theorem dX11_isPiece_2 : decode cX11_isPiece 2 = .ok (.lconst 0, 1) := by decide +kernel
theorem dX11_isPiece_3 : decode cX11_isPiece 3 = .ok (.aload_n 0, 1) := by decide +kernel
theorem dX11_isPiece_4 : decode cX11_isPiece 4 = .ok (.getfield 7, 3) := by decide +kernel
theorem dX11_isPiece_7 : decode cX11_isPiece 7 = .ok (.iconst 1, 1) := by decide +kernel
theorem dX11_isPiece_8 : decode cX11_isPiece 8 = .ok (.iaload, 1) := by decide +kernel
theorem dX11_isPiece_9 : decode cX11_isPiece 9 = .ok (.iconst 1, 1) := by decide +kernel
theorem dX11_isPiece_10 : decode cX11_isPiece 10 = .ok (.isub, 1) := by decide +kernel
theorem dX11_isPiece_11 : decode cX11_isPiece 11 = .ok (.i2l, 1) := by decide +kernel
theorem dX11_isPiece_12 : decode cX11_isPiece 12 = .ok (.invokestatic 94, 3) := by decide +kernel
theorem dX11_isPiece_15 : decode cX11_isPiece 15 = .ok (.ireturn, 1) := by decide +kernel
theorem dX11_at_0 : decode cX11_at 0 = .ok (.aload_n 0, 1) := by decide +kernel
theorem dX11_at_1 : decode cX11_at 1 = .ok (.iload_n 1, 1) := by decide +kernel
theorem dX11_at_2 : decode cX11_at 2 = .ok (.invokevirtual 185, 3) := by decide +kernel
theorem dX11_at_5 : decode cX11_at 5 = .ok (.ifCond .ne 6, 3) := by decide +kernel
theorem dX11_at_8 : decode cX11_at 8 = .ok (.ldc 188, 2) := by decide +kernel
theorem dX11_at_10 : decode cX11_at 10 = .ok (.ireturn, 1) := by decide +kernel
theorem dX11_at_11 : decode cX11_at 11 = .ok (.iload_n 2, 1) := by decide +kernel
theorem dX11_at_12 : decode cX11_at 12 = .ok (.ifCond .ne 15, 3) := by decide +kernel
theorem dX11_at_15 : decode cX11_at 15 = .ok (.aload_n 0, 1) := by decide +kernel
theorem dX11_at_16 : decode cX11_at 16 = .ok (.getfield 7, 3) := by decide +kernel
theorem dX11_at_19 : decode cX11_at 19 = .ok (.bipush 6, 2) := by decide +kernel
theorem dX11_at_21 : decode cX11_at 21 = .ok (.iload_n 1, 1) := by decide +kernel
theorem dX11_at_22 : decode cX11_at 22 = .ok (.iadd, 1) := by decide +kernel
theorem dX11_at_23 : decode cX11_at 23 = .ok (.iaload, 1) := by decide +kernel
theorem dX11_at_24 : decode cX11_at 24 = .ok (.goto 22, 3) := by decide +kernel
theorem dX11_at_27 : decode cX11_at 27 = .ok (.iload_n 2, 1) := by decide +kernel
theorem dX11_at_28 : decode cX11_at 28 = .ok (.iconst 1, 1) := by decide +kernel
theorem dX11_at_29 : decode cX11_at 29 = .ok (.if_icmp .ne 15, 3) := by decide +kernel
theorem dX11_at_32 : decode cX11_at 32 = .ok (.aload_n 0, 1) := by decide +kernel
theorem dX11_at_33 : decode cX11_at 33 = .ok (.getfield 7, 3) := by decide +kernel
theorem dX11_at_36 : decode cX11_at 36 = .ok (.bipush 46, 2) := by decide +kernel
theorem dX11_at_38 : decode cX11_at 38 = .ok (.iload_n 1, 1) := by decide +kernel
theorem dX11_at_39 : decode cX11_at 39 = .ok (.iadd, 1) := by decide +kernel
theorem dX11_at_40 : decode cX11_at 40 = .ok (.iaload, 1) := by decide +kernel
theorem dX11_at_41 : decode cX11_at 41 = .ok (.goto 5, 3) := by decide +kernel
theorem dX11_at_44 : decode cX11_at 44 = .ok (.ldc 147, 2) := by decide +kernel
theorem dX11_at_46 : decode cX11_at 46 = .ok (.ireturn, 1) := by decide +kernel
theorem dX11_hot_0 : decode cX11_hot 0 = .ok (.iconst 0, 1) := by decide +kernel
theorem dX11_hot_1 : decode cX11_hot 1 = .ok (.istore_n 2, 1) := by decide +kernel
theorem dX11_hot_2 : decode cX11_hot 2 = .ok (.iconst 0, 1) := by decide +kernel
theorem dX11_hot_3 : decode cX11_hot 3 = .ok (.istore_n 3, 1) := by decide +kernel
theorem dX11_hot_4 : decode cX11_hot 4 = .ok (.iload_n 3, 1) := by decide +kernel
theorem dX11_hot_5 : decode cX11_hot 5 = .ok (.bipush 8, 2) := by decide +kernel
theorem dX11_hot_7 : decode cX11_hot 7 = .ok (.if_icmp .ge 28, 3) := by decide +kernel
theorem dX11_hot_10 : decode cX11_hot 10 = .ok (.iload_n 2, 1) := by decide +kernel
theorem dX11_hot_11 : decode cX11_hot 11 = .ok (.aload_n 0, 1) := by decide +kernel
theorem dX11_hot_12 : decode cX11_hot 12 = .ok (.iload_n 3, 1) := by decide +kernel
theorem dX11_hot_13 : decode cX11_hot 13 = .ok (.iload_n 1, 1) := by decide +kernel
theorem dX11_hot_14 : decode cX11_hot 14 = .ok (.invokevirtual 167, 3) := by decide +kernel
theorem dX11_hot_17 : decode cX11_hot 17 = .ok (.ifCond .le 9, 3) := by decide +kernel
theorem dX11_hot_20 : decode cX11_hot 20 = .ok (.iconst 1, 1) := by decide +kernel
theorem dX11_hot_21 : decode cX11_hot 21 = .ok (.iload_n 3, 1) := by decide +kernel
theorem dX11_hot_22 : decode cX11_hot 22 = .ok (.ishl, 1) := by decide +kernel
theorem dX11_hot_23 : decode cX11_hot 23 = .ok (.goto 4, 3) := by decide +kernel
theorem dX11_hot_26 : decode cX11_hot 26 = .ok (.iconst 0, 1) := by decide +kernel
theorem dX11_hot_27 : decode cX11_hot 27 = .ok (.ior, 1) := by decide +kernel
theorem dX11_hot_28 : decode cX11_hot 28 = .ok (.istore_n 2, 1) := by decide +kernel
theorem dX11_hot_29 : decode cX11_hot 29 = .ok (.iinc 3 1, 3) := by decide +kernel
theorem dX11_hot_32 : decode cX11_hot 32 = .ok (.goto (-28), 3) := by decide +kernel
theorem dX11_hot_35 : decode cX11_hot 35 = .ok (.iload_n 2, 1) := by decide +kernel
theorem dX11_hot_36 : decode cX11_hot 36 = .ok (.ireturn, 1) := by decide +kernel
theorem dX11_topOf_0 : decode cX11_topOf 0 = .ok (.iconst (-1), 1) := by decide +kernel
theorem dX11_topOf_1 : decode cX11_topOf 1 = .ok (.istore_n 2, 1) := by decide +kernel
theorem dX11_topOf_2 : decode cX11_topOf 2 = .ok (.iconst 0, 1) := by decide +kernel
theorem dX11_topOf_3 : decode cX11_topOf 3 = .ok (.istore_n 3, 1) := by decide +kernel
theorem dX11_topOf_4 : decode cX11_topOf 4 = .ok (.iconst 0, 1) := by decide +kernel
theorem dX11_topOf_5 : decode cX11_topOf 5 = .ok (.istore 4, 2) := by decide +kernel
theorem dX11_topOf_7 : decode cX11_topOf 7 = .ok (.iload 4, 2) := by decide +kernel
theorem dX11_topOf_9 : decode cX11_topOf 9 = .ok (.bipush 8, 2) := by decide +kernel
theorem dX11_topOf_11 : decode cX11_topOf 11 = .ok (.if_icmp .ge 70, 3) := by decide +kernel
theorem dX11_topOf_14 : decode cX11_topOf 14 = .ok (.aload_n 0, 1) := by decide +kernel
theorem dX11_topOf_15 : decode cX11_topOf 15 = .ok (.iload 4, 2) := by decide +kernel
theorem dX11_topOf_17 : decode cX11_topOf 17 = .ok (.iload_n 1, 1) := by decide +kernel
theorem dX11_topOf_18 : decode cX11_topOf 18 = .ok (.invokevirtual 167, 3) := by decide +kernel
theorem dX11_topOf_21 : decode cX11_topOf 21 = .ok (.istore 5, 2) := by decide +kernel
theorem dX11_topOf_23 : decode cX11_topOf 23 = .ok (.iload 5, 2) := by decide +kernel
theorem dX11_topOf_25 : decode cX11_topOf 25 = .ok (.ifCond .ne 7, 3) := by decide +kernel
theorem dX11_topOf_28 : decode cX11_topOf 28 = .ok (.iconst 0, 1) := by decide +kernel
theorem dX11_topOf_29 : decode cX11_topOf 29 = .ok (.goto 18, 3) := by decide +kernel
theorem dX11_topOf_32 : decode cX11_topOf 32 = .ok (.bipush 100, 2) := by decide +kernel
theorem dX11_topOf_34 : decode cX11_topOf 34 = .ok (.iload 5, 2) := by decide +kernel
theorem dX11_topOf_36 : decode cX11_topOf 36 = .ok (.imul, 1) := by decide +kernel
theorem dX11_topOf_37 : decode cX11_topOf 37 = .ok (.aload_n 0, 1) := by decide +kernel
theorem dX11_topOf_38 : decode cX11_topOf 38 = .ok (.iload_n 1, 1) := by decide +kernel
theorem dX11_topOf_39 : decode cX11_topOf 39 = .ok (.iconst 1, 1) := by decide +kernel
theorem dX11_topOf_40 : decode cX11_topOf 40 = .ok (.iload 4, 2) := by decide +kernel
theorem dX11_topOf_42 : decode cX11_topOf 42 = .ok (.ishl, 1) := by decide +kernel
theorem dX11_topOf_43 : decode cX11_topOf 43 = .ok (.invokevirtual 66, 3) := by decide +kernel
theorem dX11_topOf_46 : decode cX11_topOf 46 = .ok (.iadd, 1) := by decide +kernel
theorem dX11_topOf_47 : decode cX11_topOf 47 = .ok (.istore 6, 2) := by decide +kernel
theorem dX11_topOf_49 : decode cX11_topOf 49 = .ok (.iload 6, 2) := by decide +kernel
theorem dX11_topOf_51 : decode cX11_topOf 51 = .ok (.iload_n 3, 1) := by decide +kernel
theorem dX11_topOf_52 : decode cX11_topOf 52 = .ok (.if_icmp .le 8, 3) := by decide +kernel
theorem dX11_topOf_55 : decode cX11_topOf 55 = .ok (.iload 4, 2) := by decide +kernel
theorem dX11_topOf_57 : decode cX11_topOf 57 = .ok (.goto 4, 3) := by decide +kernel
theorem dX11_topOf_60 : decode cX11_topOf 60 = .ok (.iload_n 2, 1) := by decide +kernel
theorem dX11_topOf_61 : decode cX11_topOf 61 = .ok (.istore_n 2, 1) := by decide +kernel
theorem dX11_topOf_62 : decode cX11_topOf 62 = .ok (.iload 6, 2) := by decide +kernel
theorem dX11_topOf_64 : decode cX11_topOf 64 = .ok (.iload_n 3, 1) := by decide +kernel
theorem dX11_topOf_65 : decode cX11_topOf 65 = .ok (.if_icmp .le 8, 3) := by decide +kernel
theorem dX11_topOf_68 : decode cX11_topOf 68 = .ok (.iload 6, 2) := by decide +kernel
theorem dX11_topOf_70 : decode cX11_topOf 70 = .ok (.goto 4, 3) := by decide +kernel
theorem dX11_topOf_73 : decode cX11_topOf 73 = .ok (.iload_n 3, 1) := by decide +kernel
theorem dX11_topOf_74 : decode cX11_topOf 74 = .ok (.istore_n 3, 1) := by decide +kernel
theorem dX11_topOf_75 : decode cX11_topOf 75 = .ok (.iinc 4 1, 3) := by decide +kernel
theorem dX11_topOf_78 : decode cX11_topOf 78 = .ok (.goto (-71), 3) := by decide +kernel
theorem dX11_topOf_81 : decode cX11_topOf 81 = .ok (.iload_n 2, 1) := by decide +kernel
theorem dX11_topOf_82 : decode cX11_topOf 82 = .ok (.ireturn, 1) := by decide +kernel
theorem dX11_day_0 : decode cX11_day 0 = .ok (.aload_n 0, 1) := by decide +kernel
theorem dX11_day_1 : decode cX11_day 1 = .ok (.iload_n 1, 1) := by decide +kernel
theorem dX11_day_2 : decode cX11_day 2 = .ok (.invokevirtual 164, 3) := by decide +kernel
theorem dX11_day_5 : decode cX11_day 5 = .ok (.ifCond .ne 6, 3) := by decide +kernel
theorem dX11_day_8 : decode cX11_day 8 = .ok (.ldc 188, 2) := by decide +kernel
theorem dX11_day_10 : decode cX11_day 10 = .ok (.ireturn, 1) := by decide +kernel
theorem dX11_day_11 : decode cX11_day 11 = .ok (.iload_n 2, 1) := by decide +kernel
theorem dX11_day_12 : decode cX11_day 12 = .ok (.tableswitch 47 0 2 #[28, 35, 41], 28) := by decide +kernel
theorem dX11_day_40 : decode cX11_day 40 = .ok (.aload_n 0, 1) := by decide +kernel
theorem dX11_day_41 : decode cX11_day 41 = .ok (.iload_n 1, 1) := by decide +kernel
theorem dX11_day_42 : decode cX11_day 42 = .ok (.iconst 0, 1) := by decide +kernel
theorem dX11_day_43 : decode cX11_day 43 = .ok (.invokevirtual 66, 3) := by decide +kernel
theorem dX11_day_46 : decode cX11_day 46 = .ok (.ireturn, 1) := by decide +kernel
theorem dX11_day_47 : decode cX11_day 47 = .ok (.aload_n 0, 1) := by decide +kernel
theorem dX11_day_48 : decode cX11_day 48 = .ok (.iload_n 1, 1) := by decide +kernel
theorem dX11_day_49 : decode cX11_day 49 = .ok (.invokevirtual 189, 3) := by decide +kernel
theorem dX11_day_52 : decode cX11_day 52 = .ok (.ireturn, 1) := by decide +kernel
theorem dX11_day_53 : decode cX11_day 53 = .ok (.aload_n 0, 1) := by decide +kernel
theorem dX11_day_54 : decode cX11_day 54 = .ok (.iload_n 1, 1) := by decide +kernel
theorem dX11_day_55 : decode cX11_day 55 = .ok (.invokevirtual 192, 3) := by decide +kernel
theorem dX11_day_58 : decode cX11_day 58 = .ok (.ireturn, 1) := by decide +kernel
theorem dX11_day_59 : decode cX11_day 59 = .ok (.ldc 147, 2) := by decide +kernel
theorem dX11_day_61 : decode cX11_day 61 = .ok (.ireturn, 1) := by decide +kernel
theorem dX11_word_0 : decode cX11_word 0 = .ok (.iload_n 1, 1) := by decide +kernel
theorem dX11_word_1 : decode cX11_word 1 = .ok (.invokestatic 195, 3) := by decide +kernel
theorem dX11_word_4 : decode cX11_word 4 = .ok (.ifCond .eq 11, 3) := by decide +kernel
theorem dX11_word_7 : decode cX11_word 7 = .ok (.aload_n 0, 1) := by decide +kernel
theorem dX11_word_8 : decode cX11_word 8 = .ok (.iload_n 2, 1) := by decide +kernel
theorem dX11_word_9 : decode cX11_word 9 = .ok (.invokevirtual 164, 3) := by decide +kernel
theorem dX11_word_12 : decode cX11_word 12 = .ok (.ifCond .ne 6, 3) := by decide +kernel
theorem dX11_word_15 : decode cX11_word 15 = .ok (.ldc 188, 2) := by decide +kernel
theorem dX11_word_17 : decode cX11_word 17 = .ok (.ireturn, 1) := by decide +kernel
theorem dX11_word_18 : decode cX11_word 18 = .ok (.iload_n 3, 1) := by decide +kernel
theorem dX11_word_19 : decode cX11_word 19 = .ok (.tableswitch 79 0 5 #[37, 46, 53, 53, 53, 53], 37) := by decide +kernel
theorem dX11_word_56 : decode cX11_word 56 = .ok (.aload_n 0, 1) := by decide +kernel
theorem dX11_word_57 : decode cX11_word 57 = .ok (.iload_n 2, 1) := by decide +kernel
theorem dX11_word_58 : decode cX11_word 58 = .ok (.iconst 1, 1) := by decide +kernel
theorem dX11_word_59 : decode cX11_word 59 = .ok (.iload_n 1, 1) := by decide +kernel
theorem dX11_word_60 : decode cX11_word 60 = .ok (.ishl, 1) := by decide +kernel
theorem dX11_word_61 : decode cX11_word 61 = .ok (.invokevirtual 66, 3) := by decide +kernel
theorem dX11_word_64 : decode cX11_word 64 = .ok (.ireturn, 1) := by decide +kernel
theorem dX11_word_65 : decode cX11_word 65 = .ok (.aload_n 0, 1) := by decide +kernel
theorem dX11_word_66 : decode cX11_word 66 = .ok (.iload_n 1, 1) := by decide +kernel
theorem dX11_word_67 : decode cX11_word 67 = .ok (.iload_n 2, 1) := by decide +kernel
theorem dX11_word_68 : decode cX11_word 68 = .ok (.invokevirtual 167, 3) := by decide +kernel
theorem dX11_word_71 : decode cX11_word 71 = .ok (.ireturn, 1) := by decide +kernel
theorem dX11_word_72 : decode cX11_word 72 = .ok (.iload_n 3, 1) := by decide +kernel
theorem dX11_word_73 : decode cX11_word 73 = .ok (.iconst 2, 1) := by decide +kernel
theorem dX11_word_74 : decode cX11_word 74 = .ok (.isub, 1) := by decide +kernel
theorem dX11_word_75 : decode cX11_word 75 = .ok (.aload_n 0, 1) := by decide +kernel
theorem dX11_word_76 : decode cX11_word 76 = .ok (.getfield 7, 3) := by decide +kernel
theorem dX11_word_79 : decode cX11_word 79 = .ok (.iconst 2, 1) := by decide +kernel
theorem dX11_word_80 : decode cX11_word 80 = .ok (.iaload, 1) := by decide +kernel
theorem dX11_word_81 : decode cX11_word 81 = .ok (.if_icmp .gt 15, 3) := by decide +kernel
theorem dX11_word_84 : decode cX11_word 84 = .ok (.aload_n 0, 1) := by decide +kernel
theorem dX11_word_85 : decode cX11_word 85 = .ok (.iload_n 1, 1) := by decide +kernel
theorem dX11_word_86 : decode cX11_word 86 = .ok (.iload_n 2, 1) := by decide +kernel
theorem dX11_word_87 : decode cX11_word 87 = .ok (.iload_n 3, 1) := by decide +kernel
theorem dX11_word_88 : decode cX11_word 88 = .ok (.iconst 2, 1) := by decide +kernel
theorem dX11_word_89 : decode cX11_word 89 = .ok (.isub, 1) := by decide +kernel
theorem dX11_word_90 : decode cX11_word 90 = .ok (.invokevirtual 70, 3) := by decide +kernel
theorem dX11_word_93 : decode cX11_word 93 = .ok (.goto 4, 3) := by decide +kernel
theorem dX11_word_96 : decode cX11_word 96 = .ok (.iconst (-1), 1) := by decide +kernel
theorem dX11_word_97 : decode cX11_word 97 = .ok (.ireturn, 1) := by decide +kernel
theorem dX11_word_98 : decode cX11_word 98 = .ok (.ldc 147, 2) := by decide +kernel
theorem dX11_word_100 : decode cX11_word 100 = .ok (.ireturn, 1) := by decide +kernel
theorem dX11_cost_0 : decode cX11_cost 0 = .ok (.iload_n 1, 1) := by decide +kernel
theorem dX11_cost_1 : decode cX11_cost 1 = .ok (.invokestatic 195, 3) := by decide +kernel
theorem dX11_cost_4 : decode cX11_cost 4 = .ok (.ifCond .ne 6, 3) := by decide +kernel
theorem dX11_cost_7 : decode cX11_cost 7 = .ok (.ldc 188, 2) := by decide +kernel
theorem dX11_cost_9 : decode cX11_cost 9 = .ok (.ireturn, 1) := by decide +kernel
theorem dX11_cost_10 : decode cX11_cost 10 = .ok (.aload_n 0, 1) := by decide +kernel
theorem dX11_cost_11 : decode cX11_cost 11 = .ok (.iload_n 1, 1) := by decide +kernel
theorem dX11_cost_12 : decode cX11_cost 12 = .ok (.invokevirtual 84, 3) := by decide +kernel
theorem dX11_cost_15 : decode cX11_cost 15 = .ok (.aload_n 0, 1) := by decide +kernel
theorem dX11_cost_16 : decode cX11_cost 16 = .ok (.getfield 32, 3) := by decide +kernel
theorem dX11_cost_19 : decode cX11_cost 19 = .ok (.iconst 0, 1) := by decide +kernel
theorem dX11_cost_20 : decode cX11_cost 20 = .ok (.iaload, 1) := by decide +kernel
theorem dX11_cost_21 : decode cX11_cost 21 = .ok (.ireturn, 1) := by decide +kernel
theorem dX11_steady_0 : decode cX11_steady 0 = .ok (.iload_n 1, 1) := by decide +kernel
theorem dX11_steady_1 : decode cX11_steady 1 = .ok (.invokestatic 195, 3) := by decide +kernel
theorem dX11_steady_4 : decode cX11_steady 4 = .ok (.ifCond .ne 6, 3) := by decide +kernel
theorem dX11_steady_7 : decode cX11_steady 7 = .ok (.ldc 188, 2) := by decide +kernel
theorem dX11_steady_9 : decode cX11_steady 9 = .ok (.ireturn, 1) := by decide +kernel
theorem dX11_steady_10 : decode cX11_steady 10 = .ok (.iload_n 2, 1) := by decide +kernel
theorem dX11_steady_11 : decode cX11_steady 11 = .ok (.i2l, 1) := by decide +kernel
theorem dX11_steady_12 : decode cX11_steady 12 = .ok (.lconst 0, 1) := by decide +kernel
theorem dX11_steady_13 : decode cX11_steady 13 = .ok (.aload_n 0, 1) := by decide +kernel
theorem dX11_steady_14 : decode cX11_steady 14 = .ok (.getfield 7, 3) := by decide +kernel
theorem dX11_steady_17 : decode cX11_steady 17 = .ok (.iconst 2, 1) := by decide +kernel
theorem dX11_steady_18 : decode cX11_steady 18 = .ok (.iaload, 1) := by decide +kernel
theorem dX11_steady_19 : decode cX11_steady 19 = .ok (.i2l, 1) := by decide +kernel
theorem dX11_steady_20 : decode cX11_steady 20 = .ok (.invokestatic 94, 3) := by decide +kernel
theorem dX11_steady_23 : decode cX11_steady 23 = .ok (.ifCond .ne 6, 3) := by decide +kernel
theorem dX11_steady_26 : decode cX11_steady 26 = .ok (.ldc 147, 2) := by decide +kernel
theorem dX11_steady_28 : decode cX11_steady 28 = .ok (.ireturn, 1) := by decide +kernel
theorem dX11_steady_29 : decode cX11_steady 29 = .ok (.aload_n 0, 1) := by decide +kernel
theorem dX11_steady_30 : decode cX11_steady 30 = .ok (.getfield 7, 3) := by decide +kernel
theorem dX11_steady_33 : decode cX11_steady 33 = .ok (.iconst 5, 1) := by decide +kernel
theorem dX11_steady_34 : decode cX11_steady 34 = .ok (.iaload, 1) := by decide +kernel
theorem dX11_steady_35 : decode cX11_steady 35 = .ok (.iload_n 2, 1) := by decide +kernel
theorem dX11_steady_36 : decode cX11_steady 36 = .ok (.imul, 1) := by decide +kernel
theorem dX11_steady_37 : decode cX11_steady 37 = .ok (.istore_n 3, 1) := by decide +kernel
theorem dX11_steady_38 : decode cX11_steady 38 = .ok (.iconst 0, 1) := by decide +kernel
theorem dX11_steady_39 : decode cX11_steady 39 = .ok (.istore 4, 2) := by decide +kernel
theorem dX11_steady_41 : decode cX11_steady 41 = .ok (.iload 4, 2) := by decide +kernel
theorem dX11_steady_43 : decode cX11_steady 43 = .ok (.aload_n 0, 1) := by decide +kernel
theorem dX11_steady_44 : decode cX11_steady 44 = .ok (.getfield 7, 3) := by decide +kernel
theorem dX11_steady_47 : decode cX11_steady 47 = .ok (.iconst 0, 1) := by decide +kernel
theorem dX11_steady_48 : decode cX11_steady 48 = .ok (.iaload, 1) := by decide +kernel
theorem dX11_steady_49 : decode cX11_steady 49 = .ok (.if_icmp .ge 20, 3) := by decide +kernel
theorem dX11_steady_52 : decode cX11_steady 52 = .ok (.iload_n 3, 1) := by decide +kernel
theorem dX11_steady_53 : decode cX11_steady 53 = .ok (.aload_n 0, 1) := by decide +kernel
theorem dX11_steady_54 : decode cX11_steady 54 = .ok (.iload_n 1, 1) := by decide +kernel
theorem dX11_steady_55 : decode cX11_steady 55 = .ok (.iload 4, 2) := by decide +kernel
theorem dX11_steady_57 : decode cX11_steady 57 = .ok (.iload_n 2, 1) := by decide +kernel
theorem dX11_steady_58 : decode cX11_steady 58 = .ok (.invokevirtual 74, 3) := by decide +kernel
theorem dX11_steady_61 : decode cX11_steady 61 = .ok (.iadd, 1) := by decide +kernel
theorem dX11_steady_62 : decode cX11_steady 62 = .ok (.istore_n 3, 1) := by decide +kernel
theorem dX11_steady_63 : decode cX11_steady 63 = .ok (.iinc 4 1, 3) := by decide +kernel
theorem dX11_steady_66 : decode cX11_steady 66 = .ok (.goto (-25), 3) := by decide +kernel
theorem dX11_steady_69 : decode cX11_steady 69 = .ok (.iload_n 3, 1) := by decide +kernel
theorem dX11_steady_70 : decode cX11_steady 70 = .ok (.ireturn, 1) := by decide +kernel
theorem dX11_within_0 : decode cX11_within 0 = .ok (.iconst (-1), 1) := by decide +kernel
theorem dX11_within_1 : decode cX11_within 1 = .ok (.istore_n 2, 1) := by decide +kernel
theorem dX11_within_2 : decode cX11_within 2 = .ok (.iconst 0, 1) := by decide +kernel
theorem dX11_within_3 : decode cX11_within 3 = .ok (.istore_n 3, 1) := by decide +kernel
theorem dX11_within_4 : decode cX11_within 4 = .ok (.iload_n 3, 1) := by decide +kernel
theorem dX11_within_5 : decode cX11_within 5 = .ok (.aload_n 0, 1) := by decide +kernel
theorem dX11_within_6 : decode cX11_within 6 = .ok (.getfield 88, 3) := by decide +kernel
theorem dX11_within_9 : decode cX11_within 9 = .ok (.if_icmp .ge 73, 3) := by decide +kernel
theorem dX11_within_12 : decode cX11_within 12 = .ok (.aload_n 0, 1) := by decide +kernel
theorem dX11_within_13 : decode cX11_within 13 = .ok (.getfield 38, 3) := by decide +kernel
theorem dX11_within_16 : decode cX11_within 16 = .ok (.iload_n 3, 1) := by decide +kernel
theorem dX11_within_17 : decode cX11_within 17 = .ok (.iaload, 1) := by decide +kernel
theorem dX11_within_18 : decode cX11_within 18 = .ok (.aload_n 0, 1) := by decide +kernel
theorem dX11_within_19 : decode cX11_within 19 = .ok (.getfield 38, 3) := by decide +kernel
theorem dX11_within_22 : decode cX11_within 22 = .ok (.iload_n 1, 1) := by decide +kernel
theorem dX11_within_23 : decode cX11_within 23 = .ok (.iaload, 1) := by decide +kernel
theorem dX11_within_24 : decode cX11_within 24 = .ok (.if_icmp .ne 38, 3) := by decide +kernel
theorem dX11_within_27 : decode cX11_within 27 = .ok (.aload_n 0, 1) := by decide +kernel
theorem dX11_within_28 : decode cX11_within 28 = .ok (.getfield 41, 3) := by decide +kernel
theorem dX11_within_31 : decode cX11_within 31 = .ok (.iload_n 3, 1) := by decide +kernel
theorem dX11_within_32 : decode cX11_within 32 = .ok (.iaload, 1) := by decide +kernel
theorem dX11_within_33 : decode cX11_within 33 = .ok (.aload_n 0, 1) := by decide +kernel
theorem dX11_within_34 : decode cX11_within 34 = .ok (.getfield 41, 3) := by decide +kernel
theorem dX11_within_37 : decode cX11_within 37 = .ok (.iload_n 1, 1) := by decide +kernel
theorem dX11_within_38 : decode cX11_within 38 = .ok (.iaload, 1) := by decide +kernel
theorem dX11_within_39 : decode cX11_within 39 = .ok (.iconst 1, 1) := by decide +kernel
theorem dX11_within_40 : decode cX11_within 40 = .ok (.isub, 1) := by decide +kernel
theorem dX11_within_41 : decode cX11_within 41 = .ok (.if_icmp .ne 21, 3) := by decide +kernel
theorem dX11_within_44 : decode cX11_within 44 = .ok (.aload_n 0, 1) := by decide +kernel
theorem dX11_within_45 : decode cX11_within 45 = .ok (.iload_n 3, 1) := by decide +kernel
theorem dX11_within_46 : decode cX11_within 46 = .ok (.aload_n 0, 1) := by decide +kernel
theorem dX11_within_47 : decode cX11_within 47 = .ok (.getfield 44, 3) := by decide +kernel
theorem dX11_within_50 : decode cX11_within 50 = .ok (.iload_n 1, 1) := by decide +kernel
theorem dX11_within_51 : decode cX11_within 51 = .ok (.iaload, 1) := by decide +kernel
theorem dX11_within_52 : decode cX11_within 52 = .ok (.invokevirtual 98, 3) := by decide +kernel
theorem dX11_within_55 : decode cX11_within 55 = .ok (.ifCond .eq 7, 3) := by decide +kernel
theorem dX11_within_58 : decode cX11_within 58 = .ok (.iconst 1, 1) := by decide +kernel
theorem dX11_within_59 : decode cX11_within 59 = .ok (.goto 4, 3) := by decide +kernel
theorem dX11_within_62 : decode cX11_within 62 = .ok (.iconst 0, 1) := by decide +kernel
theorem dX11_within_63 : decode cX11_within 63 = .ok (.istore 4, 2) := by decide +kernel
theorem dX11_within_65 : decode cX11_within 65 = .ok (.iload 4, 2) := by decide +kernel
theorem dX11_within_67 : decode cX11_within 67 = .ok (.ifCond .eq 7, 3) := by decide +kernel
theorem dX11_within_70 : decode cX11_within 70 = .ok (.iload_n 3, 1) := by decide +kernel
theorem dX11_within_71 : decode cX11_within 71 = .ok (.goto 4, 3) := by decide +kernel
theorem dX11_within_74 : decode cX11_within 74 = .ok (.iload_n 2, 1) := by decide +kernel
theorem dX11_within_75 : decode cX11_within 75 = .ok (.istore_n 2, 1) := by decide +kernel
theorem dX11_within_76 : decode cX11_within 76 = .ok (.iinc 3 1, 3) := by decide +kernel
theorem dX11_within_79 : decode cX11_within 79 = .ok (.goto (-75), 3) := by decide +kernel
theorem dX11_within_82 : decode cX11_within 82 = .ok (.iload_n 2, 1) := by decide +kernel
theorem dX11_within_83 : decode cX11_within 83 = .ok (.ireturn, 1) := by decide +kernel
theorem dX11_weight_0 : decode cX11_weight 0 = .ok (.iconst 0, 1) := by decide +kernel
theorem dX11_weight_1 : decode cX11_weight 1 = .ok (.istore_n 2, 1) := by decide +kernel
theorem dX11_weight_2 : decode cX11_weight 2 = .ok (.aload_n 0, 1) := by decide +kernel
theorem dX11_weight_3 : decode cX11_weight 3 = .ok (.getfield 44, 3) := by decide +kernel
theorem dX11_weight_6 : decode cX11_weight 6 = .ok (.iload_n 1, 1) := by decide +kernel
theorem dX11_weight_7 : decode cX11_weight 7 = .ok (.iaload, 1) := by decide +kernel
theorem dX11_weight_8 : decode cX11_weight 8 = .ok (.istore_n 3, 1) := by decide +kernel
theorem dX11_weight_9 : decode cX11_weight 9 = .ok (.iload_n 3, 1) := by decide +kernel
theorem dX11_weight_10 : decode cX11_weight 10 = .ok (.aload_n 0, 1) := by decide +kernel
theorem dX11_weight_11 : decode cX11_weight 11 = .ok (.getfield 47, 3) := by decide +kernel
theorem dX11_weight_14 : decode cX11_weight 14 = .ok (.iload_n 1, 1) := by decide +kernel
theorem dX11_weight_15 : decode cX11_weight 15 = .ok (.iaload, 1) := by decide +kernel
theorem dX11_weight_16 : decode cX11_weight 16 = .ok (.if_icmp .gt 49, 3) := by decide +kernel
theorem dX11_weight_19 : decode cX11_weight 19 = .ok (.iload_n 2, 1) := by decide +kernel
theorem dX11_weight_20 : decode cX11_weight 20 = .ok (.aload_n 0, 1) := by decide +kernel
theorem dX11_weight_21 : decode cX11_weight 21 = .ok (.aload_n 0, 1) := by decide +kernel
theorem dX11_weight_22 : decode cX11_weight 22 = .ok (.getfield 38, 3) := by decide +kernel
theorem dX11_weight_25 : decode cX11_weight 25 = .ok (.iload_n 1, 1) := by decide +kernel
theorem dX11_weight_26 : decode cX11_weight 26 = .ok (.iaload, 1) := by decide +kernel
theorem dX11_weight_27 : decode cX11_weight 27 = .ok (.iload_n 3, 1) := by decide +kernel
theorem dX11_weight_28 : decode cX11_weight 28 = .ok (.aload_n 0, 1) := by decide +kernel
theorem dX11_weight_29 : decode cX11_weight 29 = .ok (.getfield 41, 3) := by decide +kernel
theorem dX11_weight_32 : decode cX11_weight 32 = .ok (.iload_n 1, 1) := by decide +kernel
theorem dX11_weight_33 : decode cX11_weight 33 = .ok (.iaload, 1) := by decide +kernel
theorem dX11_weight_34 : decode cX11_weight 34 = .ok (.iconst 1, 1) := by decide +kernel
theorem dX11_weight_35 : decode cX11_weight 35 = .ok (.isub, 1) := by decide +kernel
theorem dX11_weight_36 : decode cX11_weight 36 = .ok (.invokevirtual 74, 3) := by decide +kernel
theorem dX11_weight_39 : decode cX11_weight 39 = .ok (.aload_n 0, 1) := by decide +kernel
theorem dX11_weight_40 : decode cX11_weight 40 = .ok (.aload_n 0, 1) := by decide +kernel
theorem dX11_weight_41 : decode cX11_weight 41 = .ok (.getfield 38, 3) := by decide +kernel
theorem dX11_weight_44 : decode cX11_weight 44 = .ok (.iload_n 1, 1) := by decide +kernel
theorem dX11_weight_45 : decode cX11_weight 45 = .ok (.iaload, 1) := by decide +kernel
theorem dX11_weight_46 : decode cX11_weight 46 = .ok (.iload_n 3, 1) := by decide +kernel
theorem dX11_weight_47 : decode cX11_weight 47 = .ok (.aload_n 0, 1) := by decide +kernel
theorem dX11_weight_48 : decode cX11_weight 48 = .ok (.getfield 41, 3) := by decide +kernel
theorem dX11_weight_51 : decode cX11_weight 51 = .ok (.iload_n 1, 1) := by decide +kernel
theorem dX11_weight_52 : decode cX11_weight 52 = .ok (.iaload, 1) := by decide +kernel
theorem dX11_weight_53 : decode cX11_weight 53 = .ok (.invokevirtual 74, 3) := by decide +kernel
theorem dX11_weight_56 : decode cX11_weight 56 = .ok (.isub, 1) := by decide +kernel
theorem dX11_weight_57 : decode cX11_weight 57 = .ok (.iadd, 1) := by decide +kernel
theorem dX11_weight_58 : decode cX11_weight 58 = .ok (.istore_n 2, 1) := by decide +kernel
theorem dX11_weight_59 : decode cX11_weight 59 = .ok (.iinc 3 1, 3) := by decide +kernel
theorem dX11_weight_62 : decode cX11_weight 62 = .ok (.goto (-53), 3) := by decide +kernel
theorem dX11_weight_65 : decode cX11_weight 65 = .ok (.iload_n 2, 1) := by decide +kernel
theorem dX11_weight_66 : decode cX11_weight 66 = .ok (.ireturn, 1) := by decide +kernel
theorem dX11_peak_0 : decode cX11_peak 0 = .ok (.aload_n 0, 1) := by decide +kernel
theorem dX11_peak_1 : decode cX11_peak 1 = .ok (.getfield 44, 3) := by decide +kernel
theorem dX11_peak_4 : decode cX11_peak 4 = .ok (.iload_n 1, 1) := by decide +kernel
theorem dX11_peak_5 : decode cX11_peak 5 = .ok (.iaload, 1) := by decide +kernel
theorem dX11_peak_6 : decode cX11_peak 6 = .ok (.istore_n 2, 1) := by decide +kernel
theorem dX11_peak_7 : decode cX11_peak 7 = .ok (.aload_n 0, 1) := by decide +kernel
theorem dX11_peak_8 : decode cX11_peak 8 = .ok (.getfield 44, 3) := by decide +kernel
theorem dX11_peak_11 : decode cX11_peak 11 = .ok (.iload_n 1, 1) := by decide +kernel
theorem dX11_peak_12 : decode cX11_peak 12 = .ok (.iaload, 1) := by decide +kernel
theorem dX11_peak_13 : decode cX11_peak 13 = .ok (.istore_n 3, 1) := by decide +kernel
theorem dX11_peak_14 : decode cX11_peak 14 = .ok (.iload_n 3, 1) := by decide +kernel
theorem dX11_peak_15 : decode cX11_peak 15 = .ok (.aload_n 0, 1) := by decide +kernel
theorem dX11_peak_16 : decode cX11_peak 16 = .ok (.getfield 47, 3) := by decide +kernel
theorem dX11_peak_19 : decode cX11_peak 19 = .ok (.iload_n 1, 1) := by decide +kernel
theorem dX11_peak_20 : decode cX11_peak 20 = .ok (.iaload, 1) := by decide +kernel
theorem dX11_peak_21 : decode cX11_peak 21 = .ok (.if_icmp .gt 44, 3) := by decide +kernel
theorem dX11_peak_24 : decode cX11_peak 24 = .ok (.aload_n 0, 1) := by decide +kernel
theorem dX11_peak_25 : decode cX11_peak 25 = .ok (.iload_n 3, 1) := by decide +kernel
theorem dX11_peak_26 : decode cX11_peak 26 = .ok (.iconst 1, 1) := by decide +kernel
theorem dX11_peak_27 : decode cX11_peak 27 = .ok (.aload_n 0, 1) := by decide +kernel
theorem dX11_peak_28 : decode cX11_peak 28 = .ok (.getfield 38, 3) := by decide +kernel
theorem dX11_peak_31 : decode cX11_peak 31 = .ok (.iload_n 1, 1) := by decide +kernel
theorem dX11_peak_32 : decode cX11_peak 32 = .ok (.iaload, 1) := by decide +kernel
theorem dX11_peak_33 : decode cX11_peak 33 = .ok (.ishl, 1) := by decide +kernel
theorem dX11_peak_34 : decode cX11_peak 34 = .ok (.invokevirtual 66, 3) := by decide +kernel
theorem dX11_peak_37 : decode cX11_peak 37 = .ok (.aload_n 0, 1) := by decide +kernel
theorem dX11_peak_38 : decode cX11_peak 38 = .ok (.iload_n 2, 1) := by decide +kernel
theorem dX11_peak_39 : decode cX11_peak 39 = .ok (.iconst 1, 1) := by decide +kernel
theorem dX11_peak_40 : decode cX11_peak 40 = .ok (.aload_n 0, 1) := by decide +kernel
theorem dX11_peak_41 : decode cX11_peak 41 = .ok (.getfield 38, 3) := by decide +kernel
theorem dX11_peak_44 : decode cX11_peak 44 = .ok (.iload_n 1, 1) := by decide +kernel
theorem dX11_peak_45 : decode cX11_peak 45 = .ok (.iaload, 1) := by decide +kernel
theorem dX11_peak_46 : decode cX11_peak 46 = .ok (.ishl, 1) := by decide +kernel
theorem dX11_peak_47 : decode cX11_peak 47 = .ok (.invokevirtual 66, 3) := by decide +kernel
theorem dX11_peak_50 : decode cX11_peak 50 = .ok (.if_icmp .le 7, 3) := by decide +kernel
theorem dX11_peak_53 : decode cX11_peak 53 = .ok (.iload_n 3, 1) := by decide +kernel
theorem dX11_peak_54 : decode cX11_peak 54 = .ok (.goto 4, 3) := by decide +kernel
theorem dX11_peak_57 : decode cX11_peak 57 = .ok (.iload_n 2, 1) := by decide +kernel
theorem dX11_peak_58 : decode cX11_peak 58 = .ok (.istore_n 2, 1) := by decide +kernel
theorem dX11_peak_59 : decode cX11_peak 59 = .ok (.iinc 3 1, 3) := by decide +kernel
theorem dX11_peak_62 : decode cX11_peak 62 = .ok (.goto (-48), 3) := by decide +kernel
theorem dX11_peak_65 : decode cX11_peak 65 = .ok (.iload_n 2, 1) := by decide +kernel
theorem dX11_peak_66 : decode cX11_peak 66 = .ok (.ireturn, 1) := by decide +kernel
theorem dX11_flare_0 : decode cX11_flare 0 = .ok (.aload_n 0, 1) := by decide +kernel
theorem dX11_flare_1 : decode cX11_flare 1 = .ok (.invokevirtual 108, 3) := by decide +kernel
theorem dX11_flare_4 : decode cX11_flare 4 = .ok (.iload_n 1, 1) := by decide +kernel
theorem dX11_flare_5 : decode cX11_flare 5 = .ok (.i2l, 1) := by decide +kernel
theorem dX11_flare_6 : decode cX11_flare 6 = .ok (.lconst 0, 1) := by decide +kernel
theorem dX11_flare_7 : decode cX11_flare 7 = .ok (.aload_n 0, 1) := by decide +kernel
theorem dX11_flare_8 : decode cX11_flare 8 = .ok (.getfield 88, 3) := by decide +kernel
theorem dX11_flare_11 : decode cX11_flare 11 = .ok (.iconst 1, 1) := by decide +kernel
theorem dX11_flare_12 : decode cX11_flare 12 = .ok (.isub, 1) := by decide +kernel
theorem dX11_flare_13 : decode cX11_flare 13 = .ok (.i2l, 1) := by decide +kernel
theorem dX11_flare_14 : decode cX11_flare 14 = .ok (.invokestatic 94, 3) := by decide +kernel
theorem dX11_flare_17 : decode cX11_flare 17 = .ok (.ifCond .ne 6, 3) := by decide +kernel
theorem dX11_flare_20 : decode cX11_flare 20 = .ok (.ldc 188, 2) := by decide +kernel
theorem dX11_flare_22 : decode cX11_flare 22 = .ok (.ireturn, 1) := by decide +kernel
theorem dX11_flare_23 : decode cX11_flare 23 = .ok (.iload_n 2, 1) := by decide +kernel
theorem dX11_flare_24 : decode cX11_flare 24 = .ok (.tableswitch 145 0 8 #[52, 59, 66, 73, 80, 86, 96, 102, 139], 52) := by decide +kernel
theorem dX11_flare_76 : decode cX11_flare 76 = .ok (.aload_n 0, 1) := by decide +kernel
theorem dX11_flare_77 : decode cX11_flare 77 = .ok (.getfield 38, 3) := by decide +kernel
theorem dX11_flare_80 : decode cX11_flare 80 = .ok (.iload_n 1, 1) := by decide +kernel
theorem dX11_flare_81 : decode cX11_flare 81 = .ok (.iaload, 1) := by decide +kernel
theorem dX11_flare_82 : decode cX11_flare 82 = .ok (.ireturn, 1) := by decide +kernel
theorem dX11_flare_83 : decode cX11_flare 83 = .ok (.aload_n 0, 1) := by decide +kernel
theorem dX11_flare_84 : decode cX11_flare 84 = .ok (.getfield 41, 3) := by decide +kernel
theorem dX11_flare_87 : decode cX11_flare 87 = .ok (.iload_n 1, 1) := by decide +kernel
theorem dX11_flare_88 : decode cX11_flare 88 = .ok (.iaload, 1) := by decide +kernel
theorem dX11_flare_89 : decode cX11_flare 89 = .ok (.ireturn, 1) := by decide +kernel
theorem dX11_flare_90 : decode cX11_flare 90 = .ok (.aload_n 0, 1) := by decide +kernel
theorem dX11_flare_91 : decode cX11_flare 91 = .ok (.getfield 44, 3) := by decide +kernel
theorem dX11_flare_94 : decode cX11_flare 94 = .ok (.iload_n 1, 1) := by decide +kernel
theorem dX11_flare_95 : decode cX11_flare 95 = .ok (.iaload, 1) := by decide +kernel
theorem dX11_flare_96 : decode cX11_flare 96 = .ok (.ireturn, 1) := by decide +kernel
theorem dX11_flare_97 : decode cX11_flare 97 = .ok (.aload_n 0, 1) := by decide +kernel
theorem dX11_flare_98 : decode cX11_flare 98 = .ok (.getfield 47, 3) := by decide +kernel
theorem dX11_flare_101 : decode cX11_flare 101 = .ok (.iload_n 1, 1) := by decide +kernel
theorem dX11_flare_102 : decode cX11_flare 102 = .ok (.iaload, 1) := by decide +kernel
theorem dX11_flare_103 : decode cX11_flare 103 = .ok (.ireturn, 1) := by decide +kernel
theorem dX11_flare_104 : decode cX11_flare 104 = .ok (.aload_n 0, 1) := by decide +kernel
theorem dX11_flare_105 : decode cX11_flare 105 = .ok (.iload_n 1, 1) := by decide +kernel
theorem dX11_flare_106 : decode cX11_flare 106 = .ok (.invokevirtual 198, 3) := by decide +kernel
theorem dX11_flare_109 : decode cX11_flare 109 = .ok (.ireturn, 1) := by decide +kernel
theorem dX11_flare_110 : decode cX11_flare 110 = .ok (.aload_n 0, 1) := by decide +kernel
theorem dX11_flare_111 : decode cX11_flare 111 = .ok (.iload_n 1, 1) := by decide +kernel
theorem dX11_flare_112 : decode cX11_flare 112 = .ok (.invokevirtual 201, 3) := by decide +kernel
theorem dX11_flare_115 : decode cX11_flare 115 = .ok (.sipush 1000, 3) := by decide +kernel
theorem dX11_flare_118 : decode cX11_flare 118 = .ok (.iadd, 1) := by decide +kernel
theorem dX11_flare_119 : decode cX11_flare 119 = .ok (.ireturn, 1) := by decide +kernel
theorem dX11_flare_120 : decode cX11_flare 120 = .ok (.aload_n 0, 1) := by decide +kernel
theorem dX11_flare_121 : decode cX11_flare 121 = .ok (.iload_n 1, 1) := by decide +kernel
theorem dX11_flare_122 : decode cX11_flare 122 = .ok (.invokevirtual 204, 3) := by decide +kernel
theorem dX11_flare_125 : decode cX11_flare 125 = .ok (.ireturn, 1) := by decide +kernel
theorem dX11_flare_126 : decode cX11_flare 126 = .ok (.aload_n 0, 1) := by decide +kernel
theorem dX11_flare_127 : decode cX11_flare 127 = .ok (.aload_n 0, 1) := by decide +kernel
theorem dX11_flare_128 : decode cX11_flare 128 = .ok (.iload_n 1, 1) := by decide +kernel
theorem dX11_flare_129 : decode cX11_flare 129 = .ok (.invokevirtual 204, 3) := by decide +kernel
theorem dX11_flare_132 : decode cX11_flare 132 = .ok (.iconst 1, 1) := by decide +kernel
theorem dX11_flare_133 : decode cX11_flare 133 = .ok (.aload_n 0, 1) := by decide +kernel
theorem dX11_flare_134 : decode cX11_flare 134 = .ok (.getfield 38, 3) := by decide +kernel
theorem dX11_flare_137 : decode cX11_flare 137 = .ok (.iload_n 1, 1) := by decide +kernel
theorem dX11_flare_138 : decode cX11_flare 138 = .ok (.iaload, 1) := by decide +kernel
theorem dX11_flare_139 : decode cX11_flare 139 = .ok (.ishl, 1) := by decide +kernel
theorem dX11_flare_140 : decode cX11_flare 140 = .ok (.invokevirtual 66, 3) := by decide +kernel
theorem dX11_flare_143 : decode cX11_flare 143 = .ok (.aload_n 0, 1) := by decide +kernel
theorem dX11_flare_144 : decode cX11_flare 144 = .ok (.aload_n 0, 1) := by decide +kernel
theorem dX11_flare_145 : decode cX11_flare 145 = .ok (.getfield 47, 3) := by decide +kernel
theorem dX11_flare_148 : decode cX11_flare 148 = .ok (.iload_n 1, 1) := by decide +kernel
theorem dX11_flare_149 : decode cX11_flare 149 = .ok (.iaload, 1) := by decide +kernel
theorem dX11_flare_150 : decode cX11_flare 150 = .ok (.iconst 1, 1) := by decide +kernel
theorem dX11_flare_151 : decode cX11_flare 151 = .ok (.aload_n 0, 1) := by decide +kernel
theorem dX11_flare_152 : decode cX11_flare 152 = .ok (.getfield 38, 3) := by decide +kernel
theorem dX11_flare_155 : decode cX11_flare 155 = .ok (.iload_n 1, 1) := by decide +kernel
theorem dX11_flare_156 : decode cX11_flare 156 = .ok (.iaload, 1) := by decide +kernel
theorem dX11_flare_157 : decode cX11_flare 157 = .ok (.ishl, 1) := by decide +kernel
theorem dX11_flare_158 : decode cX11_flare 158 = .ok (.invokevirtual 66, 3) := by decide +kernel
theorem dX11_flare_161 : decode cX11_flare 161 = .ok (.isub, 1) := by decide +kernel
theorem dX11_flare_162 : decode cX11_flare 162 = .ok (.ireturn, 1) := by decide +kernel
theorem dX11_flare_163 : decode cX11_flare 163 = .ok (.aload_n 0, 1) := by decide +kernel
theorem dX11_flare_164 : decode cX11_flare 164 = .ok (.iload_n 1, 1) := by decide +kernel
theorem dX11_flare_165 : decode cX11_flare 165 = .ok (.invokevirtual 207, 3) := by decide +kernel
theorem dX11_flare_168 : decode cX11_flare 168 = .ok (.ireturn, 1) := by decide +kernel
theorem dX11_flare_169 : decode cX11_flare 169 = .ok (.ldc 147, 2) := by decide +kernel
theorem dX11_flare_171 : decode cX11_flare 171 = .ok (.ireturn, 1) := by decide +kernel
theorem dX11_story_0 : decode cX11_story 0 = .ok (.iload_n 1, 1) := by decide +kernel
theorem dX11_story_1 : decode cX11_story 1 = .ok (.i2l, 1) := by decide +kernel
theorem dX11_story_2 : decode cX11_story 2 = .ok (.lconst 0, 1) := by decide +kernel
theorem dX11_story_3 : decode cX11_story 3 = .ok (.aload_n 0, 1) := by decide +kernel
theorem dX11_story_4 : decode cX11_story 4 = .ok (.invokevirtual 179, 3) := by decide +kernel
theorem dX11_story_7 : decode cX11_story 7 = .ok (.iconst 1, 1) := by decide +kernel
theorem dX11_story_8 : decode cX11_story 8 = .ok (.isub, 1) := by decide +kernel
theorem dX11_story_9 : decode cX11_story 9 = .ok (.i2l, 1) := by decide +kernel
theorem dX11_story_10 : decode cX11_story 10 = .ok (.invokestatic 94, 3) := by decide +kernel
theorem dX11_story_13 : decode cX11_story 13 = .ok (.ifCond .ne 6, 3) := by decide +kernel
theorem dX11_story_16 : decode cX11_story 16 = .ok (.ldc 188, 2) := by decide +kernel
theorem dX11_story_18 : decode cX11_story 18 = .ok (.ireturn, 1) := by decide +kernel
theorem dX11_story_19 : decode cX11_story 19 = .ok (.iconst 0, 1) := by decide +kernel
theorem dX11_story_20 : decode cX11_story 20 = .ok (.istore_n 3, 1) := by decide +kernel
theorem dX11_story_21 : decode cX11_story 21 = .ok (.iconst 0, 1) := by decide +kernel
theorem dX11_story_22 : decode cX11_story 22 = .ok (.istore 4, 2) := by decide +kernel
theorem dX11_story_24 : decode cX11_story 24 = .ok (.bipush 12, 2) := by decide +kernel
theorem dX11_story_26 : decode cX11_story 26 = .ok (.istore 5, 2) := by decide +kernel
theorem dX11_story_28 : decode cX11_story 28 = .ok (.iconst 0, 1) := by decide +kernel
theorem dX11_story_29 : decode cX11_story 29 = .ok (.istore 6, 2) := by decide +kernel
theorem dX11_story_31 : decode cX11_story 31 = .ok (.iconst 0, 1) := by decide +kernel
theorem dX11_story_32 : decode cX11_story 32 = .ok (.istore 7, 2) := by decide +kernel
theorem dX11_story_34 : decode cX11_story 34 = .ok (.iload 7, 2) := by decide +kernel
theorem dX11_story_36 : decode cX11_story 36 = .ok (.aload_n 0, 1) := by decide +kernel
theorem dX11_story_37 : decode cX11_story 37 = .ok (.getfield 88, 3) := by decide +kernel
theorem dX11_story_40 : decode cX11_story 40 = .ok (.if_icmp .ge 88, 3) := by decide +kernel
theorem dX11_story_43 : decode cX11_story 43 = .ok (.aload_n 0, 1) := by decide +kernel
theorem dX11_story_44 : decode cX11_story 44 = .ok (.iload 7, 2) := by decide +kernel
theorem dX11_story_46 : decode cX11_story 46 = .ok (.invokevirtual 207, 3) := by decide +kernel
theorem dX11_story_49 : decode cX11_story 49 = .ok (.iload_n 1, 1) := by decide +kernel
theorem dX11_story_50 : decode cX11_story 50 = .ok (.if_icmp .ne 72, 3) := by decide +kernel
theorem dX11_story_53 : decode cX11_story 53 = .ok (.iinc 3 1, 3) := by decide +kernel
theorem dX11_story_56 : decode cX11_story 56 = .ok (.iload 4, 2) := by decide +kernel
theorem dX11_story_58 : decode cX11_story 58 = .ok (.iconst 1, 1) := by decide +kernel
theorem dX11_story_59 : decode cX11_story 59 = .ok (.aload_n 0, 1) := by decide +kernel
theorem dX11_story_60 : decode cX11_story 60 = .ok (.getfield 38, 3) := by decide +kernel
theorem dX11_story_63 : decode cX11_story 63 = .ok (.iload 7, 2) := by decide +kernel
theorem dX11_story_65 : decode cX11_story 65 = .ok (.iaload, 1) := by decide +kernel
theorem dX11_story_66 : decode cX11_story 66 = .ok (.ishl, 1) := by decide +kernel
theorem dX11_story_67 : decode cX11_story 67 = .ok (.ior, 1) := by decide +kernel
theorem dX11_story_68 : decode cX11_story 68 = .ok (.istore 4, 2) := by decide +kernel
theorem dX11_story_70 : decode cX11_story 70 = .ok (.aload_n 0, 1) := by decide +kernel
theorem dX11_story_71 : decode cX11_story 71 = .ok (.getfield 44, 3) := by decide +kernel
theorem dX11_story_74 : decode cX11_story 74 = .ok (.iload 7, 2) := by decide +kernel
theorem dX11_story_76 : decode cX11_story 76 = .ok (.iaload, 1) := by decide +kernel
theorem dX11_story_77 : decode cX11_story 77 = .ok (.iload 5, 2) := by decide +kernel
theorem dX11_story_79 : decode cX11_story 79 = .ok (.if_icmp .ge 13, 3) := by decide +kernel
theorem dX11_story_82 : decode cX11_story 82 = .ok (.aload_n 0, 1) := by decide +kernel
theorem dX11_story_83 : decode cX11_story 83 = .ok (.getfield 44, 3) := by decide +kernel
theorem dX11_story_86 : decode cX11_story 86 = .ok (.iload 7, 2) := by decide +kernel
theorem dX11_story_88 : decode cX11_story 88 = .ok (.iaload, 1) := by decide +kernel
theorem dX11_story_89 : decode cX11_story 89 = .ok (.goto 5, 3) := by decide +kernel
theorem dX11_story_92 : decode cX11_story 92 = .ok (.iload 5, 2) := by decide +kernel
theorem dX11_story_94 : decode cX11_story 94 = .ok (.istore 5, 2) := by decide +kernel
theorem dX11_story_96 : decode cX11_story 96 = .ok (.aload_n 0, 1) := by decide +kernel
theorem dX11_story_97 : decode cX11_story 97 = .ok (.getfield 47, 3) := by decide +kernel
theorem dX11_story_100 : decode cX11_story 100 = .ok (.iload 7, 2) := by decide +kernel
theorem dX11_story_102 : decode cX11_story 102 = .ok (.iaload, 1) := by decide +kernel
theorem dX11_story_103 : decode cX11_story 103 = .ok (.iload 6, 2) := by decide +kernel
theorem dX11_story_105 : decode cX11_story 105 = .ok (.if_icmp .le 13, 3) := by decide +kernel
theorem dX11_story_108 : decode cX11_story 108 = .ok (.aload_n 0, 1) := by decide +kernel
theorem dX11_story_109 : decode cX11_story 109 = .ok (.getfield 47, 3) := by decide +kernel
theorem dX11_story_112 : decode cX11_story 112 = .ok (.iload 7, 2) := by decide +kernel
theorem dX11_story_114 : decode cX11_story 114 = .ok (.iaload, 1) := by decide +kernel
theorem dX11_story_115 : decode cX11_story 115 = .ok (.goto 5, 3) := by decide +kernel
theorem dX11_story_118 : decode cX11_story 118 = .ok (.iload 6, 2) := by decide +kernel
theorem dX11_story_120 : decode cX11_story 120 = .ok (.istore 6, 2) := by decide +kernel
theorem dX11_story_122 : decode cX11_story 122 = .ok (.iinc 7 1, 3) := by decide +kernel
theorem dX11_story_125 : decode cX11_story 125 = .ok (.goto (-91), 3) := by decide +kernel
theorem dX11_story_128 : decode cX11_story 128 = .ok (.iload_n 2, 1) := by decide +kernel
theorem dX11_story_129 : decode cX11_story 129 = .ok (.ifCond .ne 7, 3) := by decide +kernel
theorem dX11_story_132 : decode cX11_story 132 = .ok (.iload_n 3, 1) := by decide +kernel
theorem dX11_story_133 : decode cX11_story 133 = .ok (.goto 35, 3) := by decide +kernel
theorem dX11_story_136 : decode cX11_story 136 = .ok (.iload_n 2, 1) := by decide +kernel
theorem dX11_story_137 : decode cX11_story 137 = .ok (.iconst 1, 1) := by decide +kernel
theorem dX11_story_138 : decode cX11_story 138 = .ok (.if_icmp .ne 8, 3) := by decide +kernel
theorem dX11_story_141 : decode cX11_story 141 = .ok (.iload 4, 2) := by decide +kernel
theorem dX11_story_143 : decode cX11_story 143 = .ok (.goto 25, 3) := by decide +kernel
theorem dX11_story_146 : decode cX11_story 146 = .ok (.iload_n 2, 1) := by decide +kernel
theorem dX11_story_147 : decode cX11_story 147 = .ok (.iconst 2, 1) := by decide +kernel
theorem dX11_story_148 : decode cX11_story 148 = .ok (.if_icmp .ne 8, 3) := by decide +kernel
theorem dX11_story_151 : decode cX11_story 151 = .ok (.iload 5, 2) := by decide +kernel
theorem dX11_story_153 : decode cX11_story 153 = .ok (.goto 15, 3) := by decide +kernel
theorem dX11_story_156 : decode cX11_story 156 = .ok (.iload_n 2, 1) := by decide +kernel
theorem dX11_story_157 : decode cX11_story 157 = .ok (.iconst 3, 1) := by decide +kernel
theorem dX11_story_158 : decode cX11_story 158 = .ok (.if_icmp .ne 8, 3) := by decide +kernel
theorem dX11_story_161 : decode cX11_story 161 = .ok (.iload 6, 2) := by decide +kernel
theorem dX11_story_163 : decode cX11_story 163 = .ok (.goto 5, 3) := by decide +kernel
theorem dX11_story_166 : decode cX11_story 166 = .ok (.ldc 147, 2) := by decide +kernel
theorem dX11_story_168 : decode cX11_story 168 = .ok (.ireturn, 1) := by decide +kernel
theorem dX11_together_0 : decode cX11_together 0 = .ok (.iload_n 1, 1) := by decide +kernel
theorem dX11_together_1 : decode cX11_together 1 = .ok (.invokestatic 195, 3) := by decide +kernel
theorem dX11_together_4 : decode cX11_together 4 = .ok (.ifCond .eq 25, 3) := by decide +kernel
theorem dX11_together_7 : decode cX11_together 7 = .ok (.iload_n 2, 1) := by decide +kernel
theorem dX11_together_8 : decode cX11_together 8 = .ok (.invokestatic 195, 3) := by decide +kernel
theorem dX11_together_11 : decode cX11_together 11 = .ok (.ifCond .eq 18, 3) := by decide +kernel
theorem dX11_together_14 : decode cX11_together 14 = .ok (.aload_n 0, 1) := by decide +kernel
theorem dX11_together_15 : decode cX11_together 15 = .ok (.iconst (-1), 1) := by decide +kernel
theorem dX11_together_16 : decode cX11_together 16 = .ok (.iconst 1, 1) := by decide +kernel
theorem dX11_together_17 : decode cX11_together 17 = .ok (.iload_n 1, 1) := by decide +kernel
theorem dX11_together_18 : decode cX11_together 18 = .ok (.ishl, 1) := by decide +kernel
theorem dX11_together_19 : decode cX11_together 19 = .ok (.iconst 1, 1) := by decide +kernel
theorem dX11_together_20 : decode cX11_together 20 = .ok (.iload_n 2, 1) := by decide +kernel
theorem dX11_together_21 : decode cX11_together 21 = .ok (.ishl, 1) := by decide +kernel
theorem dX11_together_22 : decode cX11_together 22 = .ok (.ior, 1) := by decide +kernel
theorem dX11_together_23 : decode cX11_together 23 = .ok (.invokevirtual 66, 3) := by decide +kernel
theorem dX11_together_26 : decode cX11_together 26 = .ok (.goto 5, 3) := by decide +kernel
theorem dX11_together_29 : decode cX11_together 29 = .ok (.ldc 188, 2) := by decide +kernel
theorem dX11_together_31 : decode cX11_together 31 = .ok (.ireturn, 1) := by decide +kernel
theorem dX11_piece_0 : decode cX11_piece 0 = .ok (.aload_n 0, 1) := by decide +kernel
theorem dX11_piece_1 : decode cX11_piece 1 = .ok (.iload_n 1, 1) := by decide +kernel
theorem dX11_piece_2 : decode cX11_piece 2 = .ok (.invokevirtual 164, 3) := by decide +kernel
theorem dX11_piece_5 : decode cX11_piece 5 = .ok (.ifCond .ne 6, 3) := by decide +kernel
theorem dX11_piece_8 : decode cX11_piece 8 = .ok (.ldc 188, 2) := by decide +kernel
theorem dX11_piece_10 : decode cX11_piece 10 = .ok (.ireturn, 1) := by decide +kernel
theorem dX11_piece_11 : decode cX11_piece 11 = .ok (.iload_n 2, 1) := by decide +kernel
theorem dX11_piece_12 : decode cX11_piece 12 = .ok (.i2l, 1) := by decide +kernel
theorem dX11_piece_13 : decode cX11_piece 13 = .ok (.lconst 0, 1) := by decide +kernel
theorem dX11_piece_14 : decode cX11_piece 14 = .ok (.ldc2_w 145, 3) := by decide +kernel
theorem dX11_piece_17 : decode cX11_piece 17 = .ok (.invokestatic 94, 3) := by decide +kernel
theorem dX11_piece_20 : decode cX11_piece 20 = .ok (.ifCond .ne 6, 3) := by decide +kernel
theorem dX11_piece_23 : decode cX11_piece 23 = .ok (.ldc 147, 2) := by decide +kernel
theorem dX11_piece_25 : decode cX11_piece 25 = .ok (.ireturn, 1) := by decide +kernel
theorem dX11_piece_26 : decode cX11_piece 26 = .ok (.aload_n 0, 1) := by decide +kernel
theorem dX11_piece_27 : decode cX11_piece 27 = .ok (.getfield 7, 3) := by decide +kernel
theorem dX11_piece_30 : decode cX11_piece 30 = .ok (.iconst 1, 1) := by decide +kernel
theorem dX11_piece_31 : decode cX11_piece 31 = .ok (.iaload, 1) := by decide +kernel
theorem dX11_piece_32 : decode cX11_piece 32 = .ok (.bipush 40, 2) := by decide +kernel
theorem dX11_piece_34 : decode cX11_piece 34 = .ok (.if_icmp .ne 6, 3) := by decide +kernel
theorem dX11_piece_37 : decode cX11_piece 37 = .ok (.ldc 148, 2) := by decide +kernel
theorem dX11_piece_39 : decode cX11_piece 39 = .ok (.ireturn, 1) := by decide +kernel
theorem dX11_piece_40 : decode cX11_piece 40 = .ok (.aload_n 0, 1) := by decide +kernel
theorem dX11_piece_41 : decode cX11_piece 41 = .ok (.invokevirtual 153, 3) := by decide +kernel
theorem dX11_piece_44 : decode cX11_piece 44 = .ok (.aload_n 0, 1) := by decide +kernel
theorem dX11_piece_45 : decode cX11_piece 45 = .ok (.iload_n 1, 1) := by decide +kernel
theorem dX11_piece_46 : decode cX11_piece 46 = .ok (.iload_n 2, 1) := by decide +kernel
theorem dX11_piece_47 : decode cX11_piece 47 = .ok (.invokevirtual 156, 3) := by decide +kernel
theorem dX11_piece_50 : decode cX11_piece 50 = .ok (.aload_n 0, 1) := by decide +kernel
theorem dX11_piece_51 : decode cX11_piece 51 = .ok (.getfield 7, 3) := by decide +kernel
theorem dX11_piece_54 : decode cX11_piece 54 = .ok (.iconst 1, 1) := by decide +kernel
theorem dX11_piece_55 : decode cX11_piece 55 = .ok (.iaload, 1) := by decide +kernel
theorem dX11_piece_56 : decode cX11_piece 56 = .ok (.iconst 1, 1) := by decide +kernel
theorem dX11_piece_57 : decode cX11_piece 57 = .ok (.isub, 1) := by decide +kernel
theorem dX11_piece_58 : decode cX11_piece 58 = .ok (.ireturn, 1) := by decide +kernel
theorem dX11_take_0 : decode cX11_take 0 = .ok (.aload_n 0, 1) := by decide +kernel
theorem dX11_take_1 : decode cX11_take 1 = .ok (.iload_n 1, 1) := by decide +kernel
theorem dX11_take_2 : decode cX11_take 2 = .ok (.invokevirtual 185, 3) := by decide +kernel
theorem dX11_take_5 : decode cX11_take 5 = .ok (.ifCond .ne 6, 3) := by decide +kernel
theorem dX11_take_8 : decode cX11_take 8 = .ok (.ldc 188, 2) := by decide +kernel
theorem dX11_take_10 : decode cX11_take 10 = .ok (.ireturn, 1) := by decide +kernel
theorem dX11_take_11 : decode cX11_take 11 = .ok (.aload_n 0, 1) := by decide +kernel
theorem dX11_take_12 : decode cX11_take 12 = .ok (.invokevirtual 153, 3) := by decide +kernel
theorem dX11_take_15 : decode cX11_take 15 = .ok (.iload_n 1, 1) := by decide +kernel
theorem dX11_take_16 : decode cX11_take 16 = .ok (.istore_n 2, 1) := by decide +kernel
theorem dX11_take_17 : decode cX11_take 17 = .ok (.iload_n 2, 1) := by decide +kernel
theorem dX11_take_18 : decode cX11_take 18 = .ok (.aload_n 0, 1) := by decide +kernel
theorem dX11_take_19 : decode cX11_take 19 = .ok (.getfield 7, 3) := by decide +kernel
theorem dX11_take_22 : decode cX11_take 22 = .ok (.iconst 1, 1) := by decide +kernel
theorem dX11_take_23 : decode cX11_take 23 = .ok (.iaload, 1) := by decide +kernel
theorem dX11_take_24 : decode cX11_take 24 = .ok (.iconst 1, 1) := by decide +kernel
theorem dX11_take_25 : decode cX11_take 25 = .ok (.isub, 1) := by decide +kernel
theorem dX11_take_26 : decode cX11_take 26 = .ok (.if_icmp .ge 49, 3) := by decide +kernel
theorem dX11_take_29 : decode cX11_take 29 = .ok (.aload_n 0, 1) := by decide +kernel
theorem dX11_take_30 : decode cX11_take 30 = .ok (.getfield 7, 3) := by decide +kernel
theorem dX11_take_33 : decode cX11_take 33 = .ok (.bipush 6, 2) := by decide +kernel
theorem dX11_take_35 : decode cX11_take 35 = .ok (.iload_n 2, 1) := by decide +kernel
theorem dX11_take_36 : decode cX11_take 36 = .ok (.iadd, 1) := by decide +kernel
theorem dX11_take_37 : decode cX11_take 37 = .ok (.aload_n 0, 1) := by decide +kernel
theorem dX11_take_38 : decode cX11_take 38 = .ok (.getfield 7, 3) := by decide +kernel
theorem dX11_take_41 : decode cX11_take 41 = .ok (.bipush 6, 2) := by decide +kernel
theorem dX11_take_43 : decode cX11_take 43 = .ok (.iload_n 2, 1) := by decide +kernel
theorem dX11_take_44 : decode cX11_take 44 = .ok (.iadd, 1) := by decide +kernel
theorem dX11_take_45 : decode cX11_take 45 = .ok (.iconst 1, 1) := by decide +kernel
theorem dX11_take_46 : decode cX11_take 46 = .ok (.iadd, 1) := by decide +kernel
theorem dX11_take_47 : decode cX11_take 47 = .ok (.iaload, 1) := by decide +kernel
theorem dX11_take_48 : decode cX11_take 48 = .ok (.iastore, 1) := by decide +kernel
theorem dX11_take_49 : decode cX11_take 49 = .ok (.aload_n 0, 1) := by decide +kernel
theorem dX11_take_50 : decode cX11_take 50 = .ok (.getfield 7, 3) := by decide +kernel
theorem dX11_take_53 : decode cX11_take 53 = .ok (.bipush 46, 2) := by decide +kernel
theorem dX11_take_55 : decode cX11_take 55 = .ok (.iload_n 2, 1) := by decide +kernel
theorem dX11_take_56 : decode cX11_take 56 = .ok (.iadd, 1) := by decide +kernel
theorem dX11_take_57 : decode cX11_take 57 = .ok (.aload_n 0, 1) := by decide +kernel
theorem dX11_take_58 : decode cX11_take 58 = .ok (.getfield 7, 3) := by decide +kernel
theorem dX11_take_61 : decode cX11_take 61 = .ok (.bipush 46, 2) := by decide +kernel
theorem dX11_take_63 : decode cX11_take 63 = .ok (.iload_n 2, 1) := by decide +kernel
theorem dX11_take_64 : decode cX11_take 64 = .ok (.iadd, 1) := by decide +kernel
theorem dX11_take_65 : decode cX11_take 65 = .ok (.iconst 1, 1) := by decide +kernel
theorem dX11_take_66 : decode cX11_take 66 = .ok (.iadd, 1) := by decide +kernel
theorem dX11_take_67 : decode cX11_take 67 = .ok (.iaload, 1) := by decide +kernel
theorem dX11_take_68 : decode cX11_take 68 = .ok (.iastore, 1) := by decide +kernel
theorem dX11_take_69 : decode cX11_take 69 = .ok (.iinc 2 1, 3) := by decide +kernel
theorem dX11_take_72 : decode cX11_take 72 = .ok (.goto (-55), 3) := by decide +kernel
theorem dX11_take_75 : decode cX11_take 75 = .ok (.aload_n 0, 1) := by decide +kernel
theorem dX11_take_76 : decode cX11_take 76 = .ok (.getfield 7, 3) := by decide +kernel
theorem dX11_take_79 : decode cX11_take 79 = .ok (.iconst 1, 1) := by decide +kernel
theorem dX11_take_80 : decode cX11_take 80 = .ok (.dup2, 1) := by decide +kernel
theorem dX11_take_81 : decode cX11_take 81 = .ok (.iaload, 1) := by decide +kernel
theorem dX11_take_82 : decode cX11_take 82 = .ok (.iconst 1, 1) := by decide +kernel
theorem dX11_take_83 : decode cX11_take 83 = .ok (.isub, 1) := by decide +kernel
theorem dX11_take_84 : decode cX11_take 84 = .ok (.iastore, 1) := by decide +kernel
theorem dX11_take_85 : decode cX11_take 85 = .ok (.aload_n 0, 1) := by decide +kernel
theorem dX11_take_86 : decode cX11_take 86 = .ok (.getfield 7, 3) := by decide +kernel
theorem dX11_take_89 : decode cX11_take 89 = .ok (.iconst 1, 1) := by decide +kernel
theorem dX11_take_90 : decode cX11_take 90 = .ok (.iaload, 1) := by decide +kernel
theorem dX11_take_91 : decode cX11_take 91 = .ok (.ireturn, 1) := by decide +kernel
theorem dX11_move_0 : decode cX11_move 0 = .ok (.aload_n 0, 1) := by decide +kernel
theorem dX11_move_1 : decode cX11_move 1 = .ok (.iload_n 1, 1) := by decide +kernel
theorem dX11_move_2 : decode cX11_move 2 = .ok (.invokevirtual 185, 3) := by decide +kernel
theorem dX11_move_5 : decode cX11_move 5 = .ok (.ifCond .eq 11, 3) := by decide +kernel
theorem dX11_move_8 : decode cX11_move 8 = .ok (.aload_n 0, 1) := by decide +kernel
theorem dX11_move_9 : decode cX11_move 9 = .ok (.iload_n 2, 1) := by decide +kernel
theorem dX11_move_10 : decode cX11_move 10 = .ok (.invokevirtual 164, 3) := by decide +kernel
theorem dX11_move_13 : decode cX11_move 13 = .ok (.ifCond .ne 6, 3) := by decide +kernel
theorem dX11_move_16 : decode cX11_move 16 = .ok (.ldc 188, 2) := by decide +kernel
theorem dX11_move_18 : decode cX11_move 18 = .ok (.ireturn, 1) := by decide +kernel
theorem dX11_move_19 : decode cX11_move 19 = .ok (.aload_n 0, 1) := by decide +kernel
theorem dX11_move_20 : decode cX11_move 20 = .ok (.invokevirtual 153, 3) := by decide +kernel
theorem dX11_move_23 : decode cX11_move 23 = .ok (.aload_n 0, 1) := by decide +kernel
theorem dX11_move_24 : decode cX11_move 24 = .ok (.getfield 7, 3) := by decide +kernel
theorem dX11_move_27 : decode cX11_move 27 = .ok (.bipush 6, 2) := by decide +kernel
theorem dX11_move_29 : decode cX11_move 29 = .ok (.iload_n 1, 1) := by decide +kernel
theorem dX11_move_30 : decode cX11_move 30 = .ok (.iadd, 1) := by decide +kernel
theorem dX11_move_31 : decode cX11_move 31 = .ok (.iaload, 1) := by decide +kernel
theorem dX11_move_32 : decode cX11_move 32 = .ok (.istore_n 3, 1) := by decide +kernel
theorem dX11_move_33 : decode cX11_move 33 = .ok (.aload_n 0, 1) := by decide +kernel
theorem dX11_move_34 : decode cX11_move 34 = .ok (.getfield 7, 3) := by decide +kernel
theorem dX11_move_37 : decode cX11_move 37 = .ok (.bipush 6, 2) := by decide +kernel
theorem dX11_move_39 : decode cX11_move 39 = .ok (.iload_n 1, 1) := by decide +kernel
theorem dX11_move_40 : decode cX11_move 40 = .ok (.iadd, 1) := by decide +kernel
theorem dX11_move_41 : decode cX11_move 41 = .ok (.iload_n 2, 1) := by decide +kernel
theorem dX11_move_42 : decode cX11_move 42 = .ok (.iastore, 1) := by decide +kernel
theorem dX11_move_43 : decode cX11_move 43 = .ok (.iload_n 3, 1) := by decide +kernel
theorem dX11_move_44 : decode cX11_move 44 = .ok (.ireturn, 1) := by decide +kernel
theorem dX11_days_0 : decode cX11_days 0 = .ok (.iload_n 1, 1) := by decide +kernel
theorem dX11_days_1 : decode cX11_days 1 = .ok (.i2l, 1) := by decide +kernel
theorem dX11_days_2 : decode cX11_days 2 = .ok (.lconst 1, 1) := by decide +kernel
theorem dX11_days_3 : decode cX11_days 3 = .ok (.ldc2_w 210, 3) := by decide +kernel
theorem dX11_days_6 : decode cX11_days 6 = .ok (.invokestatic 94, 3) := by decide +kernel
theorem dX11_days_9 : decode cX11_days 9 = .ok (.ifCond .ne 6, 3) := by decide +kernel
theorem dX11_days_12 : decode cX11_days 12 = .ok (.ldc 147, 2) := by decide +kernel
theorem dX11_days_14 : decode cX11_days 14 = .ok (.ireturn, 1) := by decide +kernel
theorem dX11_days_15 : decode cX11_days 15 = .ok (.iconst 0, 1) := by decide +kernel
theorem dX11_days_16 : decode cX11_days 16 = .ok (.istore_n 2, 1) := by decide +kernel
theorem dX11_days_17 : decode cX11_days 17 = .ok (.iload_n 2, 1) := by decide +kernel
theorem dX11_days_18 : decode cX11_days 18 = .ok (.aload_n 0, 1) := by decide +kernel
theorem dX11_days_19 : decode cX11_days 19 = .ok (.getfield 7, 3) := by decide +kernel
theorem dX11_days_22 : decode cX11_days 22 = .ok (.iconst 1, 1) := by decide +kernel
theorem dX11_days_23 : decode cX11_days 23 = .ok (.iaload, 1) := by decide +kernel
theorem dX11_days_24 : decode cX11_days 24 = .ok (.if_icmp .ge 25, 3) := by decide +kernel
theorem dX11_days_27 : decode cX11_days 27 = .ok (.aload_n 0, 1) := by decide +kernel
theorem dX11_days_28 : decode cX11_days 28 = .ok (.getfield 7, 3) := by decide +kernel
theorem dX11_days_31 : decode cX11_days 31 = .ok (.bipush 6, 2) := by decide +kernel
theorem dX11_days_33 : decode cX11_days 33 = .ok (.iload_n 2, 1) := by decide +kernel
theorem dX11_days_34 : decode cX11_days 34 = .ok (.iadd, 1) := by decide +kernel
theorem dX11_days_35 : decode cX11_days 35 = .ok (.iaload, 1) := by decide +kernel
theorem dX11_days_36 : decode cX11_days 36 = .ok (.iload_n 1, 1) := by decide +kernel
theorem dX11_days_37 : decode cX11_days 37 = .ok (.if_icmp .lt 6, 3) := by decide +kernel
theorem dX11_days_40 : decode cX11_days 40 = .ok (.ldc 212, 2) := by decide +kernel
theorem dX11_days_42 : decode cX11_days 42 = .ok (.ireturn, 1) := by decide +kernel
theorem dX11_days_43 : decode cX11_days 43 = .ok (.iinc 2 1, 3) := by decide +kernel
theorem dX11_days_46 : decode cX11_days 46 = .ok (.goto (-29), 3) := by decide +kernel
theorem dX11_days_49 : decode cX11_days 49 = .ok (.aload_n 0, 1) := by decide +kernel
theorem dX11_days_50 : decode cX11_days 50 = .ok (.invokevirtual 153, 3) := by decide +kernel
theorem dX11_days_53 : decode cX11_days 53 = .ok (.aload_n 0, 1) := by decide +kernel
theorem dX11_days_54 : decode cX11_days 54 = .ok (.getfield 7, 3) := by decide +kernel
theorem dX11_days_57 : decode cX11_days 57 = .ok (.iconst 0, 1) := by decide +kernel
theorem dX11_days_58 : decode cX11_days 58 = .ok (.iaload, 1) := by decide +kernel
theorem dX11_days_59 : decode cX11_days 59 = .ok (.istore_n 2, 1) := by decide +kernel
theorem dX11_days_60 : decode cX11_days 60 = .ok (.aload_n 0, 1) := by decide +kernel
theorem dX11_days_61 : decode cX11_days 61 = .ok (.getfield 7, 3) := by decide +kernel
theorem dX11_days_64 : decode cX11_days 64 = .ok (.iconst 0, 1) := by decide +kernel
theorem dX11_days_65 : decode cX11_days 65 = .ok (.iload_n 1, 1) := by decide +kernel
theorem dX11_days_66 : decode cX11_days 66 = .ok (.iastore, 1) := by decide +kernel
theorem dX11_days_67 : decode cX11_days 67 = .ok (.iload_n 2, 1) := by decide +kernel
theorem dX11_days_68 : decode cX11_days 68 = .ok (.ireturn, 1) := by decide +kernel
theorem dX11_term_0 : decode cX11_term 0 = .ok (.iload_n 1, 1) := by decide +kernel
theorem dX11_term_1 : decode cX11_term 1 = .ok (.i2l, 1) := by decide +kernel
theorem dX11_term_2 : decode cX11_term 2 = .ok (.lconst 0, 1) := by decide +kernel
theorem dX11_term_3 : decode cX11_term 3 = .ok (.ldc2_w 213, 3) := by decide +kernel
theorem dX11_term_6 : decode cX11_term 6 = .ok (.invokestatic 94, 3) := by decide +kernel
theorem dX11_term_9 : decode cX11_term 9 = .ok (.ifCond .eq 45, 3) := by decide +kernel
theorem dX11_term_12 : decode cX11_term 12 = .ok (.iload_n 2, 1) := by decide +kernel
theorem dX11_term_13 : decode cX11_term 13 = .ok (.i2l, 1) := by decide +kernel
theorem dX11_term_14 : decode cX11_term 14 = .ok (.iload_n 1, 1) := by decide +kernel
theorem dX11_term_15 : decode cX11_term 15 = .ok (.iconst 3, 1) := by decide +kernel
theorem dX11_term_16 : decode cX11_term 16 = .ok (.if_icmp .ne 7, 3) := by decide +kernel
theorem dX11_term_19 : decode cX11_term 19 = .ok (.lconst 0, 1) := by decide +kernel
theorem dX11_term_20 : decode cX11_term 20 = .ok (.goto 4, 3) := by decide +kernel
theorem dX11_term_23 : decode cX11_term 23 = .ok (.lconst 1, 1) := by decide +kernel
theorem dX11_term_24 : decode cX11_term 24 = .ok (.iload_n 1, 1) := by decide +kernel
theorem dX11_term_25 : decode cX11_term 25 = .ok (.ifCond .ne 9, 3) := by decide +kernel
theorem dX11_term_28 : decode cX11_term 28 = .ok (.ldc2_w 213, 3) := by decide +kernel
theorem dX11_term_31 : decode cX11_term 31 = .ok (.goto 17, 3) := by decide +kernel
theorem dX11_term_34 : decode cX11_term 34 = .ok (.iload_n 1, 1) := by decide +kernel
theorem dX11_term_35 : decode cX11_term 35 = .ok (.iconst 3, 1) := by decide +kernel
theorem dX11_term_36 : decode cX11_term 36 = .ok (.if_icmp .ne 9, 3) := by decide +kernel
theorem dX11_term_39 : decode cX11_term 39 = .ok (.ldc2_w 215, 3) := by decide +kernel
theorem dX11_term_42 : decode cX11_term 42 = .ok (.goto 6, 3) := by decide +kernel
theorem dX11_term_45 : decode cX11_term 45 = .ok (.ldc2_w 217, 3) := by decide +kernel
theorem dX11_term_48 : decode cX11_term 48 = .ok (.invokestatic 94, 3) := by decide +kernel
theorem dX11_term_51 : decode cX11_term 51 = .ok (.ifCond .ne 6, 3) := by decide +kernel
theorem dX11_term_54 : decode cX11_term 54 = .ok (.ldc 147, 2) := by decide +kernel
theorem dX11_term_56 : decode cX11_term 56 = .ok (.ireturn, 1) := by decide +kernel
theorem dX11_term_57 : decode cX11_term 57 = .ok (.aload_n 0, 1) := by decide +kernel
theorem dX11_term_58 : decode cX11_term 58 = .ok (.invokevirtual 153, 3) := by decide +kernel
theorem dX11_term_61 : decode cX11_term 61 = .ok (.aload_n 0, 1) := by decide +kernel
theorem dX11_term_62 : decode cX11_term 62 = .ok (.getfield 7, 3) := by decide +kernel
theorem dX11_term_65 : decode cX11_term 65 = .ok (.iconst 2, 1) := by decide +kernel
theorem dX11_term_66 : decode cX11_term 66 = .ok (.iload_n 1, 1) := by decide +kernel
theorem dX11_term_67 : decode cX11_term 67 = .ok (.iadd, 1) := by decide +kernel
theorem dX11_term_68 : decode cX11_term 68 = .ok (.iaload, 1) := by decide +kernel
theorem dX11_term_69 : decode cX11_term 69 = .ok (.istore_n 3, 1) := by decide +kernel
theorem dX11_term_70 : decode cX11_term 70 = .ok (.aload_n 0, 1) := by decide +kernel
theorem dX11_term_71 : decode cX11_term 71 = .ok (.getfield 7, 3) := by decide +kernel
theorem dX11_term_74 : decode cX11_term 74 = .ok (.iconst 2, 1) := by decide +kernel
theorem dX11_term_75 : decode cX11_term 75 = .ok (.iload_n 1, 1) := by decide +kernel
theorem dX11_term_76 : decode cX11_term 76 = .ok (.iadd, 1) := by decide +kernel
theorem dX11_term_77 : decode cX11_term 77 = .ok (.iload_n 2, 1) := by decide +kernel
theorem dX11_term_78 : decode cX11_term 78 = .ok (.iastore, 1) := by decide +kernel
theorem dX11_term_79 : decode cX11_term 79 = .ok (.iload_n 3, 1) := by decide +kernel
theorem dX11_term_80 : decode cX11_term 80 = .ok (.ireturn, 1) := by decide +kernel
theorem dX11_draw_0 : decode cX11_draw 0 = .ok (.aload_n 0, 1) := by decide +kernel
theorem dX11_draw_1 : decode cX11_draw 1 = .ok (.aload_n 0, 1) := by decide +kernel
theorem dX11_draw_2 : decode cX11_draw 2 = .ok (.getfield 173, 3) := by decide +kernel
theorem dX11_draw_5 : decode cX11_draw 5 = .ok (.i2l, 1) := by decide +kernel
theorem dX11_draw_6 : decode cX11_draw 6 = .ok (.ldc2_w 219, 3) := by decide +kernel
theorem dX11_draw_9 : decode cX11_draw 9 = .ok (.lmul, 1) := by decide +kernel
theorem dX11_draw_10 : decode cX11_draw 10 = .ok (.ldc2_w 221, 3) := by decide +kernel
theorem dX11_draw_13 : decode cX11_draw 13 = .ok (.ladd, 1) := by decide +kernel
theorem dX11_draw_14 : decode cX11_draw 14 = .ok (.ldc2_w 223, 3) := by decide +kernel
theorem dX11_draw_17 : decode cX11_draw 17 = .ok (.lrem, 1) := by decide +kernel
theorem dX11_draw_18 : decode cX11_draw 18 = .ok (.l2i, 1) := by decide +kernel
theorem dX11_draw_19 : decode cX11_draw 19 = .ok (.putfield 173, 3) := by decide +kernel
theorem dX11_draw_22 : decode cX11_draw 22 = .ok (.aload_n 0, 1) := by decide +kernel
theorem dX11_draw_23 : decode cX11_draw 23 = .ok (.getfield 173, 3) := by decide +kernel
theorem dX11_draw_26 : decode cX11_draw 26 = .ok (.ldc 225, 2) := by decide +kernel
theorem dX11_draw_28 : decode cX11_draw 28 = .ok (.idiv, 1) := by decide +kernel
theorem dX11_draw_29 : decode cX11_draw 29 = .ok (.iload_n 1, 1) := by decide +kernel
theorem dX11_draw_30 : decode cX11_draw 30 = .ok (.irem, 1) := by decide +kernel
theorem dX11_draw_31 : decode cX11_draw 31 = .ok (.ireturn, 1) := by decide +kernel
theorem dX11_drift_0 : decode cX11_drift 0 = .ok (.iload_n 1, 1) := by decide +kernel
theorem dX11_drift_1 : decode cX11_drift 1 = .ok (.i2l, 1) := by decide +kernel
theorem dX11_drift_2 : decode cX11_drift 2 = .ok (.lconst 1, 1) := by decide +kernel
theorem dX11_drift_3 : decode cX11_drift 3 = .ok (.ldc2_w 210, 3) := by decide +kernel
theorem dX11_drift_6 : decode cX11_drift 6 = .ok (.invokestatic 94, 3) := by decide +kernel
theorem dX11_drift_9 : decode cX11_drift 9 = .ok (.ifCond .ne 6, 3) := by decide +kernel
theorem dX11_drift_12 : decode cX11_drift 12 = .ok (.ldc 147, 2) := by decide +kernel
theorem dX11_drift_14 : decode cX11_drift 14 = .ok (.ireturn, 1) := by decide +kernel
theorem dX11_drift_15 : decode cX11_drift 15 = .ok (.iconst 0, 1) := by decide +kernel
theorem dX11_drift_16 : decode cX11_drift 16 = .ok (.istore_n 2, 1) := by decide +kernel
theorem dX11_drift_17 : decode cX11_drift 17 = .ok (.iload_n 2, 1) := by decide +kernel
theorem dX11_drift_18 : decode cX11_drift 18 = .ok (.iload_n 1, 1) := by decide +kernel
theorem dX11_drift_19 : decode cX11_drift 19 = .ok (.if_icmp .ge 47, 3) := by decide +kernel
theorem dX11_drift_22 : decode cX11_drift 22 = .ok (.aload_n 0, 1) := by decide +kernel
theorem dX11_drift_23 : decode cX11_drift 23 = .ok (.getfield 7, 3) := by decide +kernel
theorem dX11_drift_26 : decode cX11_drift 26 = .ok (.iconst 1, 1) := by decide +kernel
theorem dX11_drift_27 : decode cX11_drift 27 = .ok (.iaload, 1) := by decide +kernel
theorem dX11_drift_28 : decode cX11_drift 28 = .ok (.bipush 40, 2) := by decide +kernel
theorem dX11_drift_30 : decode cX11_drift 30 = .ok (.if_icmp .ge 36, 3) := by decide +kernel
theorem dX11_drift_33 : decode cX11_drift 33 = .ok (.aload_n 0, 1) := by decide +kernel
theorem dX11_drift_34 : decode cX11_drift 34 = .ok (.invokevirtual 153, 3) := by decide +kernel
theorem dX11_drift_37 : decode cX11_drift 37 = .ok (.aload_n 0, 1) := by decide +kernel
theorem dX11_drift_38 : decode cX11_drift 38 = .ok (.aload_n 0, 1) := by decide +kernel
theorem dX11_drift_39 : decode cX11_drift 39 = .ok (.getfield 7, 3) := by decide +kernel
theorem dX11_drift_42 : decode cX11_drift 42 = .ok (.iconst 0, 1) := by decide +kernel
theorem dX11_drift_43 : decode cX11_drift 43 = .ok (.iaload, 1) := by decide +kernel
theorem dX11_drift_44 : decode cX11_drift 44 = .ok (.invokevirtual 226, 3) := by decide +kernel
theorem dX11_drift_47 : decode cX11_drift 47 = .ok (.istore_n 3, 1) := by decide +kernel
theorem dX11_drift_48 : decode cX11_drift 48 = .ok (.aload_n 0, 1) := by decide +kernel
theorem dX11_drift_49 : decode cX11_drift 49 = .ok (.iload_n 3, 1) := by decide +kernel
theorem dX11_drift_50 : decode cX11_drift 50 = .ok (.aload_n 0, 1) := by decide +kernel
theorem dX11_drift_51 : decode cX11_drift 51 = .ok (.sipush 256, 3) := by decide +kernel
theorem dX11_drift_54 : decode cX11_drift 54 = .ok (.invokevirtual 226, 3) := by decide +kernel
theorem dX11_drift_57 : decode cX11_drift 57 = .ok (.invokevirtual 156, 3) := by decide +kernel
theorem dX11_drift_60 : decode cX11_drift 60 = .ok (.iinc 2 1, 3) := by decide +kernel
theorem dX11_drift_63 : decode cX11_drift 63 = .ok (.goto (-46), 3) := by decide +kernel
theorem dX11_drift_66 : decode cX11_drift 66 = .ok (.aload_n 0, 1) := by decide +kernel
theorem dX11_drift_67 : decode cX11_drift 67 = .ok (.getfield 7, 3) := by decide +kernel
theorem dX11_drift_70 : decode cX11_drift 70 = .ok (.iconst 1, 1) := by decide +kernel
theorem dX11_drift_71 : decode cX11_drift 71 = .ok (.iaload, 1) := by decide +kernel
theorem dX11_drift_72 : decode cX11_drift 72 = .ok (.ireturn, 1) := by decide +kernel
theorem dX11_undo_0 : decode cX11_undo 0 = .ok (.iload_n 1, 1) := by decide +kernel
theorem dX11_undo_1 : decode cX11_undo 1 = .ok (.i2l, 1) := by decide +kernel
theorem dX11_undo_2 : decode cX11_undo 2 = .ok (.lconst 1, 1) := by decide +kernel
theorem dX11_undo_3 : decode cX11_undo 3 = .ok (.ldc2_w 229, 3) := by decide +kernel
theorem dX11_undo_6 : decode cX11_undo 6 = .ok (.invokestatic 94, 3) := by decide +kernel
theorem dX11_undo_9 : decode cX11_undo 9 = .ok (.ifCond .ne 6, 3) := by decide +kernel
theorem dX11_undo_12 : decode cX11_undo 12 = .ok (.ldc 147, 2) := by decide +kernel
theorem dX11_undo_14 : decode cX11_undo 14 = .ok (.ireturn, 1) := by decide +kernel
theorem dX11_undo_15 : decode cX11_undo 15 = .ok (.iload_n 1, 1) := by decide +kernel
theorem dX11_undo_16 : decode cX11_undo 16 = .ok (.aload_n 0, 1) := by decide +kernel
theorem dX11_undo_17 : decode cX11_undo 17 = .ok (.getfield 63, 3) := by decide +kernel
theorem dX11_undo_20 : decode cX11_undo 20 = .ok (.if_icmp .le 6, 3) := by decide +kernel
theorem dX11_undo_23 : decode cX11_undo 23 = .ok (.ldc 212, 2) := by decide +kernel
theorem dX11_undo_25 : decode cX11_undo 25 = .ok (.ireturn, 1) := by decide +kernel
theorem dX11_undo_26 : decode cX11_undo 26 = .ok (.iconst 0, 1) := by decide +kernel
theorem dX11_undo_27 : decode cX11_undo 27 = .ok (.istore_n 2, 1) := by decide +kernel
theorem dX11_undo_28 : decode cX11_undo 28 = .ok (.iload_n 2, 1) := by decide +kernel
theorem dX11_undo_29 : decode cX11_undo 29 = .ok (.iload_n 1, 1) := by decide +kernel
theorem dX11_undo_30 : decode cX11_undo 30 = .ok (.iadd, 1) := by decide +kernel
theorem dX11_undo_31 : decode cX11_undo 31 = .ok (.bipush 16, 2) := by decide +kernel
theorem dX11_undo_33 : decode cX11_undo 33 = .ok (.if_icmp .gt 23, 3) := by decide +kernel
theorem dX11_undo_36 : decode cX11_undo 36 = .ok (.aload_n 0, 1) := by decide +kernel
theorem dX11_undo_37 : decode cX11_undo 37 = .ok (.bipush 86, 2) := by decide +kernel
theorem dX11_undo_39 : decode cX11_undo 39 = .ok (.iload_n 2, 1) := by decide +kernel
theorem dX11_undo_40 : decode cX11_undo 40 = .ok (.iload_n 1, 1) := by decide +kernel
theorem dX11_undo_41 : decode cX11_undo 41 = .ok (.iadd, 1) := by decide +kernel
theorem dX11_undo_42 : decode cX11_undo 42 = .ok (.imul, 1) := by decide +kernel
theorem dX11_undo_43 : decode cX11_undo 43 = .ok (.bipush 86, 2) := by decide +kernel
theorem dX11_undo_45 : decode cX11_undo 45 = .ok (.iload_n 2, 1) := by decide +kernel
theorem dX11_undo_46 : decode cX11_undo 46 = .ok (.imul, 1) := by decide +kernel
theorem dX11_undo_47 : decode cX11_undo 47 = .ok (.invokevirtual 59, 3) := by decide +kernel
theorem dX11_undo_50 : decode cX11_undo 50 = .ok (.iinc 2 1, 3) := by decide +kernel
theorem dX11_undo_53 : decode cX11_undo 53 = .ok (.goto (-25), 3) := by decide +kernel
theorem dX11_undo_56 : decode cX11_undo 56 = .ok (.aload_n 0, 1) := by decide +kernel
theorem dX11_undo_57 : decode cX11_undo 57 = .ok (.dup, 1) := by decide +kernel
theorem dX11_undo_58 : decode cX11_undo 58 = .ok (.getfield 63, 3) := by decide +kernel
theorem dX11_undo_61 : decode cX11_undo 61 = .ok (.iload_n 1, 1) := by decide +kernel
theorem dX11_undo_62 : decode cX11_undo 62 = .ok (.isub, 1) := by decide +kernel
theorem dX11_undo_63 : decode cX11_undo 63 = .ok (.putfield 63, 3) := by decide +kernel
theorem dX11_undo_66 : decode cX11_undo 66 = .ok (.aload_n 0, 1) := by decide +kernel
theorem dX11_undo_67 : decode cX11_undo 67 = .ok (.getfield 7, 3) := by decide +kernel
theorem dX11_undo_70 : decode cX11_undo 70 = .ok (.iconst 1, 1) := by decide +kernel
theorem dX11_undo_71 : decode cX11_undo 71 = .ok (.iaload, 1) := by decide +kernel
theorem dX11_undo_72 : decode cX11_undo 72 = .ok (.ireturn, 1) := by decide +kernel
theorem dX11_write_0 : decode cX11_write 0 = .ok (.iload_n 1, 1) := by decide +kernel
theorem dX11_write_1 : decode cX11_write 1 = .ok (.invokestatic 195, 3) := by decide +kernel
theorem dX11_write_4 : decode cX11_write 4 = .ok (.ifCond .eq 11, 3) := by decide +kernel
theorem dX11_write_7 : decode cX11_write 7 = .ok (.aload_n 0, 1) := by decide +kernel
theorem dX11_write_8 : decode cX11_write 8 = .ok (.iload_n 2, 1) := by decide +kernel
theorem dX11_write_9 : decode cX11_write 9 = .ok (.invokevirtual 164, 3) := by decide +kernel
theorem dX11_write_12 : decode cX11_write 12 = .ok (.ifCond .ne 6, 3) := by decide +kernel
theorem dX11_write_15 : decode cX11_write 15 = .ok (.ldc 188, 2) := by decide +kernel
theorem dX11_write_17 : decode cX11_write 17 = .ok (.ireturn, 1) := by decide +kernel
theorem dX11_write_18 : decode cX11_write 18 = .ok (.aload_n 0, 1) := by decide +kernel
theorem dX11_write_19 : decode cX11_write 19 = .ok (.getfield 161, 3) := by decide +kernel
theorem dX11_write_22 : decode cX11_write 22 = .ok (.bipush 20, 2) := by decide +kernel
theorem dX11_write_24 : decode cX11_write 24 = .ok (.if_icmp .ne 6, 3) := by decide +kernel
theorem dX11_write_27 : decode cX11_write 27 = .ok (.ldc 148, 2) := by decide +kernel
theorem dX11_write_29 : decode cX11_write 29 = .ok (.ireturn, 1) := by decide +kernel
theorem dX11_write_30 : decode cX11_write 30 = .ok (.aload_n 0, 1) := by decide +kernel
theorem dX11_write_31 : decode cX11_write 31 = .ok (.getfield 23, 3) := by decide +kernel
theorem dX11_write_34 : decode cX11_write 34 = .ok (.aload_n 0, 1) := by decide +kernel
theorem dX11_write_35 : decode cX11_write 35 = .ok (.getfield 161, 3) := by decide +kernel
theorem dX11_write_38 : decode cX11_write 38 = .ok (.iload_n 1, 1) := by decide +kernel
theorem dX11_write_39 : decode cX11_write 39 = .ok (.iastore, 1) := by decide +kernel
theorem dX11_write_40 : decode cX11_write 40 = .ok (.aload_n 0, 1) := by decide +kernel
theorem dX11_write_41 : decode cX11_write 41 = .ok (.getfield 26, 3) := by decide +kernel
theorem dX11_write_44 : decode cX11_write 44 = .ok (.aload_n 0, 1) := by decide +kernel
theorem dX11_write_45 : decode cX11_write 45 = .ok (.getfield 161, 3) := by decide +kernel
theorem dX11_write_48 : decode cX11_write 48 = .ok (.iload_n 2, 1) := by decide +kernel
theorem dX11_write_49 : decode cX11_write 49 = .ok (.iastore, 1) := by decide +kernel
theorem dX11_write_50 : decode cX11_write 50 = .ok (.aload_n 0, 1) := by decide +kernel
theorem dX11_write_51 : decode cX11_write 51 = .ok (.getfield 29, 3) := by decide +kernel
theorem dX11_write_54 : decode cX11_write 54 = .ok (.aload_n 0, 1) := by decide +kernel
theorem dX11_write_55 : decode cX11_write 55 = .ok (.getfield 161, 3) := by decide +kernel
theorem dX11_write_58 : decode cX11_write 58 = .ok (.iload_n 3, 1) := by decide +kernel
theorem dX11_write_59 : decode cX11_write 59 = .ok (.iastore, 1) := by decide +kernel
theorem dX11_write_60 : decode cX11_write 60 = .ok (.aload_n 0, 1) := by decide +kernel
theorem dX11_write_61 : decode cX11_write 61 = .ok (.dup, 1) := by decide +kernel
theorem dX11_write_62 : decode cX11_write 62 = .ok (.getfield 161, 3) := by decide +kernel
theorem dX11_write_65 : decode cX11_write 65 = .ok (.iconst 1, 1) := by decide +kernel
theorem dX11_write_66 : decode cX11_write 66 = .ok (.iadd, 1) := by decide +kernel
theorem dX11_write_67 : decode cX11_write 67 = .ok (.putfield 161, 3) := by decide +kernel
theorem dX11_write_70 : decode cX11_write 70 = .ok (.aload_n 0, 1) := by decide +kernel
theorem dX11_write_71 : decode cX11_write 71 = .ok (.getfield 161, 3) := by decide +kernel
theorem dX11_write_74 : decode cX11_write 74 = .ok (.ireturn, 1) := by decide +kernel
theorem dX11_tear_0 : decode cX11_tear 0 = .ok (.aload_n 0, 1) := by decide +kernel
theorem dX11_tear_1 : decode cX11_tear 1 = .ok (.getfield 161, 3) := by decide +kernel
theorem dX11_tear_4 : decode cX11_tear 4 = .ok (.istore_n 1, 1) := by decide +kernel
theorem dX11_tear_5 : decode cX11_tear 5 = .ok (.aload_n 0, 1) := by decide +kernel
theorem dX11_tear_6 : decode cX11_tear 6 = .ok (.iconst 0, 1) := by decide +kernel
theorem dX11_tear_7 : decode cX11_tear 7 = .ok (.putfield 161, 3) := by decide +kernel
theorem dX11_tear_10 : decode cX11_tear 10 = .ok (.iload_n 1, 1) := by decide +kernel
theorem dX11_tear_11 : decode cX11_tear 11 = .ok (.ireturn, 1) := by decide +kernel
theorem dX11_seed_0 : decode cX11_seed 0 = .ok (.iload_n 1, 1) := by decide +kernel
theorem dX11_seed_1 : decode cX11_seed 1 = .ok (.ifCond .ge 6, 3) := by decide +kernel
theorem dX11_seed_4 : decode cX11_seed 4 = .ok (.ldc 147, 2) := by decide +kernel
theorem dX11_seed_6 : decode cX11_seed 6 = .ok (.ireturn, 1) := by decide +kernel
theorem dX11_seed_7 : decode cX11_seed 7 = .ok (.aload_n 0, 1) := by decide +kernel
theorem dX11_seed_8 : decode cX11_seed 8 = .ok (.getfield 173, 3) := by decide +kernel
theorem dX11_seed_11 : decode cX11_seed 11 = .ok (.istore_n 2, 1) := by decide +kernel
theorem dX11_seed_12 : decode cX11_seed 12 = .ok (.aload_n 0, 1) := by decide +kernel
theorem dX11_seed_13 : decode cX11_seed 13 = .ok (.iload_n 1, 1) := by decide +kernel
theorem dX11_seed_14 : decode cX11_seed 14 = .ok (.putfield 173, 3) := by decide +kernel
theorem dX11_seed_17 : decode cX11_seed 17 = .ok (.iload_n 2, 1) := by decide +kernel
theorem dX11_seed_18 : decode cX11_seed 18 = .ok (.ireturn, 1) := by decide +kernel
theorem dX11_keep_0 : decode cX11_keep 0 = .ok (.iload_n 1, 1) := by decide +kernel
theorem dX11_keep_1 : decode cX11_keep 1 = .ok (.i2l, 1) := by decide +kernel
theorem dX11_keep_2 : decode cX11_keep 2 = .ok (.lconst 0, 1) := by decide +kernel
theorem dX11_keep_3 : decode cX11_keep 3 = .ok (.lconst 1, 1) := by decide +kernel
theorem dX11_keep_4 : decode cX11_keep 4 = .ok (.invokestatic 94, 3) := by decide +kernel
theorem dX11_keep_7 : decode cX11_keep 7 = .ok (.ifCond .ne 6, 3) := by decide +kernel
theorem dX11_keep_10 : decode cX11_keep 10 = .ok (.ldc 188, 2) := by decide +kernel
theorem dX11_keep_12 : decode cX11_keep 12 = .ok (.ireturn, 1) := by decide +kernel
theorem dX11_keep_13 : decode cX11_keep 13 = .ok (.aload_n 0, 1) := by decide +kernel
theorem dX11_keep_14 : decode cX11_keep 14 = .ok (.iconst 0, 1) := by decide +kernel
theorem dX11_keep_15 : decode cX11_keep 15 = .ok (.sipush 1462, 3) := by decide +kernel
theorem dX11_keep_18 : decode cX11_keep 18 = .ok (.bipush 86, 2) := by decide +kernel
theorem dX11_keep_20 : decode cX11_keep 20 = .ok (.iload_n 1, 1) := by decide +kernel
theorem dX11_keep_21 : decode cX11_keep 21 = .ok (.imul, 1) := by decide +kernel
theorem dX11_keep_22 : decode cX11_keep 22 = .ok (.iadd, 1) := by decide +kernel
theorem dX11_keep_23 : decode cX11_keep 23 = .ok (.invokevirtual 59, 3) := by decide +kernel
theorem dX11_keep_26 : decode cX11_keep 26 = .ok (.aload_n 0, 1) := by decide +kernel
theorem dX11_keep_27 : decode cX11_keep 27 = .ok (.getfield 13, 3) := by decide +kernel
theorem dX11_keep_30 : decode cX11_keep 30 = .ok (.iload_n 1, 1) := by decide +kernel
theorem dX11_keep_31 : decode cX11_keep 31 = .ok (.aload_n 0, 1) := by decide +kernel
theorem dX11_keep_32 : decode cX11_keep 32 = .ok (.getfield 173, 3) := by decide +kernel
theorem dX11_keep_35 : decode cX11_keep 35 = .ok (.iastore, 1) := by decide +kernel
theorem dX11_keep_36 : decode cX11_keep 36 = .ok (.aload_n 0, 1) := by decide +kernel
theorem dX11_keep_37 : decode cX11_keep 37 = .ok (.dup, 1) := by decide +kernel
theorem dX11_keep_38 : decode cX11_keep 38 = .ok (.getfield 231, 3) := by decide +kernel
theorem dX11_keep_41 : decode cX11_keep 41 = .ok (.iconst 1, 1) := by decide +kernel
theorem dX11_keep_42 : decode cX11_keep 42 = .ok (.iload_n 1, 1) := by decide +kernel
theorem dX11_keep_43 : decode cX11_keep 43 = .ok (.ishl, 1) := by decide +kernel
theorem dX11_keep_44 : decode cX11_keep 44 = .ok (.ior, 1) := by decide +kernel
theorem dX11_keep_45 : decode cX11_keep 45 = .ok (.putfield 231, 3) := by decide +kernel
theorem dX11_keep_48 : decode cX11_keep 48 = .ok (.aload_n 0, 1) := by decide +kernel
theorem dX11_keep_49 : decode cX11_keep 49 = .ok (.iconst 0, 1) := by decide +kernel
theorem dX11_keep_50 : decode cX11_keep 50 = .ok (.putfield 63, 3) := by decide +kernel
theorem dX11_keep_53 : decode cX11_keep 53 = .ok (.iconst 1, 1) := by decide +kernel
theorem dX11_keep_54 : decode cX11_keep 54 = .ok (.ireturn, 1) := by decide +kernel
theorem dX11_goBack_0 : decode cX11_goBack 0 = .ok (.iload_n 1, 1) := by decide +kernel
theorem dX11_goBack_1 : decode cX11_goBack 1 = .ok (.i2l, 1) := by decide +kernel
theorem dX11_goBack_2 : decode cX11_goBack 2 = .ok (.lconst 0, 1) := by decide +kernel
theorem dX11_goBack_3 : decode cX11_goBack 3 = .ok (.lconst 1, 1) := by decide +kernel
theorem dX11_goBack_4 : decode cX11_goBack 4 = .ok (.invokestatic 94, 3) := by decide +kernel
theorem dX11_goBack_7 : decode cX11_goBack 7 = .ok (.ifCond .ne 6, 3) := by decide +kernel
theorem dX11_goBack_10 : decode cX11_goBack 10 = .ok (.ldc 188, 2) := by decide +kernel
theorem dX11_goBack_12 : decode cX11_goBack 12 = .ok (.ireturn, 1) := by decide +kernel
theorem dX11_goBack_13 : decode cX11_goBack 13 = .ok (.aload_n 0, 1) := by decide +kernel
theorem dX11_goBack_14 : decode cX11_goBack 14 = .ok (.getfield 231, 3) := by decide +kernel
theorem dX11_goBack_17 : decode cX11_goBack 17 = .ok (.iload_n 1, 1) := by decide +kernel
theorem dX11_goBack_18 : decode cX11_goBack 18 = .ok (.invokestatic 234, 3) := by decide +kernel
theorem dX11_goBack_21 : decode cX11_goBack 21 = .ok (.ifCond .ne 6, 3) := by decide +kernel
theorem dX11_goBack_24 : decode cX11_goBack 24 = .ok (.ldc 212, 2) := by decide +kernel
theorem dX11_goBack_26 : decode cX11_goBack 26 = .ok (.ireturn, 1) := by decide +kernel
theorem dX11_goBack_27 : decode cX11_goBack 27 = .ok (.aload_n 0, 1) := by decide +kernel
theorem dX11_goBack_28 : decode cX11_goBack 28 = .ok (.sipush 1462, 3) := by decide +kernel
theorem dX11_goBack_31 : decode cX11_goBack 31 = .ok (.bipush 86, 2) := by decide +kernel
theorem dX11_goBack_33 : decode cX11_goBack 33 = .ok (.iload_n 1, 1) := by decide +kernel
theorem dX11_goBack_34 : decode cX11_goBack 34 = .ok (.imul, 1) := by decide +kernel
theorem dX11_goBack_35 : decode cX11_goBack 35 = .ok (.iadd, 1) := by decide +kernel
theorem dX11_goBack_36 : decode cX11_goBack 36 = .ok (.iconst 0, 1) := by decide +kernel
theorem dX11_goBack_37 : decode cX11_goBack 37 = .ok (.invokevirtual 59, 3) := by decide +kernel
theorem dX11_goBack_40 : decode cX11_goBack 40 = .ok (.aload_n 0, 1) := by decide +kernel
theorem dX11_goBack_41 : decode cX11_goBack 41 = .ok (.aload_n 0, 1) := by decide +kernel
theorem dX11_goBack_42 : decode cX11_goBack 42 = .ok (.getfield 13, 3) := by decide +kernel
theorem dX11_goBack_45 : decode cX11_goBack 45 = .ok (.iload_n 1, 1) := by decide +kernel
theorem dX11_goBack_46 : decode cX11_goBack 46 = .ok (.iaload, 1) := by decide +kernel
theorem dX11_goBack_47 : decode cX11_goBack 47 = .ok (.putfield 173, 3) := by decide +kernel
theorem dX11_goBack_50 : decode cX11_goBack 50 = .ok (.aload_n 0, 1) := by decide +kernel
theorem dX11_goBack_51 : decode cX11_goBack 51 = .ok (.iconst 0, 1) := by decide +kernel
theorem dX11_goBack_52 : decode cX11_goBack 52 = .ok (.putfield 63, 3) := by decide +kernel
theorem dX11_goBack_55 : decode cX11_goBack 55 = .ok (.iconst 1, 1) := by decide +kernel
theorem dX11_goBack_56 : decode cX11_goBack 56 = .ok (.ireturn, 1) := by decide +kernel
