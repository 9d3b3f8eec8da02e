theorem dX10_init_0 : decode cX10_init 0 = .ok (.aload_n 0, 1) := by decide +kernel
theorem dX10_init_1 : decode cX10_init 1 = .ok (.invokespecial 1, 3) := by decide +kernel
theorem dX10_init_4 : decode cX10_init 4 = .ok (.aload_n 0, 1) := by decide +kernel
theorem dX10_init_5 : decode cX10_init 5 = .ok (.new 7, 3) := by decide +kernel
theorem dX10_init_8 : decode cX10_init 8 = .ok (.dup, 1) := by decide +kernel
theorem dX10_init_9 : decode cX10_init 9 = .ok (.invokespecial 9, 3) := by decide +kernel
theorem dX10_init_12 : decode cX10_init 12 = .ok (.putfield 10, 3) := by decide +kernel
theorem dX10_init_15 : decode cX10_init 15 = .ok (.aload_n 0, 1) := by decide +kernel
theorem dX10_init_16 : decode cX10_init 16 = .ok (.new 16, 3) := by decide +kernel
theorem dX10_init_19 : decode cX10_init 19 = .ok (.dup, 1) := by decide +kernel
theorem dX10_init_20 : decode cX10_init 20 = .ok (.invokespecial 18, 3) := by decide +kernel
theorem dX10_init_23 : decode cX10_init 23 = .ok (.putfield 19, 3) := by decide +kernel
theorem dX10_init_26 : decode cX10_init 26 = .ok (.aload_n 0, 1) := by decide +kernel
theorem dX10_init_27 : decode cX10_init 27 = .ok (.new 23, 3) := by decide +kernel
theorem dX10_init_30 : decode cX10_init 30 = .ok (.dup, 1) := by decide +kernel
theorem dX10_init_31 : decode cX10_init 31 = .ok (.invokespecial 25, 3) := by decide +kernel
theorem dX10_init_34 : decode cX10_init 34 = .ok (.putfield 26, 3) := by decide +kernel
theorem dX10_init_37 : decode cX10_init 37 = .ok (.aload_n 0, 1) := by decide +kernel
theorem dX10_init_38 : decode cX10_init 38 = .ok (.new 30, 3) := by decide +kernel
theorem dX10_init_41 : decode cX10_init 41 = .ok (.dup, 1) := by decide +kernel
theorem dX10_init_42 : decode cX10_init 42 = .ok (.invokespecial 32, 3) := by decide +kernel
theorem dX10_init_45 : decode cX10_init 45 = .ok (.putfield 33, 3) := by decide +kernel
theorem dX10_init_48 : decode cX10_init 48 = .ok (.aload_n 0, 1) := by decide +kernel
theorem dX10_init_49 : decode cX10_init 49 = .ok (.new 37, 3) := by decide +kernel
theorem dX10_init_52 : decode cX10_init 52 = .ok (.dup, 1) := by decide +kernel
theorem dX10_init_53 : decode cX10_init 53 = .ok (.invokespecial 39, 3) := by decide +kernel
theorem dX10_init_56 : decode cX10_init 56 = .ok (.putfield 40, 3) := by decide +kernel
theorem dX10_init_59 : decode cX10_init 59 = .ok (.aload_n 0, 1) := by decide +kernel
theorem dX10_init_60 : decode cX10_init 60 = .ok (.iconst 2, 1) := by decide +kernel
theorem dX10_init_61 : decode cX10_init 61 = .ok (.anewarray 44, 3) := by decide +kernel
theorem dX10_init_64 : decode cX10_init 64 = .ok (.putfield 46, 3) := by decide +kernel
theorem dX10_init_67 : decode cX10_init 67 = .ok (.aload_n 0, 1) := by decide +kernel
theorem dX10_init_68 : decode cX10_init 68 = .ok (.iconst 0, 1) := by decide +kernel
theorem dX10_init_69 : decode cX10_init 69 = .ok (.putfield 50, 3) := by decide +kernel
theorem dX10_init_72 : decode cX10_init 72 = .ok (.aload_n 0, 1) := by decide +kernel
theorem dX10_init_73 : decode cX10_init 73 = .ok (.iconst (-1), 1) := by decide +kernel
theorem dX10_init_74 : decode cX10_init 74 = .ok (.putfield 54, 3) := by decide +kernel
theorem dX10_init_77 : decode cX10_init 77 = .ok (.aload_n 0, 1) := by decide +kernel
theorem dX10_init_78 : decode cX10_init 78 = .ok (.iconst 1, 1) := by decide +kernel
theorem dX10_init_79 : decode cX10_init 79 = .ok (.putfield 57, 3) := by decide +kernel
theorem dX10_init_82 : decode cX10_init 82 = .ok (.iconst 0, 1) := by decide +kernel
theorem dX10_init_83 : decode cX10_init 83 = .ok (.istore_n 1, 1) := by decide +kernel
theorem dX10_init_84 : decode cX10_init 84 = .ok (.iload_n 1, 1) := by decide +kernel
theorem dX10_init_85 : decode cX10_init 85 = .ok (.iconst 2, 1) := by decide +kernel
theorem dX10_init_86 : decode cX10_init 86 = .ok (.if_icmp .ge 22, 3) := by decide +kernel
theorem dX10_init_89 : decode cX10_init 89 = .ok (.aload_n 0, 1) := by decide +kernel
theorem dX10_init_90 : decode cX10_init 90 = .ok (.getfield 46, 3) := by decide +kernel
theorem dX10_init_93 : decode cX10_init 93 = .ok (.iload_n 1, 1) := by decide +kernel
theorem dX10_init_94 : decode cX10_init 94 = .ok (.new 44, 3) := by decide +kernel
theorem dX10_init_97 : decode cX10_init 97 = .ok (.dup, 1) := by decide +kernel
theorem dX10_init_98 : decode cX10_init 98 = .ok (.invokespecial 61, 3) := by decide +kernel
theorem dX10_init_101 : decode cX10_init 101 = .ok (.aastore, 1) := by decide +kernel
theorem dX10_init_102 : decode cX10_init 102 = .ok (.iinc 1 1, 3) := by decide +kernel
theorem dX10_init_105 : decode cX10_init 105 = .ok (.goto (-21), 3) := by decide +kernel
theorem dX10_init_108 : decode cX10_init 108 = .ok (.return_, 1) := by decide +kernel
theorem dX10_feed_0 : decode cX10_feed 0 = .ok (.iload_n 1, 1) := by decide +kernel
theorem dX10_feed_1 : decode cX10_feed 1 = .ok (.ifCond .lt 10, 3) := by decide +kernel
theorem dX10_feed_4 : decode cX10_feed 4 = .ok (.iload_n 1, 1) := by decide +kernel
theorem dX10_feed_5 : decode cX10_feed 5 = .ok (.sipush 256, 3) := by decide +kernel
theorem dX10_feed_8 : decode cX10_feed 8 = .ok (.if_icmp .lt 6, 3) := by decide +kernel
theorem dX10_feed_11 : decode cX10_feed 11 = .ok (.ldc 62, 2) := by decide +kernel
theorem dX10_feed_13 : decode cX10_feed 13 = .ok (.ireturn, 1) := by decide +kernel
theorem dX10_feed_14 : decode cX10_feed 14 = .ok (.aload_n 0, 1) := by decide +kernel
theorem dX10_feed_15 : decode cX10_feed 15 = .ok (.getfield 26, 3) := by decide +kernel
theorem dX10_feed_18 : decode cX10_feed 18 = .ok (.invokevirtual 63, 3) := by decide +kernel
theorem dX10_feed_21 : decode cX10_feed 21 = .ok (.ifCond .ne 6, 3) := by decide +kernel
theorem dX10_feed_24 : decode cX10_feed 24 = .ok (.ldc 67, 2) := by decide +kernel
theorem dX10_feed_26 : decode cX10_feed 26 = .ok (.ireturn, 1) := by decide +kernel
theorem dX10_feed_27 : decode cX10_feed 27 = .ok (.aload_n 0, 1) := by decide +kernel
theorem dX10_feed_28 : decode cX10_feed 28 = .ok (.getfield 26, 3) := by decide +kernel
theorem dX10_feed_31 : decode cX10_feed 31 = .ok (.iload_n 1, 1) := by decide +kernel
theorem dX10_feed_32 : decode cX10_feed 32 = .ok (.invokevirtual 68, 3) := by decide +kernel
theorem dX10_feed_35 : decode cX10_feed 35 = .ok (.aload_n 0, 1) := by decide +kernel
theorem dX10_feed_36 : decode cX10_feed 36 = .ok (.getfield 26, 3) := by decide +kernel
theorem dX10_feed_39 : decode cX10_feed 39 = .ok (.invokevirtual 72, 3) := by decide +kernel
theorem dX10_feed_42 : decode cX10_feed 42 = .ok (.ireturn, 1) := by decide +kernel
theorem dX10_pieces_0 : decode cX10_pieces 0 = .ok (.aload_n 0, 1) := by decide +kernel
theorem dX10_pieces_1 : decode cX10_pieces 1 = .ok (.getfield 26, 3) := by decide +kernel
theorem dX10_pieces_4 : decode cX10_pieces 4 = .ok (.aload_n 0, 1) := by decide +kernel
theorem dX10_pieces_5 : decode cX10_pieces 5 = .ok (.getfield 10, 3) := by decide +kernel
theorem dX10_pieces_8 : decode cX10_pieces 8 = .ok (.invokevirtual 76, 3) := by decide +kernel
theorem dX10_pieces_11 : decode cX10_pieces 11 = .ok (.bipush 40, 2) := by decide +kernel
theorem dX10_pieces_13 : decode cX10_pieces 13 = .ok (.aload_n 0, 1) := by decide +kernel
theorem dX10_pieces_14 : decode cX10_pieces 14 = .ok (.getfield 10, 3) := by decide +kernel
theorem dX10_pieces_17 : decode cX10_pieces 17 = .ok (.invokevirtual 79, 3) := by decide +kernel
theorem dX10_pieces_20 : decode cX10_pieces 20 = .ok (.isub, 1) := by decide +kernel
theorem dX10_pieces_21 : decode cX10_pieces 21 = .ok (.invokevirtual 82, 3) := by decide +kernel
theorem dX10_pieces_24 : decode cX10_pieces 24 = .ok (.istore_n 1, 1) := by decide +kernel
theorem dX10_pieces_25 : decode cX10_pieces 25 = .ok (.aload_n 0, 1) := by decide +kernel
theorem dX10_pieces_26 : decode cX10_pieces 26 = .ok (.iload_n 1, 1) := by decide +kernel
theorem dX10_pieces_27 : decode cX10_pieces 27 = .ok (.ifCond .ne 7, 3) := by decide +kernel
theorem dX10_pieces_30 : decode cX10_pieces 30 = .ok (.iconst (-1), 1) := by decide +kernel
theorem dX10_pieces_31 : decode cX10_pieces 31 = .ok (.goto 10, 3) := by decide +kernel
theorem dX10_pieces_34 : decode cX10_pieces 34 = .ok (.aload_n 0, 1) := by decide +kernel
theorem dX10_pieces_35 : decode cX10_pieces 35 = .ok (.getfield 26, 3) := by decide +kernel
theorem dX10_pieces_38 : decode cX10_pieces 38 = .ok (.invokevirtual 86, 3) := by decide +kernel
theorem dX10_pieces_41 : decode cX10_pieces 41 = .ok (.putfield 54, 3) := by decide +kernel
theorem dX10_pieces_44 : decode cX10_pieces 44 = .ok (.aload_n 0, 1) := by decide +kernel
theorem dX10_pieces_45 : decode cX10_pieces 45 = .ok (.getfield 26, 3) := by decide +kernel
theorem dX10_pieces_48 : decode cX10_pieces 48 = .ok (.invokevirtual 89, 3) := by decide +kernel
theorem dX10_pieces_51 : decode cX10_pieces 51 = .ok (.iload_n 1, 1) := by decide +kernel
theorem dX10_pieces_52 : decode cX10_pieces 52 = .ok (.ifCond .eq 8, 3) := by decide +kernel
theorem dX10_pieces_55 : decode cX10_pieces 55 = .ok (.bipush (-10), 2) := by decide +kernel
theorem dX10_pieces_57 : decode cX10_pieces 57 = .ok (.iload_n 1, 1) := by decide +kernel
theorem dX10_pieces_58 : decode cX10_pieces 58 = .ok (.isub, 1) := by decide +kernel
theorem dX10_pieces_59 : decode cX10_pieces 59 = .ok (.ireturn, 1) := by decide +kernel
theorem dX10_pieces_60 : decode cX10_pieces 60 = .ok (.aload_n 0, 1) := by decide +kernel
theorem dX10_pieces_61 : decode cX10_pieces 61 = .ok (.invokevirtual 92, 3) := by decide +kernel
theorem dX10_pieces_64 : decode cX10_pieces 64 = .ok (.iconst 0, 1) := by decide +kernel
theorem dX10_pieces_65 : decode cX10_pieces 65 = .ok (.istore_n 2, 1) := by decide +kernel
theorem dX10_pieces_66 : decode cX10_pieces 66 = .ok (.iload_n 2, 1) := by decide +kernel
theorem dX10_pieces_67 : decode cX10_pieces 67 = .ok (.aload_n 0, 1) := by decide +kernel
theorem dX10_pieces_68 : decode cX10_pieces 68 = .ok (.getfield 26, 3) := by decide +kernel
theorem dX10_pieces_71 : decode cX10_pieces 71 = .ok (.invokevirtual 95, 3) := by decide +kernel
theorem dX10_pieces_74 : decode cX10_pieces 74 = .ok (.if_icmp .ge 32, 3) := by decide +kernel
theorem dX10_pieces_77 : decode cX10_pieces 77 = .ok (.aload_n 0, 1) := by decide +kernel
theorem dX10_pieces_78 : decode cX10_pieces 78 = .ok (.getfield 10, 3) := by decide +kernel
theorem dX10_pieces_81 : decode cX10_pieces 81 = .ok (.aload_n 0, 1) := by decide +kernel
theorem dX10_pieces_82 : decode cX10_pieces 82 = .ok (.getfield 26, 3) := by decide +kernel
theorem dX10_pieces_85 : decode cX10_pieces 85 = .ok (.iload_n 2, 1) := by decide +kernel
theorem dX10_pieces_86 : decode cX10_pieces 86 = .ok (.invokevirtual 98, 3) := by decide +kernel
theorem dX10_pieces_89 : decode cX10_pieces 89 = .ok (.aload_n 0, 1) := by decide +kernel
theorem dX10_pieces_90 : decode cX10_pieces 90 = .ok (.getfield 26, 3) := by decide +kernel
theorem dX10_pieces_93 : decode cX10_pieces 93 = .ok (.iload_n 2, 1) := by decide +kernel
theorem dX10_pieces_94 : decode cX10_pieces 94 = .ok (.invokevirtual 102, 3) := by decide +kernel
theorem dX10_pieces_97 : decode cX10_pieces 97 = .ok (.invokevirtual 105, 3) := by decide +kernel
theorem dX10_pieces_100 : decode cX10_pieces 100 = .ok (.iinc 2 1, 3) := by decide +kernel
theorem dX10_pieces_103 : decode cX10_pieces 103 = .ok (.goto (-37), 3) := by decide +kernel
theorem dX10_pieces_106 : decode cX10_pieces 106 = .ok (.aload_n 0, 1) := by decide +kernel
theorem dX10_pieces_107 : decode cX10_pieces 107 = .ok (.getfield 10, 3) := by decide +kernel
theorem dX10_pieces_110 : decode cX10_pieces 110 = .ok (.invokevirtual 79, 3) := by decide +kernel
theorem dX10_pieces_113 : decode cX10_pieces 113 = .ok (.ireturn, 1) := by decide +kernel
theorem dX10_fault_0 : decode cX10_fault 0 = .ok (.aload_n 0, 1) := by decide +kernel
theorem dX10_fault_1 : decode cX10_fault 1 = .ok (.getfield 54, 3) := by decide +kernel
theorem dX10_fault_4 : decode cX10_fault 4 = .ok (.ireturn, 1) := by decide +kernel
theorem dX10_told_0 : decode cX10_told 0 = .ok (.iload_n 1, 1) := by decide +kernel
theorem dX10_told_1 : decode cX10_told 1 = .ok (.tableswitch 185 0 12 #[67, 75, 83, 94, 105, 113, 121, 129, 137, 145, 153, 172, 180], 67) := by decide +kernel
theorem dX10_told_68 : decode cX10_told 68 = .ok (.aload_n 0, 1) := by decide +kernel
theorem dX10_told_69 : decode cX10_told 69 = .ok (.getfield 10, 3) := by decide +kernel
theorem dX10_told_72 : decode cX10_told 72 = .ok (.invokevirtual 76, 3) := by decide +kernel
theorem dX10_told_75 : decode cX10_told 75 = .ok (.ireturn, 1) := by decide +kernel
theorem dX10_told_76 : decode cX10_told 76 = .ok (.aload_n 0, 1) := by decide +kernel
theorem dX10_told_77 : decode cX10_told 77 = .ok (.getfield 10, 3) := by decide +kernel
theorem dX10_told_80 : decode cX10_told 80 = .ok (.invokevirtual 79, 3) := by decide +kernel
theorem dX10_told_83 : decode cX10_told 83 = .ok (.ireturn, 1) := by decide +kernel
theorem dX10_told_84 : decode cX10_told 84 = .ok (.aload_n 0, 1) := by decide +kernel
theorem dX10_told_85 : decode cX10_told 85 = .ok (.invokevirtual 108, 3) := by decide +kernel
theorem dX10_told_88 : decode cX10_told 88 = .ok (.getfield 112, 3) := by decide +kernel
theorem dX10_told_91 : decode cX10_told 91 = .ok (.invokevirtual 116, 3) := by decide +kernel
theorem dX10_told_94 : decode cX10_told 94 = .ok (.ireturn, 1) := by decide +kernel
theorem dX10_told_95 : decode cX10_told 95 = .ok (.aload_n 0, 1) := by decide +kernel
theorem dX10_told_96 : decode cX10_told 96 = .ok (.invokevirtual 108, 3) := by decide +kernel
theorem dX10_told_99 : decode cX10_told 99 = .ok (.getfield 121, 3) := by decide +kernel
theorem dX10_told_102 : decode cX10_told 102 = .ok (.invokevirtual 125, 3) := by decide +kernel
theorem dX10_told_105 : decode cX10_told 105 = .ok (.ireturn, 1) := by decide +kernel
theorem dX10_told_106 : decode cX10_told 106 = .ok (.aload_n 0, 1) := by decide +kernel
theorem dX10_told_107 : decode cX10_told 107 = .ok (.getfield 10, 3) := by decide +kernel
theorem dX10_told_110 : decode cX10_told 110 = .ok (.invokevirtual 128, 3) := by decide +kernel
theorem dX10_told_113 : decode cX10_told 113 = .ok (.ireturn, 1) := by decide +kernel
theorem dX10_told_114 : decode cX10_told 114 = .ok (.aload_n 0, 1) := by decide +kernel
theorem dX10_told_115 : decode cX10_told 115 = .ok (.getfield 10, 3) := by decide +kernel
theorem dX10_told_118 : decode cX10_told 118 = .ok (.invokevirtual 131, 3) := by decide +kernel
theorem dX10_told_121 : decode cX10_told 121 = .ok (.ireturn, 1) := by decide +kernel
theorem dX10_told_122 : decode cX10_told 122 = .ok (.aload_n 0, 1) := by decide +kernel
theorem dX10_told_123 : decode cX10_told 123 = .ok (.getfield 10, 3) := by decide +kernel
theorem dX10_told_126 : decode cX10_told 126 = .ok (.invokevirtual 134, 3) := by decide +kernel
theorem dX10_told_129 : decode cX10_told 129 = .ok (.ireturn, 1) := by decide +kernel
theorem dX10_told_130 : decode cX10_told 130 = .ok (.aload_n 0, 1) := by decide +kernel
theorem dX10_told_131 : decode cX10_told 131 = .ok (.getfield 10, 3) := by decide +kernel
theorem dX10_told_134 : decode cX10_told 134 = .ok (.invokevirtual 137, 3) := by decide +kernel
theorem dX10_told_137 : decode cX10_told 137 = .ok (.ireturn, 1) := by decide +kernel
theorem dX10_told_138 : decode cX10_told 138 = .ok (.aload_n 0, 1) := by decide +kernel
theorem dX10_told_139 : decode cX10_told 139 = .ok (.getfield 26, 3) := by decide +kernel
theorem dX10_told_142 : decode cX10_told 142 = .ok (.invokevirtual 72, 3) := by decide +kernel
theorem dX10_told_145 : decode cX10_told 145 = .ok (.ireturn, 1) := by decide +kernel
theorem dX10_told_146 : decode cX10_told 146 = .ok (.aload_n 0, 1) := by decide +kernel
theorem dX10_told_147 : decode cX10_told 147 = .ok (.getfield 40, 3) := by decide +kernel
theorem dX10_told_150 : decode cX10_told 150 = .ok (.invokevirtual 140, 3) := by decide +kernel
theorem dX10_told_153 : decode cX10_told 153 = .ok (.ireturn, 1) := by decide +kernel
theorem dX10_told_154 : decode cX10_told 154 = .ok (.aload_n 0, 1) := by decide +kernel
theorem dX10_told_155 : decode cX10_told 155 = .ok (.getfield 40, 3) := by decide +kernel
theorem dX10_told_158 : decode cX10_told 158 = .ok (.aload_n 0, 1) := by decide +kernel
theorem dX10_told_159 : decode cX10_told 159 = .ok (.getfield 10, 3) := by decide +kernel
theorem dX10_told_162 : decode cX10_told 162 = .ok (.aload_n 0, 1) := by decide +kernel
theorem dX10_told_163 : decode cX10_told 163 = .ok (.invokevirtual 108, 3) := by decide +kernel
theorem dX10_told_166 : decode cX10_told 166 = .ok (.getfield 143, 3) := by decide +kernel
theorem dX10_told_169 : decode cX10_told 169 = .ok (.invokevirtual 146, 3) := by decide +kernel
theorem dX10_told_172 : decode cX10_told 172 = .ok (.ireturn, 1) := by decide +kernel
theorem dX10_told_173 : decode cX10_told 173 = .ok (.aload_n 0, 1) := by decide +kernel
theorem dX10_told_174 : decode cX10_told 174 = .ok (.getfield 33, 3) := by decide +kernel
theorem dX10_told_177 : decode cX10_told 177 = .ok (.invokevirtual 150, 3) := by decide +kernel
theorem dX10_told_180 : decode cX10_told 180 = .ok (.ireturn, 1) := by decide +kernel
theorem dX10_told_181 : decode cX10_told 181 = .ok (.aload_n 0, 1) := by decide +kernel
theorem dX10_told_182 : decode cX10_told 182 = .ok (.getfield 50, 3) := by decide +kernel
theorem dX10_told_185 : decode cX10_told 185 = .ok (.ireturn, 1) := by decide +kernel
theorem dX10_told_186 : decode cX10_told 186 = .ok (.ldc 62, 2) := by decide +kernel
theorem dX10_told_188 : decode cX10_told 188 = .ok (.ireturn, 1) := by decide +kernel
theorem dX10_at_0 : decode cX10_at 0 = .ok (.aload_n 0, 1) := by decide +kernel
theorem dX10_at_1 : decode cX10_at 1 = .ok (.getfield 10, 3) := by decide +kernel
theorem dX10_at_4 : decode cX10_at 4 = .ok (.iload_n 1, 1) := by decide +kernel
theorem dX10_at_5 : decode cX10_at 5 = .ok (.invokevirtual 151, 3) := by decide +kernel
theorem dX10_at_8 : decode cX10_at 8 = .ok (.ifCond .ne 6, 3) := by decide +kernel
theorem dX10_at_11 : decode cX10_at 11 = .ok (.ldc 155, 2) := by decide +kernel
theorem dX10_at_13 : decode cX10_at 13 = .ok (.ireturn, 1) := by decide +kernel
theorem dX10_at_14 : decode cX10_at 14 = .ok (.iload_n 2, 1) := by decide +kernel
theorem dX10_at_15 : decode cX10_at 15 = .ok (.lookupswitch 43 #[(0, 25), (1, 34)], 25) := by decide +kernel
theorem dX10_at_40 : decode cX10_at 40 = .ok (.aload_n 0, 1) := by decide +kernel
theorem dX10_at_41 : decode cX10_at 41 = .ok (.getfield 10, 3) := by decide +kernel
theorem dX10_at_44 : decode cX10_at 44 = .ok (.iload_n 1, 1) := by decide +kernel
theorem dX10_at_45 : decode cX10_at 45 = .ok (.invokevirtual 156, 3) := by decide +kernel
theorem dX10_at_48 : decode cX10_at 48 = .ok (.ireturn, 1) := by decide +kernel
theorem dX10_at_49 : decode cX10_at 49 = .ok (.aload_n 0, 1) := by decide +kernel
theorem dX10_at_50 : decode cX10_at 50 = .ok (.getfield 10, 3) := by decide +kernel
theorem dX10_at_53 : decode cX10_at 53 = .ok (.iload_n 1, 1) := by decide +kernel
theorem dX10_at_54 : decode cX10_at 54 = .ok (.invokevirtual 159, 3) := by decide +kernel
theorem dX10_at_57 : decode cX10_at 57 = .ok (.ireturn, 1) := by decide +kernel
theorem dX10_at_58 : decode cX10_at 58 = .ok (.ldc 62, 2) := by decide +kernel
theorem dX10_at_60 : decode cX10_at 60 = .ok (.ireturn, 1) := by decide +kernel
theorem dX10_day_0 : decode cX10_day 0 = .ok (.aload_n 0, 1) := by decide +kernel
theorem dX10_day_1 : decode cX10_day 1 = .ok (.getfield 10, 3) := by decide +kernel
theorem dX10_day_4 : decode cX10_day 4 = .ok (.iload_n 1, 1) := by decide +kernel
theorem dX10_day_5 : decode cX10_day 5 = .ok (.invokevirtual 162, 3) := by decide +kernel
theorem dX10_day_8 : decode cX10_day 8 = .ok (.ifCond .ne 6, 3) := by decide +kernel
theorem dX10_day_11 : decode cX10_day 11 = .ok (.ldc 155, 2) := by decide +kernel
theorem dX10_day_13 : decode cX10_day 13 = .ok (.ireturn, 1) := by decide +kernel
theorem dX10_day_14 : decode cX10_day 14 = .ok (.iload_n 2, 1) := by decide +kernel
theorem dX10_day_15 : decode cX10_day 15 = .ok (.tableswitch 55 0 2 #[25, 37, 46], 25) := by decide +kernel
theorem dX10_day_40 : decode cX10_day 40 = .ok (.aload_n 0, 1) := by decide +kernel
theorem dX10_day_41 : decode cX10_day 41 = .ok (.invokevirtual 108, 3) := by decide +kernel
theorem dX10_day_44 : decode cX10_day 44 = .ok (.getfield 165, 3) := by decide +kernel
theorem dX10_day_47 : decode cX10_day 47 = .ok (.iload_n 1, 1) := by decide +kernel
theorem dX10_day_48 : decode cX10_day 48 = .ok (.invokevirtual 169, 3) := by decide +kernel
theorem dX10_day_51 : decode cX10_day 51 = .ok (.ireturn, 1) := by decide +kernel
theorem dX10_day_52 : decode cX10_day 52 = .ok (.aload_n 0, 1) := by decide +kernel
theorem dX10_day_53 : decode cX10_day 53 = .ok (.invokevirtual 108, 3) := by decide +kernel
theorem dX10_day_56 : decode cX10_day 56 = .ok (.iload_n 1, 1) := by decide +kernel
theorem dX10_day_57 : decode cX10_day 57 = .ok (.invokevirtual 174, 3) := by decide +kernel
theorem dX10_day_60 : decode cX10_day 60 = .ok (.ireturn, 1) := by decide +kernel
theorem dX10_day_61 : decode cX10_day 61 = .ok (.aload_n 0, 1) := by decide +kernel
theorem dX10_day_62 : decode cX10_day 62 = .ok (.invokevirtual 108, 3) := by decide +kernel
theorem dX10_day_65 : decode cX10_day 65 = .ok (.iload_n 1, 1) := by decide +kernel
theorem dX10_day_66 : decode cX10_day 66 = .ok (.invokevirtual 177, 3) := by decide +kernel
theorem dX10_day_69 : decode cX10_day 69 = .ok (.ireturn, 1) := by decide +kernel
theorem dX10_day_70 : decode cX10_day 70 = .ok (.ldc 62, 2) := by decide +kernel
theorem dX10_day_72 : decode cX10_day 72 = .ok (.ireturn, 1) := by decide +kernel
theorem dX10_word_0 : decode cX10_word 0 = .ok (.iload_n 1, 1) := by decide +kernel
theorem dX10_word_1 : decode cX10_word 1 = .ok (.invokestatic 180, 3) := by decide +kernel
theorem dX10_word_4 : decode cX10_word 4 = .ok (.ifCond .eq 14, 3) := by decide +kernel
theorem dX10_word_7 : decode cX10_word 7 = .ok (.aload_n 0, 1) := by decide +kernel
theorem dX10_word_8 : decode cX10_word 8 = .ok (.getfield 10, 3) := by decide +kernel
theorem dX10_word_11 : decode cX10_word 11 = .ok (.iload_n 2, 1) := by decide +kernel
theorem dX10_word_12 : decode cX10_word 12 = .ok (.invokevirtual 162, 3) := by decide +kernel
theorem dX10_word_15 : decode cX10_word 15 = .ok (.ifCond .ne 6, 3) := by decide +kernel
theorem dX10_word_18 : decode cX10_word 18 = .ok (.ldc 155, 2) := by decide +kernel
theorem dX10_word_20 : decode cX10_word 20 = .ok (.ireturn, 1) := by decide +kernel
theorem dX10_word_21 : decode cX10_word 21 = .ok (.iload_n 3, 1) := by decide +kernel
theorem dX10_word_22 : decode cX10_word 22 = .ok (.tableswitch 97 0 5 #[38, 51, 64, 64, 64, 64], 38) := by decide +kernel
theorem dX10_word_60 : decode cX10_word 60 = .ok (.aload_n 0, 1) := by decide +kernel
theorem dX10_word_61 : decode cX10_word 61 = .ok (.invokevirtual 108, 3) := by decide +kernel
theorem dX10_word_64 : decode cX10_word 64 = .ok (.getfield 165, 3) := by decide +kernel
theorem dX10_word_67 : decode cX10_word 67 = .ok (.iload_n 1, 1) := by decide +kernel
theorem dX10_word_68 : decode cX10_word 68 = .ok (.iload_n 2, 1) := by decide +kernel
theorem dX10_word_69 : decode cX10_word 69 = .ok (.invokevirtual 183, 3) := by decide +kernel
theorem dX10_word_72 : decode cX10_word 72 = .ok (.ireturn, 1) := by decide +kernel
theorem dX10_word_73 : decode cX10_word 73 = .ok (.aload_n 0, 1) := by decide +kernel
theorem dX10_word_74 : decode cX10_word 74 = .ok (.invokevirtual 108, 3) := by decide +kernel
theorem dX10_word_77 : decode cX10_word 77 = .ok (.getfield 143, 3) := by decide +kernel
theorem dX10_word_80 : decode cX10_word 80 = .ok (.iload_n 1, 1) := by decide +kernel
theorem dX10_word_81 : decode cX10_word 81 = .ok (.iload_n 2, 1) := by decide +kernel
theorem dX10_word_82 : decode cX10_word 82 = .ok (.invokevirtual 185, 3) := by decide +kernel
theorem dX10_word_85 : decode cX10_word 85 = .ok (.ireturn, 1) := by decide +kernel
theorem dX10_word_86 : decode cX10_word 86 = .ok (.aload_n 0, 1) := by decide +kernel
theorem dX10_word_87 : decode cX10_word 87 = .ok (.getfield 10, 3) := by decide +kernel
theorem dX10_word_90 : decode cX10_word 90 = .ok (.iload_n 3, 1) := by decide +kernel
theorem dX10_word_91 : decode cX10_word 91 = .ok (.iconst 2, 1) := by decide +kernel
theorem dX10_word_92 : decode cX10_word 92 = .ok (.isub, 1) := by decide +kernel
theorem dX10_word_93 : decode cX10_word 93 = .ok (.invokevirtual 190, 3) := by decide +kernel
theorem dX10_word_96 : decode cX10_word 96 = .ok (.ifCond .eq 21, 3) := by decide +kernel
theorem dX10_word_99 : decode cX10_word 99 = .ok (.aload_n 0, 1) := by decide +kernel
theorem dX10_word_100 : decode cX10_word 100 = .ok (.invokevirtual 108, 3) := by decide +kernel
theorem dX10_word_103 : decode cX10_word 103 = .ok (.getfield 165, 3) := by decide +kernel
theorem dX10_word_106 : decode cX10_word 106 = .ok (.iload_n 1, 1) := by decide +kernel
theorem dX10_word_107 : decode cX10_word 107 = .ok (.iload_n 2, 1) := by decide +kernel
theorem dX10_word_108 : decode cX10_word 108 = .ok (.iload_n 3, 1) := by decide +kernel
theorem dX10_word_109 : decode cX10_word 109 = .ok (.iconst 2, 1) := by decide +kernel
theorem dX10_word_110 : decode cX10_word 110 = .ok (.isub, 1) := by decide +kernel
theorem dX10_word_111 : decode cX10_word 111 = .ok (.invokevirtual 193, 3) := by decide +kernel
theorem dX10_word_114 : decode cX10_word 114 = .ok (.goto 4, 3) := by decide +kernel
theorem dX10_word_117 : decode cX10_word 117 = .ok (.iconst (-1), 1) := by decide +kernel
theorem dX10_word_118 : decode cX10_word 118 = .ok (.ireturn, 1) := by decide +kernel
theorem dX10_word_119 : decode cX10_word 119 = .ok (.ldc 62, 2) := by decide +kernel
theorem dX10_word_121 : decode cX10_word 121 = .ok (.ireturn, 1) := by decide +kernel
theorem dX10_cost_0 : decode cX10_cost 0 = .ok (.iload_n 1, 1) := by decide +kernel
theorem dX10_cost_1 : decode cX10_cost 1 = .ok (.invokestatic 180, 3) := by decide +kernel
theorem dX10_cost_4 : decode cX10_cost 4 = .ok (.ifCond .eq 17, 3) := by decide +kernel
theorem dX10_cost_7 : decode cX10_cost 7 = .ok (.aload_n 0, 1) := by decide +kernel
theorem dX10_cost_8 : decode cX10_cost 8 = .ok (.invokevirtual 108, 3) := by decide +kernel
theorem dX10_cost_11 : decode cX10_cost 11 = .ok (.getfield 143, 3) := by decide +kernel
theorem dX10_cost_14 : decode cX10_cost 14 = .ok (.iload_n 1, 1) := by decide +kernel
theorem dX10_cost_15 : decode cX10_cost 15 = .ok (.invokevirtual 197, 3) := by decide +kernel
theorem dX10_cost_18 : decode cX10_cost 18 = .ok (.goto 5, 3) := by decide +kernel
theorem dX10_cost_21 : decode cX10_cost 21 = .ok (.ldc 155, 2) := by decide +kernel
theorem dX10_cost_23 : decode cX10_cost 23 = .ok (.ireturn, 1) := by decide +kernel
theorem dX10_steady_0 : decode cX10_steady 0 = .ok (.iload_n 1, 1) := by decide +kernel
theorem dX10_steady_1 : decode cX10_steady 1 = .ok (.invokestatic 180, 3) := by decide +kernel
theorem dX10_steady_4 : decode cX10_steady 4 = .ok (.ifCond .ne 6, 3) := by decide +kernel
theorem dX10_steady_7 : decode cX10_steady 7 = .ok (.ldc 155, 2) := by decide +kernel
theorem dX10_steady_9 : decode cX10_steady 9 = .ok (.ireturn, 1) := by decide +kernel
theorem dX10_steady_10 : decode cX10_steady 10 = .ok (.aload_n 0, 1) := by decide +kernel
theorem dX10_steady_11 : decode cX10_steady 11 = .ok (.getfield 10, 3) := by decide +kernel
theorem dX10_steady_14 : decode cX10_steady 14 = .ok (.iload_n 2, 1) := by decide +kernel
theorem dX10_steady_15 : decode cX10_steady 15 = .ok (.invokevirtual 190, 3) := by decide +kernel
theorem dX10_steady_18 : decode cX10_steady 18 = .ok (.ifCond .eq 18, 3) := by decide +kernel
theorem dX10_steady_21 : decode cX10_steady 21 = .ok (.aload_n 0, 1) := by decide +kernel
theorem dX10_steady_22 : decode cX10_steady 22 = .ok (.invokevirtual 108, 3) := by decide +kernel
theorem dX10_steady_25 : decode cX10_steady 25 = .ok (.getfield 165, 3) := by decide +kernel
theorem dX10_steady_28 : decode cX10_steady 28 = .ok (.iload_n 1, 1) := by decide +kernel
theorem dX10_steady_29 : decode cX10_steady 29 = .ok (.iload_n 2, 1) := by decide +kernel
theorem dX10_steady_30 : decode cX10_steady 30 = .ok (.invokevirtual 200, 3) := by decide +kernel
theorem dX10_steady_33 : decode cX10_steady 33 = .ok (.goto 5, 3) := by decide +kernel
theorem dX10_steady_36 : decode cX10_steady 36 = .ok (.ldc 62, 2) := by decide +kernel
theorem dX10_steady_38 : decode cX10_steady 38 = .ok (.ireturn, 1) := by decide +kernel
theorem dX10_flare_0 : decode cX10_flare 0 = .ok (.aload_n 0, 1) := by decide +kernel
theorem dX10_flare_1 : decode cX10_flare 1 = .ok (.invokevirtual 108, 3) := by decide +kernel
theorem dX10_flare_4 : decode cX10_flare 4 = .ok (.astore_n 3, 1) := by decide +kernel
theorem dX10_flare_5 : decode cX10_flare 5 = .ok (.aload_n 3, 1) := by decide +kernel
theorem dX10_flare_6 : decode cX10_flare 6 = .ok (.getfield 112, 3) := by decide +kernel
theorem dX10_flare_9 : decode cX10_flare 9 = .ok (.iload_n 1, 1) := by decide +kernel
theorem dX10_flare_10 : decode cX10_flare 10 = .ok (.invokevirtual 203, 3) := by decide +kernel
theorem dX10_flare_13 : decode cX10_flare 13 = .ok (.ifCond .ne 6, 3) := by decide +kernel
theorem dX10_flare_16 : decode cX10_flare 16 = .ok (.ldc 155, 2) := by decide +kernel
theorem dX10_flare_18 : decode cX10_flare 18 = .ok (.ireturn, 1) := by decide +kernel
theorem dX10_flare_19 : decode cX10_flare 19 = .ok (.iload_n 2, 1) := by decide +kernel
theorem dX10_flare_20 : decode cX10_flare 20 = .ok (.invokestatic 206, 3) := by decide +kernel
theorem dX10_flare_23 : decode cX10_flare 23 = .ok (.ifCond .eq 15, 3) := by decide +kernel
theorem dX10_flare_26 : decode cX10_flare 26 = .ok (.aload_n 3, 1) := by decide +kernel
theorem dX10_flare_27 : decode cX10_flare 27 = .ok (.getfield 112, 3) := by decide +kernel
theorem dX10_flare_30 : decode cX10_flare 30 = .ok (.iload_n 1, 1) := by decide +kernel
theorem dX10_flare_31 : decode cX10_flare 31 = .ok (.iload_n 2, 1) := by decide +kernel
theorem dX10_flare_32 : decode cX10_flare 32 = .ok (.invokevirtual 209, 3) := by decide +kernel
theorem dX10_flare_35 : decode cX10_flare 35 = .ok (.goto 5, 3) := by decide +kernel
theorem dX10_flare_38 : decode cX10_flare 38 = .ok (.ldc 62, 2) := by decide +kernel
theorem dX10_flare_40 : decode cX10_flare 40 = .ok (.ireturn, 1) := by decide +kernel
theorem dX10_story_0 : decode cX10_story 0 = .ok (.aload_n 0, 1) := by decide +kernel
theorem dX10_story_1 : decode cX10_story 1 = .ok (.invokevirtual 108, 3) := by decide +kernel
theorem dX10_story_4 : decode cX10_story 4 = .ok (.astore_n 3, 1) := by decide +kernel
theorem dX10_story_5 : decode cX10_story 5 = .ok (.aload_n 3, 1) := by decide +kernel
theorem dX10_story_6 : decode cX10_story 6 = .ok (.getfield 121, 3) := by decide +kernel
theorem dX10_story_9 : decode cX10_story 9 = .ok (.iload_n 1, 1) := by decide +kernel
theorem dX10_story_10 : decode cX10_story 10 = .ok (.invokevirtual 212, 3) := by decide +kernel
theorem dX10_story_13 : decode cX10_story 13 = .ok (.ifCond .ne 6, 3) := by decide +kernel
theorem dX10_story_16 : decode cX10_story 16 = .ok (.ldc 155, 2) := by decide +kernel
theorem dX10_story_18 : decode cX10_story 18 = .ok (.ireturn, 1) := by decide +kernel
theorem dX10_story_19 : decode cX10_story 19 = .ok (.iload_n 2, 1) := by decide +kernel
theorem dX10_story_20 : decode cX10_story 20 = .ok (.invokestatic 213, 3) := by decide +kernel
theorem dX10_story_23 : decode cX10_story 23 = .ok (.ifCond .eq 15, 3) := by decide +kernel
theorem dX10_story_26 : decode cX10_story 26 = .ok (.aload_n 3, 1) := by decide +kernel
theorem dX10_story_27 : decode cX10_story 27 = .ok (.getfield 121, 3) := by decide +kernel
theorem dX10_story_30 : decode cX10_story 30 = .ok (.iload_n 1, 1) := by decide +kernel
theorem dX10_story_31 : decode cX10_story 31 = .ok (.iload_n 2, 1) := by decide +kernel
theorem dX10_story_32 : decode cX10_story 32 = .ok (.invokevirtual 214, 3) := by decide +kernel
theorem dX10_story_35 : decode cX10_story 35 = .ok (.goto 5, 3) := by decide +kernel
theorem dX10_story_38 : decode cX10_story 38 = .ok (.ldc 62, 2) := by decide +kernel
theorem dX10_story_40 : decode cX10_story 40 = .ok (.ireturn, 1) := by decide +kernel
theorem dX10_together_0 : decode cX10_together 0 = .ok (.iload_n 1, 1) := by decide +kernel
theorem dX10_together_1 : decode cX10_together 1 = .ok (.invokestatic 180, 3) := by decide +kernel
theorem dX10_together_4 : decode cX10_together 4 = .ok (.ifCond .eq 29, 3) := by decide +kernel
theorem dX10_together_7 : decode cX10_together 7 = .ok (.iload_n 2, 1) := by decide +kernel
theorem dX10_together_8 : decode cX10_together 8 = .ok (.invokestatic 180, 3) := by decide +kernel
theorem dX10_together_11 : decode cX10_together 11 = .ok (.ifCond .eq 22, 3) := by decide +kernel
theorem dX10_together_14 : decode cX10_together 14 = .ok (.aload_n 0, 1) := by decide +kernel
theorem dX10_together_15 : decode cX10_together 15 = .ok (.getfield 10, 3) := by decide +kernel
theorem dX10_together_18 : decode cX10_together 18 = .ok (.iload_n 1, 1) := by decide +kernel
theorem dX10_together_19 : decode cX10_together 19 = .ok (.invokestatic 215, 3) := by decide +kernel
theorem dX10_together_22 : decode cX10_together 22 = .ok (.iload_n 2, 1) := by decide +kernel
theorem dX10_together_23 : decode cX10_together 23 = .ok (.invokestatic 215, 3) := by decide +kernel
theorem dX10_together_26 : decode cX10_together 26 = .ok (.ior, 1) := by decide +kernel
theorem dX10_together_27 : decode cX10_together 27 = .ok (.invokevirtual 218, 3) := by decide +kernel
theorem dX10_together_30 : decode cX10_together 30 = .ok (.goto 5, 3) := by decide +kernel
theorem dX10_together_33 : decode cX10_together 33 = .ok (.ldc 155, 2) := by decide +kernel
theorem dX10_together_35 : decode cX10_together 35 = .ok (.ireturn, 1) := by decide +kernel
theorem dX10_piece_0 : decode cX10_piece 0 = .ok (.aload_n 0, 1) := by decide +kernel
theorem dX10_piece_1 : decode cX10_piece 1 = .ok (.getfield 10, 3) := by decide +kernel
theorem dX10_piece_4 : decode cX10_piece 4 = .ok (.iload_n 1, 1) := by decide +kernel
theorem dX10_piece_5 : decode cX10_piece 5 = .ok (.invokevirtual 162, 3) := by decide +kernel
theorem dX10_piece_8 : decode cX10_piece 8 = .ok (.ifCond .ne 6, 3) := by decide +kernel
theorem dX10_piece_11 : decode cX10_piece 11 = .ok (.ldc 155, 2) := by decide +kernel
theorem dX10_piece_13 : decode cX10_piece 13 = .ok (.ireturn, 1) := by decide +kernel
theorem dX10_piece_14 : decode cX10_piece 14 = .ok (.iload_n 2, 1) := by decide +kernel
theorem dX10_piece_15 : decode cX10_piece 15 = .ok (.ifCond .lt 10, 3) := by decide +kernel
theorem dX10_piece_18 : decode cX10_piece 18 = .ok (.iload_n 2, 1) := by decide +kernel
theorem dX10_piece_19 : decode cX10_piece 19 = .ok (.sipush 256, 3) := by decide +kernel
theorem dX10_piece_22 : decode cX10_piece 22 = .ok (.if_icmp .lt 6, 3) := by decide +kernel
theorem dX10_piece_25 : decode cX10_piece 25 = .ok (.ldc 62, 2) := by decide +kernel
theorem dX10_piece_27 : decode cX10_piece 27 = .ok (.ireturn, 1) := by decide +kernel
theorem dX10_piece_28 : decode cX10_piece 28 = .ok (.aload_n 0, 1) := by decide +kernel
theorem dX10_piece_29 : decode cX10_piece 29 = .ok (.getfield 10, 3) := by decide +kernel
theorem dX10_piece_32 : decode cX10_piece 32 = .ok (.invokevirtual 221, 3) := by decide +kernel
theorem dX10_piece_35 : decode cX10_piece 35 = .ok (.ifCond .ne 6, 3) := by decide +kernel
theorem dX10_piece_38 : decode cX10_piece 38 = .ok (.ldc 67, 2) := by decide +kernel
theorem dX10_piece_40 : decode cX10_piece 40 = .ok (.ireturn, 1) := by decide +kernel
theorem dX10_piece_41 : decode cX10_piece 41 = .ok (.aload_n 0, 1) := by decide +kernel
theorem dX10_piece_42 : decode cX10_piece 42 = .ok (.iload_n 1, 1) := by decide +kernel
theorem dX10_piece_43 : decode cX10_piece 43 = .ok (.iload_n 2, 1) := by decide +kernel
theorem dX10_piece_44 : decode cX10_piece 44 = .ok (.invokevirtual 222, 3) := by decide +kernel
theorem dX10_piece_47 : decode cX10_piece 47 = .ok (.aload_n 0, 1) := by decide +kernel
theorem dX10_piece_48 : decode cX10_piece 48 = .ok (.getfield 10, 3) := by decide +kernel
theorem dX10_piece_51 : decode cX10_piece 51 = .ok (.invokevirtual 79, 3) := by decide +kernel
theorem dX10_piece_54 : decode cX10_piece 54 = .ok (.iconst 1, 1) := by decide +kernel
theorem dX10_piece_55 : decode cX10_piece 55 = .ok (.isub, 1) := by decide +kernel
theorem dX10_piece_56 : decode cX10_piece 56 = .ok (.ireturn, 1) := by decide +kernel
theorem dX10_take_0 : decode cX10_take 0 = .ok (.aload_n 0, 1) := by decide +kernel
theorem dX10_take_1 : decode cX10_take 1 = .ok (.getfield 10, 3) := by decide +kernel
theorem dX10_take_4 : decode cX10_take 4 = .ok (.iload_n 1, 1) := by decide +kernel
theorem dX10_take_5 : decode cX10_take 5 = .ok (.invokevirtual 151, 3) := by decide +kernel
theorem dX10_take_8 : decode cX10_take 8 = .ok (.ifCond .ne 6, 3) := by decide +kernel
theorem dX10_take_11 : decode cX10_take 11 = .ok (.ldc 155, 2) := by decide +kernel
theorem dX10_take_13 : decode cX10_take 13 = .ok (.ireturn, 1) := by decide +kernel
theorem dX10_take_14 : decode cX10_take 14 = .ok (.aload_n 0, 1) := by decide +kernel
theorem dX10_take_15 : decode cX10_take 15 = .ok (.invokevirtual 92, 3) := by decide +kernel
theorem dX10_take_18 : decode cX10_take 18 = .ok (.aload_n 0, 1) := by decide +kernel
theorem dX10_take_19 : decode cX10_take 19 = .ok (.getfield 10, 3) := by decide +kernel
theorem dX10_take_22 : decode cX10_take 22 = .ok (.iload_n 1, 1) := by decide +kernel
theorem dX10_take_23 : decode cX10_take 23 = .ok (.invokevirtual 225, 3) := by decide +kernel
theorem dX10_take_26 : decode cX10_take 26 = .ok (.aload_n 0, 1) := by decide +kernel
theorem dX10_take_27 : decode cX10_take 27 = .ok (.getfield 10, 3) := by decide +kernel
theorem dX10_take_30 : decode cX10_take 30 = .ok (.invokevirtual 79, 3) := by decide +kernel
theorem dX10_take_33 : decode cX10_take 33 = .ok (.ireturn, 1) := by decide +kernel
theorem dX10_move_0 : decode cX10_move 0 = .ok (.aload_n 0, 1) := by decide +kernel
theorem dX10_move_1 : decode cX10_move 1 = .ok (.getfield 10, 3) := by decide +kernel
theorem dX10_move_4 : decode cX10_move 4 = .ok (.iload_n 1, 1) := by decide +kernel
theorem dX10_move_5 : decode cX10_move 5 = .ok (.invokevirtual 151, 3) := by decide +kernel
theorem dX10_move_8 : decode cX10_move 8 = .ok (.ifCond .eq 14, 3) := by decide +kernel
theorem dX10_move_11 : decode cX10_move 11 = .ok (.aload_n 0, 1) := by decide +kernel
theorem dX10_move_12 : decode cX10_move 12 = .ok (.getfield 10, 3) := by decide +kernel
theorem dX10_move_15 : decode cX10_move 15 = .ok (.iload_n 2, 1) := by decide +kernel
theorem dX10_move_16 : decode cX10_move 16 = .ok (.invokevirtual 162, 3) := by decide +kernel
theorem dX10_move_19 : decode cX10_move 19 = .ok (.ifCond .ne 6, 3) := by decide +kernel
theorem dX10_move_22 : decode cX10_move 22 = .ok (.ldc 155, 2) := by decide +kernel
theorem dX10_move_24 : decode cX10_move 24 = .ok (.ireturn, 1) := by decide +kernel
theorem dX10_move_25 : decode cX10_move 25 = .ok (.aload_n 0, 1) := by decide +kernel
theorem dX10_move_26 : decode cX10_move 26 = .ok (.getfield 10, 3) := by decide +kernel
theorem dX10_move_29 : decode cX10_move 29 = .ok (.iload_n 1, 1) := by decide +kernel
theorem dX10_move_30 : decode cX10_move 30 = .ok (.invokevirtual 156, 3) := by decide +kernel
theorem dX10_move_33 : decode cX10_move 33 = .ok (.istore_n 3, 1) := by decide +kernel
theorem dX10_move_34 : decode cX10_move 34 = .ok (.aload_n 0, 1) := by decide +kernel
theorem dX10_move_35 : decode cX10_move 35 = .ok (.invokevirtual 92, 3) := by decide +kernel
theorem dX10_move_38 : decode cX10_move 38 = .ok (.aload_n 0, 1) := by decide +kernel
theorem dX10_move_39 : decode cX10_move 39 = .ok (.getfield 10, 3) := by decide +kernel
theorem dX10_move_42 : decode cX10_move 42 = .ok (.iload_n 1, 1) := by decide +kernel
theorem dX10_move_43 : decode cX10_move 43 = .ok (.iload_n 2, 1) := by decide +kernel
theorem dX10_move_44 : decode cX10_move 44 = .ok (.invokevirtual 228, 3) := by decide +kernel
theorem dX10_move_47 : decode cX10_move 47 = .ok (.iload_n 3, 1) := by decide +kernel
theorem dX10_move_48 : decode cX10_move 48 = .ok (.ireturn, 1) := by decide +kernel
theorem dX10_days_0 : decode cX10_days 0 = .ok (.iload_n 1, 1) := by decide +kernel
theorem dX10_days_1 : decode cX10_days 1 = .ok (.iconst 1, 1) := by decide +kernel
theorem dX10_days_2 : decode cX10_days 2 = .ok (.if_icmp .lt 9, 3) := by decide +kernel
theorem dX10_days_5 : decode cX10_days 5 = .ok (.iload_n 1, 1) := by decide +kernel
theorem dX10_days_6 : decode cX10_days 6 = .ok (.bipush 12, 2) := by decide +kernel
theorem dX10_days_8 : decode cX10_days 8 = .ok (.if_icmp .le 6, 3) := by decide +kernel
theorem dX10_days_11 : decode cX10_days 11 = .ok (.ldc 62, 2) := by decide +kernel
theorem dX10_days_13 : decode cX10_days 13 = .ok (.ireturn, 1) := by decide +kernel
theorem dX10_days_14 : decode cX10_days 14 = .ok (.aload_n 0, 1) := by decide +kernel
theorem dX10_days_15 : decode cX10_days 15 = .ok (.getfield 10, 3) := by decide +kernel
theorem dX10_days_18 : decode cX10_days 18 = .ok (.iload_n 1, 1) := by decide +kernel
theorem dX10_days_19 : decode cX10_days 19 = .ok (.invokevirtual 231, 3) := by decide +kernel
theorem dX10_days_22 : decode cX10_days 22 = .ok (.ifCond .eq 6, 3) := by decide +kernel
theorem dX10_days_25 : decode cX10_days 25 = .ok (.ldc 234, 2) := by decide +kernel
theorem dX10_days_27 : decode cX10_days 27 = .ok (.ireturn, 1) := by decide +kernel
theorem dX10_days_28 : decode cX10_days 28 = .ok (.aload_n 0, 1) := by decide +kernel
theorem dX10_days_29 : decode cX10_days 29 = .ok (.getfield 10, 3) := by decide +kernel
theorem dX10_days_32 : decode cX10_days 32 = .ok (.invokevirtual 76, 3) := by decide +kernel
theorem dX10_days_35 : decode cX10_days 35 = .ok (.istore_n 2, 1) := by decide +kernel
theorem dX10_days_36 : decode cX10_days 36 = .ok (.aload_n 0, 1) := by decide +kernel
theorem dX10_days_37 : decode cX10_days 37 = .ok (.invokevirtual 92, 3) := by decide +kernel
theorem dX10_days_40 : decode cX10_days 40 = .ok (.aload_n 0, 1) := by decide +kernel
theorem dX10_days_41 : decode cX10_days 41 = .ok (.getfield 10, 3) := by decide +kernel
theorem dX10_days_44 : decode cX10_days 44 = .ok (.iload_n 1, 1) := by decide +kernel
theorem dX10_days_45 : decode cX10_days 45 = .ok (.invokevirtual 235, 3) := by decide +kernel
theorem dX10_days_48 : decode cX10_days 48 = .ok (.iload_n 2, 1) := by decide +kernel
theorem dX10_days_49 : decode cX10_days 49 = .ok (.ireturn, 1) := by decide +kernel
theorem dX10_term_0 : decode cX10_term 0 = .ok (.iload_n 1, 1) := by decide +kernel
theorem dX10_term_1 : decode cX10_term 1 = .ok (.invokestatic 238, 3) := by decide +kernel
theorem dX10_term_4 : decode cX10_term 4 = .ok (.ifCond .eq 11, 3) := by decide +kernel
theorem dX10_term_7 : decode cX10_term 7 = .ok (.iload_n 1, 1) := by decide +kernel
theorem dX10_term_8 : decode cX10_term 8 = .ok (.iload_n 2, 1) := by decide +kernel
theorem dX10_term_9 : decode cX10_term 9 = .ok (.invokestatic 241, 3) := by decide +kernel
theorem dX10_term_12 : decode cX10_term 12 = .ok (.ifCond .ne 6, 3) := by decide +kernel
theorem dX10_term_15 : decode cX10_term 15 = .ok (.ldc 62, 2) := by decide +kernel
theorem dX10_term_17 : decode cX10_term 17 = .ok (.ireturn, 1) := by decide +kernel
theorem dX10_term_18 : decode cX10_term 18 = .ok (.aload_n 0, 1) := by decide +kernel
theorem dX10_term_19 : decode cX10_term 19 = .ok (.getfield 10, 3) := by decide +kernel
theorem dX10_term_22 : decode cX10_term 22 = .ok (.iload_n 1, 1) := by decide +kernel
theorem dX10_term_23 : decode cX10_term 23 = .ok (.invokevirtual 245, 3) := by decide +kernel
theorem dX10_term_26 : decode cX10_term 26 = .ok (.istore_n 3, 1) := by decide +kernel
theorem dX10_term_27 : decode cX10_term 27 = .ok (.aload_n 0, 1) := by decide +kernel
theorem dX10_term_28 : decode cX10_term 28 = .ok (.invokevirtual 92, 3) := by decide +kernel
theorem dX10_term_31 : decode cX10_term 31 = .ok (.aload_n 0, 1) := by decide +kernel
theorem dX10_term_32 : decode cX10_term 32 = .ok (.getfield 10, 3) := by decide +kernel
theorem dX10_term_35 : decode cX10_term 35 = .ok (.iload_n 1, 1) := by decide +kernel
theorem dX10_term_36 : decode cX10_term 36 = .ok (.iload_n 2, 1) := by decide +kernel
theorem dX10_term_37 : decode cX10_term 37 = .ok (.invokevirtual 248, 3) := by decide +kernel
theorem dX10_term_40 : decode cX10_term 40 = .ok (.iload_n 3, 1) := by decide +kernel
theorem dX10_term_41 : decode cX10_term 41 = .ok (.ireturn, 1) := by decide +kernel
theorem dX10_drift_0 : decode cX10_drift 0 = .ok (.iload_n 1, 1) := by decide +kernel
theorem dX10_drift_1 : decode cX10_drift 1 = .ok (.iconst 1, 1) := by decide +kernel
theorem dX10_drift_2 : decode cX10_drift 2 = .ok (.if_icmp .lt 9, 3) := by decide +kernel
theorem dX10_drift_5 : decode cX10_drift 5 = .ok (.iload_n 1, 1) := by decide +kernel
theorem dX10_drift_6 : decode cX10_drift 6 = .ok (.bipush 12, 2) := by decide +kernel
theorem dX10_drift_8 : decode cX10_drift 8 = .ok (.if_icmp .le 6, 3) := by decide +kernel
theorem dX10_drift_11 : decode cX10_drift 11 = .ok (.ldc 62, 2) := by decide +kernel
theorem dX10_drift_13 : decode cX10_drift 13 = .ok (.ireturn, 1) := by decide +kernel
theorem dX10_drift_14 : decode cX10_drift 14 = .ok (.iconst 0, 1) := by decide +kernel
theorem dX10_drift_15 : decode cX10_drift 15 = .ok (.istore_n 2, 1) := by decide +kernel
theorem dX10_drift_16 : decode cX10_drift 16 = .ok (.iload_n 2, 1) := by decide +kernel
theorem dX10_drift_17 : decode cX10_drift 17 = .ok (.iload_n 1, 1) := by decide +kernel
theorem dX10_drift_18 : decode cX10_drift 18 = .ok (.if_icmp .ge 47, 3) := by decide +kernel
theorem dX10_drift_21 : decode cX10_drift 21 = .ok (.aload_n 0, 1) := by decide +kernel
theorem dX10_drift_22 : decode cX10_drift 22 = .ok (.getfield 10, 3) := by decide +kernel
theorem dX10_drift_25 : decode cX10_drift 25 = .ok (.invokevirtual 221, 3) := by decide +kernel
theorem dX10_drift_28 : decode cX10_drift 28 = .ok (.ifCond .eq 37, 3) := by decide +kernel
theorem dX10_drift_31 : decode cX10_drift 31 = .ok (.aload_n 0, 1) := by decide +kernel
theorem dX10_drift_32 : decode cX10_drift 32 = .ok (.aload_n 0, 1) := by decide +kernel
theorem dX10_drift_33 : decode cX10_drift 33 = .ok (.getfield 10, 3) := by decide +kernel
theorem dX10_drift_36 : decode cX10_drift 36 = .ok (.invokevirtual 76, 3) := by decide +kernel
theorem dX10_drift_39 : decode cX10_drift 39 = .ok (.invokevirtual 251, 3) := by decide +kernel
theorem dX10_drift_42 : decode cX10_drift 42 = .ok (.istore_n 3, 1) := by decide +kernel
theorem dX10_drift_43 : decode cX10_drift 43 = .ok (.aload_n 0, 1) := by decide +kernel
theorem dX10_drift_44 : decode cX10_drift 44 = .ok (.sipush 256, 3) := by decide +kernel
theorem dX10_drift_47 : decode cX10_drift 47 = .ok (.invokevirtual 251, 3) := by decide +kernel
theorem dX10_drift_50 : decode cX10_drift 50 = .ok (.istore 4, 2) := by decide +kernel
theorem dX10_drift_52 : decode cX10_drift 52 = .ok (.aload_n 0, 1) := by decide +kernel
theorem dX10_drift_53 : decode cX10_drift 53 = .ok (.iload_n 3, 1) := by decide +kernel
theorem dX10_drift_54 : decode cX10_drift 54 = .ok (.iload 4, 2) := by decide +kernel
theorem dX10_drift_56 : decode cX10_drift 56 = .ok (.invokevirtual 222, 3) := by decide +kernel
theorem dX10_drift_59 : decode cX10_drift 59 = .ok (.iinc 2 1, 3) := by decide +kernel
theorem dX10_drift_62 : decode cX10_drift 62 = .ok (.goto (-46), 3) := by decide +kernel
theorem dX10_drift_65 : decode cX10_drift 65 = .ok (.aload_n 0, 1) := by decide +kernel
theorem dX10_drift_66 : decode cX10_drift 66 = .ok (.getfield 10, 3) := by decide +kernel
theorem dX10_drift_69 : decode cX10_drift 69 = .ok (.invokevirtual 79, 3) := by decide +kernel
theorem dX10_drift_72 : decode cX10_drift 72 = .ok (.ireturn, 1) := by decide +kernel
theorem dX10_undo_0 : decode cX10_undo 0 = .ok (.iload_n 1, 1) := by decide +kernel
theorem dX10_undo_1 : decode cX10_undo 1 = .ok (.iconst 1, 1) := by decide +kernel
theorem dX10_undo_2 : decode cX10_undo 2 = .ok (.if_icmp .lt 9, 3) := by decide +kernel
theorem dX10_undo_5 : decode cX10_undo 5 = .ok (.iload_n 1, 1) := by decide +kernel
theorem dX10_undo_6 : decode cX10_undo 6 = .ok (.bipush 16, 2) := by decide +kernel
theorem dX10_undo_8 : decode cX10_undo 8 = .ok (.if_icmp .le 6, 3) := by decide +kernel
theorem dX10_undo_11 : decode cX10_undo 11 = .ok (.ldc 62, 2) := by decide +kernel
theorem dX10_undo_13 : decode cX10_undo 13 = .ok (.ireturn, 1) := by decide +kernel
theorem dX10_undo_14 : decode cX10_undo 14 = .ok (.iload_n 1, 1) := by decide +kernel
theorem dX10_undo_15 : decode cX10_undo 15 = .ok (.aload_n 0, 1) := by decide +kernel
theorem dX10_undo_16 : decode cX10_undo 16 = .ok (.getfield 33, 3) := by decide +kernel
theorem dX10_undo_19 : decode cX10_undo 19 = .ok (.invokevirtual 150, 3) := by decide +kernel
theorem dX10_undo_22 : decode cX10_undo 22 = .ok (.if_icmp .le 6, 3) := by decide +kernel
theorem dX10_undo_25 : decode cX10_undo 25 = .ok (.ldc 234, 2) := by decide +kernel
theorem dX10_undo_27 : decode cX10_undo 27 = .ok (.ireturn, 1) := by decide +kernel
theorem dX10_undo_28 : decode cX10_undo 28 = .ok (.aload_n 0, 1) := by decide +kernel
theorem dX10_undo_29 : decode cX10_undo 29 = .ok (.getfield 33, 3) := by decide +kernel
theorem dX10_undo_32 : decode cX10_undo 32 = .ok (.iload_n 1, 1) := by decide +kernel
theorem dX10_undo_33 : decode cX10_undo 33 = .ok (.aload_n 0, 1) := by decide +kernel
theorem dX10_undo_34 : decode cX10_undo 34 = .ok (.getfield 10, 3) := by decide +kernel
theorem dX10_undo_37 : decode cX10_undo 37 = .ok (.invokevirtual 254, 3) := by decide +kernel
theorem dX10_undo_40 : decode cX10_undo 40 = .ok (.aload_n 0, 1) := by decide +kernel
theorem dX10_undo_41 : decode cX10_undo 41 = .ok (.iconst 1, 1) := by decide +kernel
theorem dX10_undo_42 : decode cX10_undo 42 = .ok (.putfield 57, 3) := by decide +kernel
theorem dX10_undo_45 : decode cX10_undo 45 = .ok (.aload_n 0, 1) := by decide +kernel
theorem dX10_undo_46 : decode cX10_undo 46 = .ok (.getfield 10, 3) := by decide +kernel
theorem dX10_undo_49 : decode cX10_undo 49 = .ok (.invokevirtual 79, 3) := by decide +kernel
theorem dX10_undo_52 : decode cX10_undo 52 = .ok (.ireturn, 1) := by decide +kernel
theorem dX10_write_0 : decode cX10_write 0 = .ok (.iload_n 1, 1) := by decide +kernel
theorem dX10_write_1 : decode cX10_write 1 = .ok (.invokestatic 180, 3) := by decide +kernel
theorem dX10_write_4 : decode cX10_write 4 = .ok (.ifCond .eq 14, 3) := by decide +kernel
theorem dX10_write_7 : decode cX10_write 7 = .ok (.aload_n 0, 1) := by decide +kernel
theorem dX10_write_8 : decode cX10_write 8 = .ok (.getfield 10, 3) := by decide +kernel
theorem dX10_write_11 : decode cX10_write 11 = .ok (.iload_n 2, 1) := by decide +kernel
theorem dX10_write_12 : decode cX10_write 12 = .ok (.invokevirtual 162, 3) := by decide +kernel
theorem dX10_write_15 : decode cX10_write 15 = .ok (.ifCond .ne 6, 3) := by decide +kernel
theorem dX10_write_18 : decode cX10_write 18 = .ok (.ldc 155, 2) := by decide +kernel
theorem dX10_write_20 : decode cX10_write 20 = .ok (.ireturn, 1) := by decide +kernel
theorem dX10_write_21 : decode cX10_write 21 = .ok (.aload_n 0, 1) := by decide +kernel
theorem dX10_write_22 : decode cX10_write 22 = .ok (.getfield 40, 3) := by decide +kernel
theorem dX10_write_25 : decode cX10_write 25 = .ok (.invokevirtual 258, 3) := by decide +kernel
theorem dX10_write_28 : decode cX10_write 28 = .ok (.ifCond .ne 6, 3) := by decide +kernel
theorem dX10_write_31 : decode cX10_write 31 = .ok (.ldc 67, 2) := by decide +kernel
theorem dX10_write_33 : decode cX10_write 33 = .ok (.ireturn, 1) := by decide +kernel
theorem dX10_write_34 : decode cX10_write 34 = .ok (.aload_n 0, 1) := by decide +kernel
theorem dX10_write_35 : decode cX10_write 35 = .ok (.getfield 40, 3) := by decide +kernel
theorem dX10_write_38 : decode cX10_write 38 = .ok (.iload_n 1, 1) := by decide +kernel
theorem dX10_write_39 : decode cX10_write 39 = .ok (.iload_n 2, 1) := by decide +kernel
theorem dX10_write_40 : decode cX10_write 40 = .ok (.iload_n 3, 1) := by decide +kernel
theorem dX10_write_41 : decode cX10_write 41 = .ok (.invokevirtual 259, 3) := by decide +kernel
theorem dX10_write_44 : decode cX10_write 44 = .ok (.aload_n 0, 1) := by decide +kernel
theorem dX10_write_45 : decode cX10_write 45 = .ok (.getfield 40, 3) := by decide +kernel
theorem dX10_write_48 : decode cX10_write 48 = .ok (.invokevirtual 140, 3) := by decide +kernel
theorem dX10_write_51 : decode cX10_write 51 = .ok (.ireturn, 1) := by decide +kernel
theorem dX10_tear_0 : decode cX10_tear 0 = .ok (.aload_n 0, 1) := by decide +kernel
theorem dX10_tear_1 : decode cX10_tear 1 = .ok (.getfield 40, 3) := by decide +kernel
theorem dX10_tear_4 : decode cX10_tear 4 = .ok (.invokevirtual 140, 3) := by decide +kernel
theorem dX10_tear_7 : decode cX10_tear 7 = .ok (.istore_n 1, 1) := by decide +kernel
theorem dX10_tear_8 : decode cX10_tear 8 = .ok (.aload_n 0, 1) := by decide +kernel
theorem dX10_tear_9 : decode cX10_tear 9 = .ok (.getfield 40, 3) := by decide +kernel
theorem dX10_tear_12 : decode cX10_tear 12 = .ok (.invokevirtual 262, 3) := by decide +kernel
theorem dX10_tear_15 : decode cX10_tear 15 = .ok (.iload_n 1, 1) := by decide +kernel
theorem dX10_tear_16 : decode cX10_tear 16 = .ok (.ireturn, 1) := by decide +kernel
theorem dX10_seed_0 : decode cX10_seed 0 = .ok (.iload_n 1, 1) := by decide +kernel
theorem dX10_seed_1 : decode cX10_seed 1 = .ok (.ifCond .ge 6, 3) := by decide +kernel
theorem dX10_seed_4 : decode cX10_seed 4 = .ok (.ldc 62, 2) := by decide +kernel
theorem dX10_seed_6 : decode cX10_seed 6 = .ok (.ireturn, 1) := by decide +kernel
theorem dX10_seed_7 : decode cX10_seed 7 = .ok (.aload_n 0, 1) := by decide +kernel
theorem dX10_seed_8 : decode cX10_seed 8 = .ok (.getfield 50, 3) := by decide +kernel
theorem dX10_seed_11 : decode cX10_seed 11 = .ok (.istore_n 2, 1) := by decide +kernel
theorem dX10_seed_12 : decode cX10_seed 12 = .ok (.aload_n 0, 1) := by decide +kernel
theorem dX10_seed_13 : decode cX10_seed 13 = .ok (.iload_n 1, 1) := by decide +kernel
theorem dX10_seed_14 : decode cX10_seed 14 = .ok (.putfield 50, 3) := by decide +kernel
theorem dX10_seed_17 : decode cX10_seed 17 = .ok (.iload_n 2, 1) := by decide +kernel
theorem dX10_seed_18 : decode cX10_seed 18 = .ok (.ireturn, 1) := by decide +kernel
theorem dX10_keep_0 : decode cX10_keep 0 = .ok (.aload_n 0, 1) := by decide +kernel
theorem dX10_keep_1 : decode cX10_keep 1 = .ok (.iload_n 1, 1) := by decide +kernel
theorem dX10_keep_2 : decode cX10_keep 2 = .ok (.invokevirtual 263, 3) := by decide +kernel
theorem dX10_keep_5 : decode cX10_keep 5 = .ok (.astore_n 2, 1) := by decide +kernel
theorem dX10_keep_6 : decode cX10_keep 6 = .ok (.aload_n 2, 1) := by decide +kernel
theorem dX10_keep_7 : decode cX10_keep 7 = .ok (.ifnonnull 6, 3) := by decide +kernel
theorem dX10_keep_10 : decode cX10_keep 10 = .ok (.ldc 155, 2) := by decide +kernel
theorem dX10_keep_12 : decode cX10_keep 12 = .ok (.ireturn, 1) := by decide +kernel
theorem dX10_keep_13 : decode cX10_keep 13 = .ok (.aload_n 2, 1) := by decide +kernel
theorem dX10_keep_14 : decode cX10_keep 14 = .ok (.aload_n 0, 1) := by decide +kernel
theorem dX10_keep_15 : decode cX10_keep 15 = .ok (.getfield 10, 3) := by decide +kernel
theorem dX10_keep_18 : decode cX10_keep 18 = .ok (.aload_n 0, 1) := by decide +kernel
theorem dX10_keep_19 : decode cX10_keep 19 = .ok (.getfield 50, 3) := by decide +kernel
theorem dX10_keep_22 : decode cX10_keep 22 = .ok (.invokevirtual 267, 3) := by decide +kernel
theorem dX10_keep_25 : decode cX10_keep 25 = .ok (.aload_n 0, 1) := by decide +kernel
theorem dX10_keep_26 : decode cX10_keep 26 = .ok (.getfield 33, 3) := by decide +kernel
theorem dX10_keep_29 : decode cX10_keep 29 = .ok (.invokevirtual 271, 3) := by decide +kernel
theorem dX10_keep_32 : decode cX10_keep 32 = .ok (.iconst 1, 1) := by decide +kernel
theorem dX10_keep_33 : decode cX10_keep 33 = .ok (.ireturn, 1) := by decide +kernel
theorem dX10_goBack_0 : decode cX10_goBack 0 = .ok (.aload_n 0, 1) := by decide +kernel
theorem dX10_goBack_1 : decode cX10_goBack 1 = .ok (.iload_n 1, 1) := by decide +kernel
theorem dX10_goBack_2 : decode cX10_goBack 2 = .ok (.invokevirtual 263, 3) := by decide +kernel
theorem dX10_goBack_5 : decode cX10_goBack 5 = .ok (.astore_n 2, 1) := by decide +kernel
theorem dX10_goBack_6 : decode cX10_goBack 6 = .ok (.aload_n 2, 1) := by decide +kernel
theorem dX10_goBack_7 : decode cX10_goBack 7 = .ok (.ifnonnull 6, 3) := by decide +kernel
theorem dX10_goBack_10 : decode cX10_goBack 10 = .ok (.ldc 155, 2) := by decide +kernel
theorem dX10_goBack_12 : decode cX10_goBack 12 = .ok (.ireturn, 1) := by decide +kernel
theorem dX10_goBack_13 : decode cX10_goBack 13 = .ok (.aload_n 2, 1) := by decide +kernel
theorem dX10_goBack_14 : decode cX10_goBack 14 = .ok (.invokevirtual 274, 3) := by decide +kernel
theorem dX10_goBack_17 : decode cX10_goBack 17 = .ok (.ifCond .ne 6, 3) := by decide +kernel
theorem dX10_goBack_20 : decode cX10_goBack 20 = .ok (.ldc 234, 2) := by decide +kernel
theorem dX10_goBack_22 : decode cX10_goBack 22 = .ok (.ireturn, 1) := by decide +kernel
theorem dX10_goBack_23 : decode cX10_goBack 23 = .ok (.aload_n 0, 1) := by decide +kernel
theorem dX10_goBack_24 : decode cX10_goBack 24 = .ok (.getfield 10, 3) := by decide +kernel
theorem dX10_goBack_27 : decode cX10_goBack 27 = .ok (.aload_n 2, 1) := by decide +kernel
theorem dX10_goBack_28 : decode cX10_goBack 28 = .ok (.invokevirtual 277, 3) := by decide +kernel
theorem dX10_goBack_31 : decode cX10_goBack 31 = .ok (.invokevirtual 281, 3) := by decide +kernel
theorem dX10_goBack_34 : decode cX10_goBack 34 = .ok (.aload_n 0, 1) := by decide +kernel
theorem dX10_goBack_35 : decode cX10_goBack 35 = .ok (.aload_n 2, 1) := by decide +kernel
theorem dX10_goBack_36 : decode cX10_goBack 36 = .ok (.invokevirtual 285, 3) := by decide +kernel
theorem dX10_goBack_39 : decode cX10_goBack 39 = .ok (.putfield 50, 3) := by decide +kernel
theorem dX10_goBack_42 : decode cX10_goBack 42 = .ok (.aload_n 0, 1) := by decide +kernel
theorem dX10_goBack_43 : decode cX10_goBack 43 = .ok (.iconst 1, 1) := by decide +kernel
theorem dX10_goBack_44 : decode cX10_goBack 44 = .ok (.putfield 57, 3) := by decide +kernel
theorem dX10_goBack_47 : decode cX10_goBack 47 = .ok (.aload_n 0, 1) := by decide +kernel
theorem dX10_goBack_48 : decode cX10_goBack 48 = .ok (.getfield 33, 3) := by decide +kernel
theorem dX10_goBack_51 : decode cX10_goBack 51 = .ok (.invokevirtual 271, 3) := by decide +kernel
theorem dX10_goBack_54 : decode cX10_goBack 54 = .ok (.iconst 1, 1) := by decide +kernel
theorem dX10_goBack_55 : decode cX10_goBack 55 = .ok (.ireturn, 1) := by decide +kernel
theorem dX10_isWord_0 : decode cX10_isWord 0 = .ok (.iload_n 0, 1) := by decide +kernel
theorem dX10_isWord_1 : decode cX10_isWord 1 = .ok (.ifCond .lt 13, 3) := by decide +kernel
theorem dX10_isWord_4 : decode cX10_isWord 4 = .ok (.iload_n 0, 1) := by decide +kernel
theorem dX10_isWord_5 : decode cX10_isWord 5 = .ok (.bipush 8, 2) := by decide +kernel
theorem dX10_isWord_7 : decode cX10_isWord 7 = .ok (.if_icmp .ge 7, 3) := by decide +kernel
theorem dX10_isWord_10 : decode cX10_isWord 10 = .ok (.iconst 1, 1) := by decide +kernel
theorem dX10_isWord_11 : decode cX10_isWord 11 = .ok (.goto 4, 3) := by decide +kernel
theorem dX10_isWord_14 : decode cX10_isWord 14 = .ok (.iconst 0, 1) := by decide +kernel
theorem dX10_isWord_15 : decode cX10_isWord 15 = .ok (.ireturn, 1) := by decide +kernel
theorem dX10_setOfWord_0 : decode cX10_setOfWord 0 = .ok (.iconst 1, 1) := by decide +kernel
theorem dX10_setOfWord_1 : decode cX10_setOfWord 1 = .ok (.iload_n 0, 1) := by decide +kernel
theorem dX10_setOfWord_2 : decode cX10_setOfWord 2 = .ok (.ishl, 1) := by decide +kernel
theorem dX10_setOfWord_3 : decode cX10_setOfWord 3 = .ok (.ireturn, 1) := by decide +kernel
theorem dX10_aheadOfDeed_0 : decode cX10_aheadOfDeed 0 = .ok (.aload_n 0, 1) := by decide +kernel
theorem dX10_aheadOfDeed_1 : decode cX10_aheadOfDeed 1 = .ok (.getfield 33, 3) := by decide +kernel
theorem dX10_aheadOfDeed_4 : decode cX10_aheadOfDeed 4 = .ok (.aload_n 0, 1) := by decide +kernel
theorem dX10_aheadOfDeed_5 : decode cX10_aheadOfDeed 5 = .ok (.getfield 10, 3) := by decide +kernel
theorem dX10_aheadOfDeed_8 : decode cX10_aheadOfDeed 8 = .ok (.invokevirtual 288, 3) := by decide +kernel
theorem dX10_aheadOfDeed_11 : decode cX10_aheadOfDeed 11 = .ok (.aload_n 0, 1) := by decide +kernel
theorem dX10_aheadOfDeed_12 : decode cX10_aheadOfDeed 12 = .ok (.iconst 1, 1) := by decide +kernel
theorem dX10_aheadOfDeed_13 : decode cX10_aheadOfDeed 13 = .ok (.putfield 57, 3) := by decide +kernel
theorem dX10_aheadOfDeed_16 : decode cX10_aheadOfDeed 16 = .ok (.return_, 1) := by decide +kernel
theorem dX10_comes_0 : decode cX10_comes 0 = .ok (.aload_n 0, 1) := by decide +kernel
theorem dX10_comes_1 : decode cX10_comes 1 = .ok (.invokevirtual 92, 3) := by decide +kernel
theorem dX10_comes_4 : decode cX10_comes 4 = .ok (.aload_n 0, 1) := by decide +kernel
theorem dX10_comes_5 : decode cX10_comes 5 = .ok (.getfield 10, 3) := by decide +kernel
theorem dX10_comes_8 : decode cX10_comes 8 = .ok (.iload_n 1, 1) := by decide +kernel
theorem dX10_comes_9 : decode cX10_comes 9 = .ok (.iload_n 2, 1) := by decide +kernel
theorem dX10_comes_10 : decode cX10_comes 10 = .ok (.invokevirtual 105, 3) := by decide +kernel
theorem dX10_comes_13 : decode cX10_comes 13 = .ok (.return_, 1) := by decide +kernel
theorem dX10_draw_0 : decode cX10_draw 0 = .ok (.aload_n 0, 1) := by decide +kernel
theorem dX10_draw_1 : decode cX10_draw 1 = .ok (.aload_n 0, 1) := by decide +kernel
theorem dX10_draw_2 : decode cX10_draw 2 = .ok (.getfield 50, 3) := by decide +kernel
theorem dX10_draw_5 : decode cX10_draw 5 = .ok (.i2l, 1) := by decide +kernel
theorem dX10_draw_6 : decode cX10_draw 6 = .ok (.ldc2_w 291, 3) := by decide +kernel
theorem dX10_draw_9 : decode cX10_draw 9 = .ok (.lmul, 1) := by decide +kernel
theorem dX10_draw_10 : decode cX10_draw 10 = .ok (.ldc2_w 293, 3) := by decide +kernel
theorem dX10_draw_13 : decode cX10_draw 13 = .ok (.ladd, 1) := by decide +kernel
theorem dX10_draw_14 : decode cX10_draw 14 = .ok (.ldc2_w 295, 3) := by decide +kernel
theorem dX10_draw_17 : decode cX10_draw 17 = .ok (.lrem, 1) := by decide +kernel
theorem dX10_draw_18 : decode cX10_draw 18 = .ok (.l2i, 1) := by decide +kernel
theorem dX10_draw_19 : decode cX10_draw 19 = .ok (.putfield 50, 3) := by decide +kernel
theorem dX10_draw_22 : decode cX10_draw 22 = .ok (.iload_n 1, 1) := by decide +kernel
theorem dX10_draw_23 : decode cX10_draw 23 = .ok (.iconst 1, 1) := by decide +kernel
theorem dX10_draw_24 : decode cX10_draw 24 = .ok (.if_icmp .ge 7, 3) := by decide +kernel
theorem dX10_draw_27 : decode cX10_draw 27 = .ok (.iconst 0, 1) := by decide +kernel
theorem dX10_draw_28 : decode cX10_draw 28 = .ok (.goto 13, 3) := by decide +kernel
theorem dX10_draw_31 : decode cX10_draw 31 = .ok (.aload_n 0, 1) := by decide +kernel
theorem dX10_draw_32 : decode cX10_draw 32 = .ok (.getfield 50, 3) := by decide +kernel
theorem dX10_draw_35 : decode cX10_draw 35 = .ok (.ldc_w 297, 3) := by decide +kernel
theorem dX10_draw_38 : decode cX10_draw 38 = .ok (.idiv, 1) := by decide +kernel
theorem dX10_draw_39 : decode cX10_draw 39 = .ok (.iload_n 1, 1) := by decide +kernel
theorem dX10_draw_40 : decode cX10_draw 40 = .ok (.irem, 1) := by decide +kernel
theorem dX10_draw_41 : decode cX10_draw 41 = .ok (.ireturn, 1) := by decide +kernel
theorem dX10_imageOf_0 : decode cX10_imageOf 0 = .ok (.iload_n 1, 1) := by decide +kernel
theorem dX10_imageOf_1 : decode cX10_imageOf 1 = .ok (.ifCond .lt 17, 3) := by decide +kernel
theorem dX10_imageOf_4 : decode cX10_imageOf 4 = .ok (.iload_n 1, 1) := by decide +kernel
theorem dX10_imageOf_5 : decode cX10_imageOf 5 = .ok (.iconst 2, 1) := by decide +kernel
theorem dX10_imageOf_6 : decode cX10_imageOf 6 = .ok (.if_icmp .ge 12, 3) := by decide +kernel
theorem dX10_imageOf_9 : decode cX10_imageOf 9 = .ok (.aload_n 0, 1) := by decide +kernel
theorem dX10_imageOf_10 : decode cX10_imageOf 10 = .ok (.getfield 46, 3) := by decide +kernel
theorem dX10_imageOf_13 : decode cX10_imageOf 13 = .ok (.iload_n 1, 1) := by decide +kernel
theorem dX10_imageOf_14 : decode cX10_imageOf 14 = .ok (.aaload, 1) := by decide +kernel
theorem dX10_imageOf_15 : decode cX10_imageOf 15 = .ok (.goto 4, 3) := by decide +kernel
theorem dX10_imageOf_18 : decode cX10_imageOf 18 = .ok (.aconst_null, 1) := by decide +kernel
theorem dX10_imageOf_19 : decode cX10_imageOf 19 = .ok (.areturn, 1) := by decide +kernel
theorem dX10_found_0 : decode cX10_found 0 = .ok (.aload_n 0, 1) := by decide +kernel
theorem dX10_found_1 : decode cX10_found 1 = .ok (.getfield 57, 3) := by decide +kernel
theorem dX10_found_4 : decode cX10_found 4 = .ok (.ifCond .eq 84, 3) := by decide +kernel
theorem dX10_found_7 : decode cX10_found 7 = .ok (.aload_n 0, 1) := by decide +kernel
theorem dX10_found_8 : decode cX10_found 8 = .ok (.getfield 19, 3) := by decide +kernel
theorem dX10_found_11 : decode cX10_found 11 = .ok (.getfield 165, 3) := by decide +kernel
theorem dX10_found_14 : decode cX10_found 14 = .ok (.aload_n 0, 1) := by decide +kernel
theorem dX10_found_15 : decode cX10_found 15 = .ok (.getfield 10, 3) := by decide +kernel
theorem dX10_found_18 : decode cX10_found 18 = .ok (.invokevirtual 298, 3) := by decide +kernel
theorem dX10_found_21 : decode cX10_found 21 = .ok (.aload_n 0, 1) := by decide +kernel
theorem dX10_found_22 : decode cX10_found 22 = .ok (.getfield 19, 3) := by decide +kernel
theorem dX10_found_25 : decode cX10_found 25 = .ok (.getfield 143, 3) := by decide +kernel
theorem dX10_found_28 : decode cX10_found 28 = .ok (.aload_n 0, 1) := by decide +kernel
theorem dX10_found_29 : decode cX10_found 29 = .ok (.getfield 19, 3) := by decide +kernel
theorem dX10_found_32 : decode cX10_found 32 = .ok (.getfield 165, 3) := by decide +kernel
theorem dX10_found_35 : decode cX10_found 35 = .ok (.invokevirtual 301, 3) := by decide +kernel
theorem dX10_found_38 : decode cX10_found 38 = .ok (.aload_n 0, 1) := by decide +kernel
theorem dX10_found_39 : decode cX10_found 39 = .ok (.getfield 19, 3) := by decide +kernel
theorem dX10_found_42 : decode cX10_found 42 = .ok (.getfield 112, 3) := by decide +kernel
theorem dX10_found_45 : decode cX10_found 45 = .ok (.aload_n 0, 1) := by decide +kernel
theorem dX10_found_46 : decode cX10_found 46 = .ok (.getfield 19, 3) := by decide +kernel
theorem dX10_found_49 : decode cX10_found 49 = .ok (.getfield 165, 3) := by decide +kernel
theorem dX10_found_52 : decode cX10_found 52 = .ok (.aload_n 0, 1) := by decide +kernel
theorem dX10_found_53 : decode cX10_found 53 = .ok (.getfield 19, 3) := by decide +kernel
theorem dX10_found_56 : decode cX10_found 56 = .ok (.getfield 143, 3) := by decide +kernel
theorem dX10_found_59 : decode cX10_found 59 = .ok (.invokevirtual 305, 3) := by decide +kernel
theorem dX10_found_62 : decode cX10_found 62 = .ok (.aload_n 0, 1) := by decide +kernel
theorem dX10_found_63 : decode cX10_found 63 = .ok (.getfield 19, 3) := by decide +kernel
theorem dX10_found_66 : decode cX10_found 66 = .ok (.getfield 121, 3) := by decide +kernel
theorem dX10_found_69 : decode cX10_found 69 = .ok (.aload_n 0, 1) := by decide +kernel
theorem dX10_found_70 : decode cX10_found 70 = .ok (.getfield 10, 3) := by decide +kernel
theorem dX10_found_73 : decode cX10_found 73 = .ok (.aload_n 0, 1) := by decide +kernel
theorem dX10_found_74 : decode cX10_found 74 = .ok (.getfield 19, 3) := by decide +kernel
theorem dX10_found_77 : decode cX10_found 77 = .ok (.getfield 112, 3) := by decide +kernel
theorem dX10_found_80 : decode cX10_found 80 = .ok (.invokevirtual 308, 3) := by decide +kernel
theorem dX10_found_83 : decode cX10_found 83 = .ok (.aload_n 0, 1) := by decide +kernel
theorem dX10_found_84 : decode cX10_found 84 = .ok (.iconst 0, 1) := by decide +kernel
theorem dX10_found_85 : decode cX10_found 85 = .ok (.putfield 57, 3) := by decide +kernel
theorem dX10_found_88 : decode cX10_found 88 = .ok (.aload_n 0, 1) := by decide +kernel
theorem dX10_found_89 : decode cX10_found 89 = .ok (.getfield 19, 3) := by decide +kernel
theorem dX10_found_92 : decode cX10_found 92 = .ok (.areturn, 1) := by decide +kernel
