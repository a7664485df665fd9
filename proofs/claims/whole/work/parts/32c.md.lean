theorem d_TripleLinesModel_isBefore_0 : decode b_TripleLinesModel_isBefore 0 = .ok (.iconst 0, 1) := by decide +kernel
theorem d_TripleLinesModel_isBefore_1 : decode b_TripleLinesModel_isBefore 1 = .ok (.istore_n 3, 1) := by decide +kernel
theorem d_TripleLinesModel_isBefore_2 : decode b_TripleLinesModel_isBefore 2 = .ok (.aload_n 0, 1) := by decide +kernel
theorem d_TripleLinesModel_isBefore_3 : decode b_TripleLinesModel_isBefore 3 = .ok (.getfield 46, 3) := by decide +kernel
theorem d_TripleLinesModel_isBefore_6 : decode b_TripleLinesModel_isBefore 6 = .ok (.aload_n 0, 1) := by decide +kernel
theorem d_TripleLinesModel_isBefore_7 : decode b_TripleLinesModel_isBefore 7 = .ok (.getfield 49, 3) := by decide +kernel
theorem d_TripleLinesModel_isBefore_10 : decode b_TripleLinesModel_isBefore 10 = .ok (.iload_n 1, 1) := by decide +kernel
theorem d_TripleLinesModel_isBefore_11 : decode b_TripleLinesModel_isBefore 11 = .ok (.iaload, 1) := by decide +kernel
theorem d_TripleLinesModel_isBefore_12 : decode b_TripleLinesModel_isBefore 12 = .ok (.iload_n 3, 1) := by decide +kernel
theorem d_TripleLinesModel_isBefore_13 : decode b_TripleLinesModel_isBefore 13 = .ok (.iadd, 1) := by decide +kernel
theorem d_TripleLinesModel_isBefore_14 : decode b_TripleLinesModel_isBefore 14 = .ok (.iaload, 1) := by decide +kernel
theorem d_TripleLinesModel_isBefore_15 : decode b_TripleLinesModel_isBefore 15 = .ok (.aload_n 0, 1) := by decide +kernel
theorem d_TripleLinesModel_isBefore_16 : decode b_TripleLinesModel_isBefore 16 = .ok (.getfield 46, 3) := by decide +kernel
theorem d_TripleLinesModel_isBefore_19 : decode b_TripleLinesModel_isBefore 19 = .ok (.aload_n 0, 1) := by decide +kernel
theorem d_TripleLinesModel_isBefore_20 : decode b_TripleLinesModel_isBefore 20 = .ok (.getfield 49, 3) := by decide +kernel
theorem d_TripleLinesModel_isBefore_23 : decode b_TripleLinesModel_isBefore 23 = .ok (.iload_n 2, 1) := by decide +kernel
theorem d_TripleLinesModel_isBefore_24 : decode b_TripleLinesModel_isBefore 24 = .ok (.iaload, 1) := by decide +kernel
theorem d_TripleLinesModel_isBefore_25 : decode b_TripleLinesModel_isBefore 25 = .ok (.iload_n 3, 1) := by decide +kernel
theorem d_TripleLinesModel_isBefore_26 : decode b_TripleLinesModel_isBefore 26 = .ok (.iadd, 1) := by decide +kernel
theorem d_TripleLinesModel_isBefore_27 : decode b_TripleLinesModel_isBefore 27 = .ok (.iaload, 1) := by decide +kernel
theorem d_TripleLinesModel_isBefore_28 : decode b_TripleLinesModel_isBefore 28 = .ok (.if_icmp .ne 27, 3) := by decide +kernel
theorem d_TripleLinesModel_isBefore_31 : decode b_TripleLinesModel_isBefore 31 = .ok (.aload_n 0, 1) := by decide +kernel
theorem d_TripleLinesModel_isBefore_32 : decode b_TripleLinesModel_isBefore 32 = .ok (.getfield 46, 3) := by decide +kernel
theorem d_TripleLinesModel_isBefore_35 : decode b_TripleLinesModel_isBefore 35 = .ok (.aload_n 0, 1) := by decide +kernel
theorem d_TripleLinesModel_isBefore_36 : decode b_TripleLinesModel_isBefore 36 = .ok (.getfield 49, 3) := by decide +kernel
theorem d_TripleLinesModel_isBefore_39 : decode b_TripleLinesModel_isBefore 39 = .ok (.iload_n 1, 1) := by decide +kernel
theorem d_TripleLinesModel_isBefore_40 : decode b_TripleLinesModel_isBefore 40 = .ok (.iaload, 1) := by decide +kernel
theorem d_TripleLinesModel_isBefore_41 : decode b_TripleLinesModel_isBefore 41 = .ok (.iload_n 3, 1) := by decide +kernel
theorem d_TripleLinesModel_isBefore_42 : decode b_TripleLinesModel_isBefore 42 = .ok (.iadd, 1) := by decide +kernel
theorem d_TripleLinesModel_isBefore_43 : decode b_TripleLinesModel_isBefore 43 = .ok (.iaload, 1) := by decide +kernel
theorem d_TripleLinesModel_isBefore_44 : decode b_TripleLinesModel_isBefore 44 = .ok (.bipush 10, 2) := by decide +kernel
theorem d_TripleLinesModel_isBefore_46 : decode b_TripleLinesModel_isBefore 46 = .ok (.if_icmp .eq 9, 3) := by decide +kernel
theorem d_TripleLinesModel_isBefore_49 : decode b_TripleLinesModel_isBefore 49 = .ok (.iinc 3 1, 3) := by decide +kernel
theorem d_TripleLinesModel_isBefore_52 : decode b_TripleLinesModel_isBefore 52 = .ok (.goto (-50), 3) := by decide +kernel
theorem d_TripleLinesModel_isBefore_55 : decode b_TripleLinesModel_isBefore 55 = .ok (.aload_n 0, 1) := by decide +kernel
theorem d_TripleLinesModel_isBefore_56 : decode b_TripleLinesModel_isBefore 56 = .ok (.getfield 46, 3) := by decide +kernel
theorem d_TripleLinesModel_isBefore_59 : decode b_TripleLinesModel_isBefore 59 = .ok (.aload_n 0, 1) := by decide +kernel
theorem d_TripleLinesModel_isBefore_60 : decode b_TripleLinesModel_isBefore 60 = .ok (.getfield 49, 3) := by decide +kernel
theorem d_TripleLinesModel_isBefore_63 : decode b_TripleLinesModel_isBefore 63 = .ok (.iload_n 1, 1) := by decide +kernel
theorem d_TripleLinesModel_isBefore_64 : decode b_TripleLinesModel_isBefore 64 = .ok (.iaload, 1) := by decide +kernel
theorem d_TripleLinesModel_isBefore_65 : decode b_TripleLinesModel_isBefore 65 = .ok (.iload_n 3, 1) := by decide +kernel
theorem d_TripleLinesModel_isBefore_66 : decode b_TripleLinesModel_isBefore 66 = .ok (.iadd, 1) := by decide +kernel
theorem d_TripleLinesModel_isBefore_67 : decode b_TripleLinesModel_isBefore 67 = .ok (.iaload, 1) := by decide +kernel
theorem d_TripleLinesModel_isBefore_68 : decode b_TripleLinesModel_isBefore 68 = .ok (.aload_n 0, 1) := by decide +kernel
theorem d_TripleLinesModel_isBefore_69 : decode b_TripleLinesModel_isBefore 69 = .ok (.getfield 46, 3) := by decide +kernel
theorem d_TripleLinesModel_isBefore_72 : decode b_TripleLinesModel_isBefore 72 = .ok (.aload_n 0, 1) := by decide +kernel
theorem d_TripleLinesModel_isBefore_73 : decode b_TripleLinesModel_isBefore 73 = .ok (.getfield 49, 3) := by decide +kernel
theorem d_TripleLinesModel_isBefore_76 : decode b_TripleLinesModel_isBefore 76 = .ok (.iload_n 2, 1) := by decide +kernel
theorem d_TripleLinesModel_isBefore_77 : decode b_TripleLinesModel_isBefore 77 = .ok (.iaload, 1) := by decide +kernel
theorem d_TripleLinesModel_isBefore_78 : decode b_TripleLinesModel_isBefore 78 = .ok (.iload_n 3, 1) := by decide +kernel
theorem d_TripleLinesModel_isBefore_79 : decode b_TripleLinesModel_isBefore 79 = .ok (.iadd, 1) := by decide +kernel
theorem d_TripleLinesModel_isBefore_80 : decode b_TripleLinesModel_isBefore 80 = .ok (.iaload, 1) := by decide +kernel
theorem d_TripleLinesModel_isBefore_81 : decode b_TripleLinesModel_isBefore 81 = .ok (.if_icmp .ge 7, 3) := by decide +kernel
theorem d_TripleLinesModel_isBefore_84 : decode b_TripleLinesModel_isBefore 84 = .ok (.iconst 1, 1) := by decide +kernel
theorem d_TripleLinesModel_isBefore_85 : decode b_TripleLinesModel_isBefore 85 = .ok (.goto 4, 3) := by decide +kernel
theorem d_TripleLinesModel_isBefore_88 : decode b_TripleLinesModel_isBefore 88 = .ok (.iconst 0, 1) := by decide +kernel
theorem d_TripleLinesModel_isBefore_89 : decode b_TripleLinesModel_isBefore 89 = .ok (.ireturn, 1) := by decide +kernel
theorem d_TripleLinesModel_print_0 : decode b_TripleLinesModel_print 0 = .ok (.iload_n 1, 1) := by decide +kernel
theorem d_TripleLinesModel_print_1 : decode b_TripleLinesModel_print 1 = .ok (.iconst 0, 1) := by decide +kernel
theorem d_TripleLinesModel_print_2 : decode b_TripleLinesModel_print 2 = .ok (.iconst 1, 1) := by decide +kernel
theorem d_TripleLinesModel_print_3 : decode b_TripleLinesModel_print 3 = .ok (.invokestatic 63, 3) := by decide +kernel
theorem d_TripleLinesModel_print_6 : decode b_TripleLinesModel_print 6 = .ok (.ifCond .ne 5, 3) := by decide +kernel
theorem d_TripleLinesModel_print_9 : decode b_TripleLinesModel_print 9 = .ok (.iconst (-1), 1) := by decide +kernel
theorem d_TripleLinesModel_print_10 : decode b_TripleLinesModel_print 10 = .ok (.ireturn, 1) := by decide +kernel
theorem d_TripleLinesModel_print_11 : decode b_TripleLinesModel_print 11 = .ok (.aload_n 0, 1) := by decide +kernel
theorem d_TripleLinesModel_print_12 : decode b_TripleLinesModel_print 12 = .ok (.iconst 0, 1) := by decide +kernel
theorem d_TripleLinesModel_print_13 : decode b_TripleLinesModel_print 13 = .ok (.putfield 226, 3) := by decide +kernel
theorem d_TripleLinesModel_print_16 : decode b_TripleLinesModel_print 16 = .ok (.iconst 0, 1) := by decide +kernel
theorem d_TripleLinesModel_print_17 : decode b_TripleLinesModel_print 17 = .ok (.istore_n 2, 1) := by decide +kernel
theorem d_TripleLinesModel_print_18 : decode b_TripleLinesModel_print 18 = .ok (.iload_n 2, 1) := by decide +kernel
theorem d_TripleLinesModel_print_19 : decode b_TripleLinesModel_print 19 = .ok (.aload_n 0, 1) := by decide +kernel
theorem d_TripleLinesModel_print_20 : decode b_TripleLinesModel_print 20 = .ok (.getfield 211, 3) := by decide +kernel
theorem d_TripleLinesModel_print_23 : decode b_TripleLinesModel_print 23 = .ok (.if_icmp .ge 71, 3) := by decide +kernel
theorem d_TripleLinesModel_print_26 : decode b_TripleLinesModel_print 26 = .ok (.aload_n 0, 1) := by decide +kernel
theorem d_TripleLinesModel_print_27 : decode b_TripleLinesModel_print 27 = .ok (.getfield 49, 3) := by decide +kernel
theorem d_TripleLinesModel_print_30 : decode b_TripleLinesModel_print 30 = .ok (.iload_n 2, 1) := by decide +kernel
theorem d_TripleLinesModel_print_31 : decode b_TripleLinesModel_print 31 = .ok (.aload_n 0, 1) := by decide +kernel
theorem d_TripleLinesModel_print_32 : decode b_TripleLinesModel_print 32 = .ok (.getfield 226, 3) := by decide +kernel
theorem d_TripleLinesModel_print_35 : decode b_TripleLinesModel_print 35 = .ok (.iastore, 1) := by decide +kernel
theorem d_TripleLinesModel_print_36 : decode b_TripleLinesModel_print 36 = .ok (.iconst 0, 1) := by decide +kernel
theorem d_TripleLinesModel_print_37 : decode b_TripleLinesModel_print 37 = .ok (.istore_n 3, 1) := by decide +kernel
theorem d_TripleLinesModel_print_38 : decode b_TripleLinesModel_print 38 = .ok (.iload_n 3, 1) := by decide +kernel
theorem d_TripleLinesModel_print_39 : decode b_TripleLinesModel_print 39 = .ok (.iconst 4, 1) := by decide +kernel
theorem d_TripleLinesModel_print_40 : decode b_TripleLinesModel_print 40 = .ok (.if_icmp .ge 36, 3) := by decide +kernel
theorem d_TripleLinesModel_print_43 : decode b_TripleLinesModel_print 43 = .ok (.aload_n 0, 1) := by decide +kernel
theorem d_TripleLinesModel_print_44 : decode b_TripleLinesModel_print 44 = .ok (.getfield 37, 3) := by decide +kernel
theorem d_TripleLinesModel_print_47 : decode b_TripleLinesModel_print 47 = .ok (.iconst 4, 1) := by decide +kernel
theorem d_TripleLinesModel_print_48 : decode b_TripleLinesModel_print 48 = .ok (.iload_n 2, 1) := by decide +kernel
theorem d_TripleLinesModel_print_49 : decode b_TripleLinesModel_print 49 = .ok (.imul, 1) := by decide +kernel
theorem d_TripleLinesModel_print_50 : decode b_TripleLinesModel_print 50 = .ok (.iload_n 3, 1) := by decide +kernel
theorem d_TripleLinesModel_print_51 : decode b_TripleLinesModel_print 51 = .ok (.iadd, 1) := by decide +kernel
theorem d_TripleLinesModel_print_52 : decode b_TripleLinesModel_print 52 = .ok (.iaload, 1) := by decide +kernel
theorem d_TripleLinesModel_print_53 : decode b_TripleLinesModel_print 53 = .ok (.ifCond .lt 17, 3) := by decide +kernel
theorem d_TripleLinesModel_print_56 : decode b_TripleLinesModel_print 56 = .ok (.aload_n 0, 1) := by decide +kernel
theorem d_TripleLinesModel_print_57 : decode b_TripleLinesModel_print 57 = .ok (.aload_n 0, 1) := by decide +kernel
theorem d_TripleLinesModel_print_58 : decode b_TripleLinesModel_print 58 = .ok (.getfield 37, 3) := by decide +kernel
theorem d_TripleLinesModel_print_61 : decode b_TripleLinesModel_print 61 = .ok (.iconst 4, 1) := by decide +kernel
theorem d_TripleLinesModel_print_62 : decode b_TripleLinesModel_print 62 = .ok (.iload_n 2, 1) := by decide +kernel
theorem d_TripleLinesModel_print_63 : decode b_TripleLinesModel_print 63 = .ok (.imul, 1) := by decide +kernel
theorem d_TripleLinesModel_print_64 : decode b_TripleLinesModel_print 64 = .ok (.iload_n 3, 1) := by decide +kernel
theorem d_TripleLinesModel_print_65 : decode b_TripleLinesModel_print 65 = .ok (.iadd, 1) := by decide +kernel
theorem d_TripleLinesModel_print_66 : decode b_TripleLinesModel_print 66 = .ok (.iaload, 1) := by decide +kernel
theorem d_TripleLinesModel_print_67 : decode b_TripleLinesModel_print 67 = .ok (.invokevirtual 253, 3) := by decide +kernel
theorem d_TripleLinesModel_print_70 : decode b_TripleLinesModel_print 70 = .ok (.iinc 3 1, 3) := by decide +kernel
theorem d_TripleLinesModel_print_73 : decode b_TripleLinesModel_print 73 = .ok (.goto (-35), 3) := by decide +kernel
theorem d_TripleLinesModel_print_76 : decode b_TripleLinesModel_print 76 = .ok (.aload_n 0, 1) := by decide +kernel
theorem d_TripleLinesModel_print_77 : decode b_TripleLinesModel_print 77 = .ok (.bipush 46, 2) := by decide +kernel
theorem d_TripleLinesModel_print_79 : decode b_TripleLinesModel_print 79 = .ok (.invokevirtual 229, 3) := by decide +kernel
theorem d_TripleLinesModel_print_82 : decode b_TripleLinesModel_print 82 = .ok (.aload_n 0, 1) := by decide +kernel
theorem d_TripleLinesModel_print_83 : decode b_TripleLinesModel_print 83 = .ok (.bipush 10, 2) := by decide +kernel
theorem d_TripleLinesModel_print_85 : decode b_TripleLinesModel_print 85 = .ok (.invokevirtual 229, 3) := by decide +kernel
theorem d_TripleLinesModel_print_88 : decode b_TripleLinesModel_print 88 = .ok (.iinc 2 1, 3) := by decide +kernel
theorem d_TripleLinesModel_print_91 : decode b_TripleLinesModel_print 91 = .ok (.goto (-73), 3) := by decide +kernel
theorem d_TripleLinesModel_print_94 : decode b_TripleLinesModel_print 94 = .ok (.aload_n 0, 1) := by decide +kernel
theorem d_TripleLinesModel_print_95 : decode b_TripleLinesModel_print 95 = .ok (.getfield 49, 3) := by decide +kernel
theorem d_TripleLinesModel_print_98 : decode b_TripleLinesModel_print 98 = .ok (.aload_n 0, 1) := by decide +kernel
theorem d_TripleLinesModel_print_99 : decode b_TripleLinesModel_print 99 = .ok (.getfield 211, 3) := by decide +kernel
theorem d_TripleLinesModel_print_102 : decode b_TripleLinesModel_print 102 = .ok (.aload_n 0, 1) := by decide +kernel
theorem d_TripleLinesModel_print_103 : decode b_TripleLinesModel_print 103 = .ok (.getfield 226, 3) := by decide +kernel
theorem d_TripleLinesModel_print_106 : decode b_TripleLinesModel_print 106 = .ok (.iastore, 1) := by decide +kernel
theorem d_TripleLinesModel_print_107 : decode b_TripleLinesModel_print 107 = .ok (.aload_n 0, 1) := by decide +kernel
theorem d_TripleLinesModel_print_108 : decode b_TripleLinesModel_print 108 = .ok (.getfield 226, 3) := by decide +kernel
theorem d_TripleLinesModel_print_111 : decode b_TripleLinesModel_print 111 = .ok (.sipush 3000, 3) := by decide +kernel
theorem d_TripleLinesModel_print_114 : decode b_TripleLinesModel_print 114 = .ok (.if_icmp .le 6, 3) := by decide +kernel
theorem d_TripleLinesModel_print_117 : decode b_TripleLinesModel_print 117 = .ok (.bipush (-3), 2) := by decide +kernel
theorem d_TripleLinesModel_print_119 : decode b_TripleLinesModel_print 119 = .ok (.ireturn, 1) := by decide +kernel
theorem d_TripleLinesModel_print_120 : decode b_TripleLinesModel_print 120 = .ok (.aload_n 0, 1) := by decide +kernel
theorem d_TripleLinesModel_print_121 : decode b_TripleLinesModel_print 121 = .ok (.iconst 0, 1) := by decide +kernel
theorem d_TripleLinesModel_print_122 : decode b_TripleLinesModel_print 122 = .ok (.putfield 76, 3) := by decide +kernel
theorem d_TripleLinesModel_print_125 : decode b_TripleLinesModel_print 125 = .ok (.iconst 0, 1) := by decide +kernel
theorem d_TripleLinesModel_print_126 : decode b_TripleLinesModel_print 126 = .ok (.istore_n 2, 1) := by decide +kernel
theorem d_TripleLinesModel_print_127 : decode b_TripleLinesModel_print 127 = .ok (.iload_n 2, 1) := by decide +kernel
theorem d_TripleLinesModel_print_128 : decode b_TripleLinesModel_print 128 = .ok (.aload_n 0, 1) := by decide +kernel
theorem d_TripleLinesModel_print_129 : decode b_TripleLinesModel_print 129 = .ok (.getfield 211, 3) := by decide +kernel
theorem d_TripleLinesModel_print_132 : decode b_TripleLinesModel_print 132 = .ok (.if_icmp .ge 16, 3) := by decide +kernel
theorem d_TripleLinesModel_print_135 : decode b_TripleLinesModel_print 135 = .ok (.aload_n 0, 1) := by decide +kernel
theorem d_TripleLinesModel_print_136 : decode b_TripleLinesModel_print 136 = .ok (.getfield 52, 3) := by decide +kernel
theorem d_TripleLinesModel_print_139 : decode b_TripleLinesModel_print 139 = .ok (.iload_n 2, 1) := by decide +kernel
theorem d_TripleLinesModel_print_140 : decode b_TripleLinesModel_print 140 = .ok (.iconst 0, 1) := by decide +kernel
theorem d_TripleLinesModel_print_141 : decode b_TripleLinesModel_print 141 = .ok (.bastore, 1) := by decide +kernel
theorem d_TripleLinesModel_print_142 : decode b_TripleLinesModel_print 142 = .ok (.iinc 2 1, 3) := by decide +kernel
theorem d_TripleLinesModel_print_145 : decode b_TripleLinesModel_print 145 = .ok (.goto (-18), 3) := by decide +kernel
theorem d_TripleLinesModel_print_148 : decode b_TripleLinesModel_print 148 = .ok (.iconst 0, 1) := by decide +kernel
theorem d_TripleLinesModel_print_149 : decode b_TripleLinesModel_print 149 = .ok (.istore_n 2, 1) := by decide +kernel
theorem d_TripleLinesModel_print_150 : decode b_TripleLinesModel_print 150 = .ok (.iload_n 2, 1) := by decide +kernel
theorem d_TripleLinesModel_print_151 : decode b_TripleLinesModel_print 151 = .ok (.aload_n 0, 1) := by decide +kernel
theorem d_TripleLinesModel_print_152 : decode b_TripleLinesModel_print 152 = .ok (.getfield 211, 3) := by decide +kernel
theorem d_TripleLinesModel_print_155 : decode b_TripleLinesModel_print 155 = .ok (.if_icmp .ge 121, 3) := by decide +kernel
theorem d_TripleLinesModel_print_158 : decode b_TripleLinesModel_print 158 = .ok (.iconst (-1), 1) := by decide +kernel
theorem d_TripleLinesModel_print_159 : decode b_TripleLinesModel_print 159 = .ok (.istore_n 3, 1) := by decide +kernel
theorem d_TripleLinesModel_print_160 : decode b_TripleLinesModel_print 160 = .ok (.iconst 0, 1) := by decide +kernel
theorem d_TripleLinesModel_print_161 : decode b_TripleLinesModel_print 161 = .ok (.istore 4, 2) := by decide +kernel
theorem d_TripleLinesModel_print_163 : decode b_TripleLinesModel_print 163 = .ok (.iload 4, 2) := by decide +kernel
theorem d_TripleLinesModel_print_165 : decode b_TripleLinesModel_print 165 = .ok (.aload_n 0, 1) := by decide +kernel
theorem d_TripleLinesModel_print_166 : decode b_TripleLinesModel_print 166 = .ok (.getfield 211, 3) := by decide +kernel
theorem d_TripleLinesModel_print_169 : decode b_TripleLinesModel_print 169 = .ok (.if_icmp .ge 41, 3) := by decide +kernel
theorem d_TripleLinesModel_print_172 : decode b_TripleLinesModel_print 172 = .ok (.aload_n 0, 1) := by decide +kernel
theorem d_TripleLinesModel_print_173 : decode b_TripleLinesModel_print 173 = .ok (.getfield 52, 3) := by decide +kernel
theorem d_TripleLinesModel_print_176 : decode b_TripleLinesModel_print 176 = .ok (.iload 4, 2) := by decide +kernel
theorem d_TripleLinesModel_print_178 : decode b_TripleLinesModel_print 178 = .ok (.baload, 1) := by decide +kernel
theorem d_TripleLinesModel_print_179 : decode b_TripleLinesModel_print 179 = .ok (.ifCond .ne 25, 3) := by decide +kernel
theorem d_TripleLinesModel_print_182 : decode b_TripleLinesModel_print 182 = .ok (.iload_n 3, 1) := by decide +kernel
theorem d_TripleLinesModel_print_183 : decode b_TripleLinesModel_print 183 = .ok (.ifCond .lt 18, 3) := by decide +kernel
theorem d_TripleLinesModel_print_186 : decode b_TripleLinesModel_print 186 = .ok (.iload_n 1, 1) := by decide +kernel
theorem d_TripleLinesModel_print_187 : decode b_TripleLinesModel_print 187 = .ok (.iconst 1, 1) := by decide +kernel
theorem d_TripleLinesModel_print_188 : decode b_TripleLinesModel_print 188 = .ok (.if_icmp .ne 16, 3) := by decide +kernel
theorem d_TripleLinesModel_print_191 : decode b_TripleLinesModel_print 191 = .ok (.aload_n 0, 1) := by decide +kernel
theorem d_TripleLinesModel_print_192 : decode b_TripleLinesModel_print 192 = .ok (.iload 4, 2) := by decide +kernel
theorem d_TripleLinesModel_print_194 : decode b_TripleLinesModel_print 194 = .ok (.iload_n 3, 1) := by decide +kernel
theorem d_TripleLinesModel_print_195 : decode b_TripleLinesModel_print 195 = .ok (.invokevirtual 256, 3) := by decide +kernel
theorem d_TripleLinesModel_print_198 : decode b_TripleLinesModel_print 198 = .ok (.ifCond .eq 6, 3) := by decide +kernel
theorem d_TripleLinesModel_print_201 : decode b_TripleLinesModel_print 201 = .ok (.iload 4, 2) := by decide +kernel
theorem d_TripleLinesModel_print_203 : decode b_TripleLinesModel_print 203 = .ok (.istore_n 3, 1) := by decide +kernel
theorem d_TripleLinesModel_print_204 : decode b_TripleLinesModel_print 204 = .ok (.iinc 4 1, 3) := by decide +kernel
theorem d_TripleLinesModel_print_207 : decode b_TripleLinesModel_print 207 = .ok (.goto (-44), 3) := by decide +kernel
theorem d_TripleLinesModel_print_210 : decode b_TripleLinesModel_print 210 = .ok (.aload_n 0, 1) := by decide +kernel
theorem d_TripleLinesModel_print_211 : decode b_TripleLinesModel_print 211 = .ok (.getfield 52, 3) := by decide +kernel
theorem d_TripleLinesModel_print_214 : decode b_TripleLinesModel_print 214 = .ok (.iload_n 3, 1) := by decide +kernel
theorem d_TripleLinesModel_print_215 : decode b_TripleLinesModel_print 215 = .ok (.iconst 1, 1) := by decide +kernel
theorem d_TripleLinesModel_print_216 : decode b_TripleLinesModel_print 216 = .ok (.bastore, 1) := by decide +kernel
theorem d_TripleLinesModel_print_217 : decode b_TripleLinesModel_print 217 = .ok (.aload_n 0, 1) := by decide +kernel
theorem d_TripleLinesModel_print_218 : decode b_TripleLinesModel_print 218 = .ok (.getfield 49, 3) := by decide +kernel
theorem d_TripleLinesModel_print_221 : decode b_TripleLinesModel_print 221 = .ok (.iload_n 3, 1) := by decide +kernel
theorem d_TripleLinesModel_print_222 : decode b_TripleLinesModel_print 222 = .ok (.iaload, 1) := by decide +kernel
theorem d_TripleLinesModel_print_223 : decode b_TripleLinesModel_print 223 = .ok (.istore 4, 2) := by decide +kernel
theorem d_TripleLinesModel_print_225 : decode b_TripleLinesModel_print 225 = .ok (.iload 4, 2) := by decide +kernel
theorem d_TripleLinesModel_print_227 : decode b_TripleLinesModel_print 227 = .ok (.aload_n 0, 1) := by decide +kernel
theorem d_TripleLinesModel_print_228 : decode b_TripleLinesModel_print 228 = .ok (.getfield 49, 3) := by decide +kernel
theorem d_TripleLinesModel_print_231 : decode b_TripleLinesModel_print 231 = .ok (.iload_n 3, 1) := by decide +kernel
theorem d_TripleLinesModel_print_232 : decode b_TripleLinesModel_print 232 = .ok (.iconst 1, 1) := by decide +kernel
theorem d_TripleLinesModel_print_233 : decode b_TripleLinesModel_print 233 = .ok (.iadd, 1) := by decide +kernel
theorem d_TripleLinesModel_print_234 : decode b_TripleLinesModel_print 234 = .ok (.iaload, 1) := by decide +kernel
theorem d_TripleLinesModel_print_235 : decode b_TripleLinesModel_print 235 = .ok (.if_icmp .ge 35, 3) := by decide +kernel
theorem d_TripleLinesModel_print_238 : decode b_TripleLinesModel_print 238 = .ok (.aload_n 0, 1) := by decide +kernel
theorem d_TripleLinesModel_print_239 : decode b_TripleLinesModel_print 239 = .ok (.getfield 13, 3) := by decide +kernel
theorem d_TripleLinesModel_print_242 : decode b_TripleLinesModel_print 242 = .ok (.aload_n 0, 1) := by decide +kernel
theorem d_TripleLinesModel_print_243 : decode b_TripleLinesModel_print 243 = .ok (.getfield 76, 3) := by decide +kernel
theorem d_TripleLinesModel_print_246 : decode b_TripleLinesModel_print 246 = .ok (.aload_n 0, 1) := by decide +kernel
theorem d_TripleLinesModel_print_247 : decode b_TripleLinesModel_print 247 = .ok (.getfield 46, 3) := by decide +kernel
theorem d_TripleLinesModel_print_250 : decode b_TripleLinesModel_print 250 = .ok (.iload 4, 2) := by decide +kernel
theorem d_TripleLinesModel_print_252 : decode b_TripleLinesModel_print 252 = .ok (.iaload, 1) := by decide +kernel
theorem d_TripleLinesModel_print_253 : decode b_TripleLinesModel_print 253 = .ok (.iastore, 1) := by decide +kernel
theorem d_TripleLinesModel_print_254 : decode b_TripleLinesModel_print 254 = .ok (.aload_n 0, 1) := by decide +kernel
theorem d_TripleLinesModel_print_255 : decode b_TripleLinesModel_print 255 = .ok (.dup, 1) := by decide +kernel
theorem d_TripleLinesModel_print_256 : decode b_TripleLinesModel_print 256 = .ok (.getfield 76, 3) := by decide +kernel
theorem d_TripleLinesModel_print_259 : decode b_TripleLinesModel_print 259 = .ok (.iconst 1, 1) := by decide +kernel
theorem d_TripleLinesModel_print_260 : decode b_TripleLinesModel_print 260 = .ok (.iadd, 1) := by decide +kernel
theorem d_TripleLinesModel_print_261 : decode b_TripleLinesModel_print 261 = .ok (.putfield 76, 3) := by decide +kernel
theorem d_TripleLinesModel_print_264 : decode b_TripleLinesModel_print 264 = .ok (.iinc 4 1, 3) := by decide +kernel
theorem d_TripleLinesModel_print_267 : decode b_TripleLinesModel_print 267 = .ok (.goto (-42), 3) := by decide +kernel
theorem d_TripleLinesModel_print_270 : decode b_TripleLinesModel_print 270 = .ok (.iinc 2 1, 3) := by decide +kernel
theorem d_TripleLinesModel_print_273 : decode b_TripleLinesModel_print 273 = .ok (.goto (-123), 3) := by decide +kernel
theorem d_TripleLinesModel_print_276 : decode b_TripleLinesModel_print 276 = .ok (.aload_n 0, 1) := by decide +kernel
theorem d_TripleLinesModel_print_277 : decode b_TripleLinesModel_print 277 = .ok (.getfield 76, 3) := by decide +kernel
theorem d_TripleLinesModel_print_280 : decode b_TripleLinesModel_print 280 = .ok (.ireturn, 1) := by decide +kernel
set_option maxHeartbeats 4000000 in
set_option maxRecDepth 100000 in
theorem c_TripleLinesModel_isBefore (l : Launch) (D : va_G) (cI : ClassId) (mM : Nat) (tm : Int) (aT : Nat) (om : Int) (aO : Nat) (tn : Int) (aK : Nat) (aS : Nat) (aC : Nat) (aU : Nat) (aG : Nat) (aY : Nat) (aX : Nat) (qn : Int) (aP : Nat) (tr : Int) (rg : Int) (ll : Int) (p : Int) (f : Int) (ov : Int) (sz : Int) (aM : Nat) (tz : Int) (aA : Nat) (dm : Int) (aD : Nat) (aB : Nat) (aV : Nat) (aE : Nat) (DR : Nat → Int32) (BG : Nat → Int32) (i : Int) (k : Int) (hso : sOk BG qn dm) (hd : dm ≤ 3000) (hi : 0 ≤ i ∧ i < qn) (hk : 0 ≤ k ∧ k < qn) (ho1 : okl (Lp DR BG i)) (ho2 : okl (Lp DR BG k)) : CtI l D [(cI, .int)] y_TripleLinesModel_isBefore b_TripleLinesModel_isBefore 4 (some .boolean) 0 [.ref mM, .int (iI i), .int (iI k)] [(mM, .inr (6, [.int (iI tm), .ref aT, .int (iI om), .ref aO, .int (iI tn), .ref aK, .ref aS, .ref aC, .ref aU, .ref aG, .ref aY, .ref aX, .int (iI qn), .ref aP, .int (iI tr), .int (iI rg), .int (iI ll), .int (iI p), .int (iI f), .int (iI ov), .int (iI sz), .ref aM, .int (iI tz), .ref aA, .int (iI dm), .ref aD, .ref aB, .ref aV, .ref aE])), (aD, .inl (cI, 3000, .inl DR)), (aB, .inl (cI, 81, .inl BG))] (S := Unit) (fun z u => (z = 1 ∧ (llt (Lp DR BG i) (Lp DR BG k) = true)) ∨ (z = 0 ∧ ¬ (llt (Lp DR BG i) (Lp DR BG k) = true))) (fun u => [(mM, .inr (6, [.int (iI tm), .ref aT, .int (iI om), .ref aO, .int (iI tn), .ref aK, .ref aS, .ref aC, .ref aU, .ref aG, .ref aY, .ref aX, .int (iI qn), .ref aP, .int (iI tr), .int (iI rg), .int (iI ll), .int (iI p), .int (iI f), .int (iI ov), .int (iI sz), .ref aM, .int (iI tz), .ref aA, .int (iI dm), .ref aD, .ref aB, .ref aV, .ref aE])), (aD, .inl (cI, 3000, .inl DR)), (aB, .inl (cI, 81, .inl BG))]) := by
  refine CtI.walk (fun z => z = 0 ∨ z = 1) (fun z hz => by rcases hz with rfl | rfl <;> decide) (by decide) (Nat.le_of_ble_eq_true rfl) ?_
  intro xp xe0 xs xm xar xbelow xmeth xc xA0 xQ xe xb xml xo xt xP xK xD xA xret ls xl xS
  have xl : lv_has ls 4 [(0, .ref mM), (1, .int (iI i)), (2, .int (iI k))] := xl
  have xo : xs.vm.findClass R_TripleLinesModel = some xm.cls := xo
  have hsz := hso.2.1
  have hi2 := hso.2.2 i hi.1 hi.2
  have hk2 := hso.2.2 k hk.1 hk.2
  refine lv_iconst (v := iI (0)) xe xb d_TripleLinesModel_isBefore_0 rfl ?_
  refine lv_istore_n (lv' := [(3, .int (iI 0)), (0, .ref mM), (1, .int (iI i)), (2, .int (iI k))]) xe xb d_TripleLinesModel_isBefore_1 rfl xl (by decide) rfl ?_
  clear xl
  intro ls xl
  have loop_2 : ∀ (n9 : Nat) (n : Int), (3000 - n).toNat < n9 → (Cmp DR BG i k n) → ∀ (H : Heap) (locs : List Loc), va_P D classes [(mM, .inr (6, [.int (iI tm), .ref aT, .int (iI om), .ref aO, .int (iI tn), .ref aK, .ref aS, .ref aC, .ref aU, .ref aG, .ref aY, .ref aX, .int (iI qn), .ref aP, .int (iI tr), .int (iI rg), .int (iI ll), .int (iI p), .int (iI f), .int (iI ov), .int (iI sz), .ref aM, .int (iI tz), .ref aA, .int (iI dm), .ref aD, .ref aB, .ref aV, .ref aE])), (aD, .inl (cI, 3000, .inl DR)), (aB, .inl (cI, 81, .inl BG))] H → va_D xA0 [(mM, .inr (6, [.int (iI tm), .ref aT, .int (iI om), .ref aO, .int (iI tn), .ref aK, .ref aS, .ref aC, .ref aU, .ref aG, .ref aY, .ref aX, .int (iI qn), .ref aP, .int (iI tr), .int (iI rg), .int (iI ll), .int (iI p), .int (iI f), .int (iI ov), .int (iI sz), .ref aM, .int (iI tz), .ref aA, .int (iI dm), .ref aD, .ref aB, .ref aV, .ref aE])), (aD, .inl (cI, 3000, .inl DR)), (aB, .inl (cI, 81, .inl BG))] → va_S xA0 xs.heap H locs → ∀ ls : Array Slot, lv_has ls 4 [(0, .ref mM), (1, .int (iI i)), (2, .int (iI k)), (3, .int (iI n))] → W xp l xe0 (tk_rm 0) xs xm xar xbelow xmeth xc H locs 0 0 xQ (F0 xm 2 ls []) := by
    intro n9
    induction n9 with
    | zero => intro n h9; exact absurd h9 (Nat.not_lt_zero _)
    | succ n9 ih9 =>
      intro n hm9 hc H locs xP xD xS ls xl
      have ih_2 := ih9
      have hm_2 := hm9
      have hl := Cmp_lt hc
      have h0 := hc.1
      refine lv_aload_n xe xb d_TripleLinesModel_isBefore_2 rfl (lv_at xl 0 rfl) ?_
      refine va_get (D := D) (ci := 6) (v := .ref aD) (C := R_TripleLinesModel) (T := F_TripleLinesModel) (N := 29) xe xb xt i_TripleLinesModel xo xK xP 0 rfl rfl 25 (by decide) (xt _ mw_TripleLinesModel_46) (fun _ h9 => h9) rfl d_TripleLinesModel_isBefore_3 ?_
      refine lv_aload_n xe xb d_TripleLinesModel_isBefore_6 rfl (lv_at xl 0 rfl) ?_
      refine va_get (D := D) (ci := 6) (v := .ref aB) (C := R_TripleLinesModel) (T := F_TripleLinesModel) (N := 29) xe xb xt i_TripleLinesModel xo xK xP 0 rfl rfl 26 (by decide) (xt _ mw_TripleLinesModel_49) (fun _ h9 => h9) rfl d_TripleLinesModel_isBefore_7 ?_
      refine lv_iload_n xe xb d_TripleLinesModel_isBefore_10 rfl (lv_at xl 1 rfl) ?_
      refine tk_iald xe xb xK xP 2 0 rfl rfl (by omega) d_TripleLinesModel_isBefore_11 ?_
      have hr_1 := tI_rg BG i
      refine lv_iload_n xe xb d_TripleLinesModel_isBefore_12 rfl (lv_at xl 3 rfl) ?_
      refine tk_iadd xe xb d_TripleLinesModel_isBefore_13 ?_
      refine tk_iald xe xb xK xP 1 0 rfl rfl (by omega) d_TripleLinesModel_isBefore_14 ?_
      have hr_2 := tI_rg DR ((tI BG i) + n)
      refine lv_aload_n xe xb d_TripleLinesModel_isBefore_15 rfl (lv_at xl 0 rfl) ?_
      refine va_get (D := D) (ci := 6) (v := .ref aD) (C := R_TripleLinesModel) (T := F_TripleLinesModel) (N := 29) xe xb xt i_TripleLinesModel xo xK xP 0 rfl rfl 25 (by decide) (xt _ mw_TripleLinesModel_46) (fun _ h9 => h9) rfl d_TripleLinesModel_isBefore_16 ?_
      refine lv_aload_n xe xb d_TripleLinesModel_isBefore_19 rfl (lv_at xl 0 rfl) ?_
      refine va_get (D := D) (ci := 6) (v := .ref aB) (C := R_TripleLinesModel) (T := F_TripleLinesModel) (N := 29) xe xb xt i_TripleLinesModel xo xK xP 0 rfl rfl 26 (by decide) (xt _ mw_TripleLinesModel_49) (fun _ h9 => h9) rfl d_TripleLinesModel_isBefore_20 ?_
      refine lv_iload_n xe xb d_TripleLinesModel_isBefore_23 rfl (lv_at xl 2 rfl) ?_
      refine tk_iald xe xb xK xP 2 0 rfl rfl (by omega) d_TripleLinesModel_isBefore_24 ?_
      have hr_3 := tI_rg BG k
      refine lv_iload_n xe xb d_TripleLinesModel_isBefore_25 rfl (lv_at xl 3 rfl) ?_
      refine tk_iadd xe xb d_TripleLinesModel_isBefore_26 ?_
      refine tk_iald xe xb xK xP 1 0 rfl rfl (by omega) d_TripleLinesModel_isBefore_27 ?_
      have hr_4 := tI_rg DR ((tI BG k) + n)
      refine tk_icmp_ne (tgt := 55) xe xb d_TripleLinesModel_isBefore_28 (by decide) (by omega) (fun C28 => ?_) (fun C28 => ?_)
      · have HE := Cmp_end hc (Or.inl C28)
        refine lv_aload_n xe xb d_TripleLinesModel_isBefore_55 rfl (lv_at xl 0 rfl) ?_
        refine va_get (D := D) (ci := 6) (v := .ref aD) (C := R_TripleLinesModel) (T := F_TripleLinesModel) (N := 29) xe xb xt i_TripleLinesModel xo xK xP 0 rfl rfl 25 (by decide) (xt _ mw_TripleLinesModel_46) (fun _ h9 => h9) rfl d_TripleLinesModel_isBefore_56 ?_
        refine lv_aload_n xe xb d_TripleLinesModel_isBefore_59 rfl (lv_at xl 0 rfl) ?_
        refine va_get (D := D) (ci := 6) (v := .ref aB) (C := R_TripleLinesModel) (T := F_TripleLinesModel) (N := 29) xe xb xt i_TripleLinesModel xo xK xP 0 rfl rfl 26 (by decide) (xt _ mw_TripleLinesModel_49) (fun _ h9 => h9) rfl d_TripleLinesModel_isBefore_60 ?_
        refine lv_iload_n xe xb d_TripleLinesModel_isBefore_63 rfl (lv_at xl 1 rfl) ?_
        refine tk_iald xe xb xK xP 2 0 rfl rfl (by omega) d_TripleLinesModel_isBefore_64 ?_
        have hr_5 := tI_rg BG i
        refine lv_iload_n xe xb d_TripleLinesModel_isBefore_65 rfl (lv_at xl 3 rfl) ?_
        refine tk_iadd xe xb d_TripleLinesModel_isBefore_66 ?_
        refine tk_iald xe xb xK xP 1 0 rfl rfl (by omega) d_TripleLinesModel_isBefore_67 ?_
        have hr_6 := tI_rg DR ((tI BG i) + n)
        refine lv_aload_n xe xb d_TripleLinesModel_isBefore_68 rfl (lv_at xl 0 rfl) ?_
        refine va_get (D := D) (ci := 6) (v := .ref aD) (C := R_TripleLinesModel) (T := F_TripleLinesModel) (N := 29) xe xb xt i_TripleLinesModel xo xK xP 0 rfl rfl 25 (by decide) (xt _ mw_TripleLinesModel_46) (fun _ h9 => h9) rfl d_TripleLinesModel_isBefore_69 ?_
        refine lv_aload_n xe xb d_TripleLinesModel_isBefore_72 rfl (lv_at xl 0 rfl) ?_
        refine va_get (D := D) (ci := 6) (v := .ref aB) (C := R_TripleLinesModel) (T := F_TripleLinesModel) (N := 29) xe xb xt i_TripleLinesModel xo xK xP 0 rfl rfl 26 (by decide) (xt _ mw_TripleLinesModel_49) (fun _ h9 => h9) rfl d_TripleLinesModel_isBefore_73 ?_
        refine lv_iload_n xe xb d_TripleLinesModel_isBefore_76 rfl (lv_at xl 2 rfl) ?_
        refine tk_iald xe xb xK xP 2 0 rfl rfl (by omega) d_TripleLinesModel_isBefore_77 ?_
        have hr_7 := tI_rg BG k
        refine lv_iload_n xe xb d_TripleLinesModel_isBefore_78 rfl (lv_at xl 3 rfl) ?_
        refine tk_iadd xe xb d_TripleLinesModel_isBefore_79 ?_
        refine tk_iald xe xb xK xP 1 0 rfl rfl (by omega) d_TripleLinesModel_isBefore_80 ?_
        have hr_8 := tI_rg DR ((tI BG k) + n)
        refine tk_icmp_ge (tgt := 88) xe xb d_TripleLinesModel_isBefore_81 (by decide) (by omega) (fun C81 => ?_) (fun C81 => ?_)
        · refine lv_iconst (v := iI (0)) xe xb d_TripleLinesModel_isBefore_88 rfl ?_
          exact xret _ _ _ _ 0 () d_TripleLinesModel_isBefore_89 (by omega) (by omega) (Or.inr ⟨rfl, by rw [HE]; intro h9; have h8 := of_decide_eq_true h9; omega⟩) xP xD xS
        · refine lv_iconst (v := iI (1)) xe xb d_TripleLinesModel_isBefore_84 rfl ?_
          refine lv_goto (tgt := 89) xe xb d_TripleLinesModel_isBefore_85 (by decide) ?_
          exact xret _ _ _ _ 1 () d_TripleLinesModel_isBefore_89 (by omega) (by omega) (Or.inl ⟨rfl, HE.trans (decide_eq_true C81)⟩) xP xD xS
      · refine lv_aload_n xe xb d_TripleLinesModel_isBefore_31 rfl (lv_at xl 0 rfl) ?_
        refine va_get (D := D) (ci := 6) (v := .ref aD) (C := R_TripleLinesModel) (T := F_TripleLinesModel) (N := 29) xe xb xt i_TripleLinesModel xo xK xP 0 rfl rfl 25 (by decide) (xt _ mw_TripleLinesModel_46) (fun _ h9 => h9) rfl d_TripleLinesModel_isBefore_32 ?_
        refine lv_aload_n xe xb d_TripleLinesModel_isBefore_35 rfl (lv_at xl 0 rfl) ?_
        refine va_get (D := D) (ci := 6) (v := .ref aB) (C := R_TripleLinesModel) (T := F_TripleLinesModel) (N := 29) xe xb xt i_TripleLinesModel xo xK xP 0 rfl rfl 26 (by decide) (xt _ mw_TripleLinesModel_49) (fun _ h9 => h9) rfl d_TripleLinesModel_isBefore_36 ?_
        refine lv_iload_n xe xb d_TripleLinesModel_isBefore_39 rfl (lv_at xl 1 rfl) ?_
        refine tk_iald xe xb xK xP 2 0 rfl rfl (by omega) d_TripleLinesModel_isBefore_40 ?_
        have hr_9 := tI_rg BG i
        refine lv_iload_n xe xb d_TripleLinesModel_isBefore_41 rfl (lv_at xl 3 rfl) ?_
        refine tk_iadd xe xb d_TripleLinesModel_isBefore_42 ?_
        refine tk_iald xe xb xK xP 1 0 rfl rfl (by omega) d_TripleLinesModel_isBefore_43 ?_
        have hr_10 := tI_rg DR ((tI BG i) + n)
        refine lv_bipush (v := iI (10)) xe xb d_TripleLinesModel_isBefore_44 (by decide) ?_
        refine tk_icmp_eq (tgt := 55) xe xb d_TripleLinesModel_isBefore_46 (by decide) (by omega) (fun C46 => ?_) (fun C46 => ?_)
        · have HE := Cmp_end hc (Or.inr C46)
          refine lv_aload_n xe xb d_TripleLinesModel_isBefore_55 rfl (lv_at xl 0 rfl) ?_
          refine va_get (D := D) (ci := 6) (v := .ref aD) (C := R_TripleLinesModel) (T := F_TripleLinesModel) (N := 29) xe xb xt i_TripleLinesModel xo xK xP 0 rfl rfl 25 (by decide) (xt _ mw_TripleLinesModel_46) (fun _ h9 => h9) rfl d_TripleLinesModel_isBefore_56 ?_
          refine lv_aload_n xe xb d_TripleLinesModel_isBefore_59 rfl (lv_at xl 0 rfl) ?_
          refine va_get (D := D) (ci := 6) (v := .ref aB) (C := R_TripleLinesModel) (T := F_TripleLinesModel) (N := 29) xe xb xt i_TripleLinesModel xo xK xP 0 rfl rfl 26 (by decide) (xt _ mw_TripleLinesModel_49) (fun _ h9 => h9) rfl d_TripleLinesModel_isBefore_60 ?_
          refine lv_iload_n xe xb d_TripleLinesModel_isBefore_63 rfl (lv_at xl 1 rfl) ?_
          refine tk_iald xe xb xK xP 2 0 rfl rfl (by omega) d_TripleLinesModel_isBefore_64 ?_
          have hr_11 := tI_rg BG i
          refine lv_iload_n xe xb d_TripleLinesModel_isBefore_65 rfl (lv_at xl 3 rfl) ?_
          refine tk_iadd xe xb d_TripleLinesModel_isBefore_66 ?_
          refine tk_iald xe xb xK xP 1 0 rfl rfl (by omega) d_TripleLinesModel_isBefore_67 ?_
          have hr_12 := tI_rg DR ((tI BG i) + n)
          refine lv_aload_n xe xb d_TripleLinesModel_isBefore_68 rfl (lv_at xl 0 rfl) ?_
          refine va_get (D := D) (ci := 6) (v := .ref aD) (C := R_TripleLinesModel) (T := F_TripleLinesModel) (N := 29) xe xb xt i_TripleLinesModel xo xK xP 0 rfl rfl 25 (by decide) (xt _ mw_TripleLinesModel_46) (fun _ h9 => h9) rfl d_TripleLinesModel_isBefore_69 ?_
          refine lv_aload_n xe xb d_TripleLinesModel_isBefore_72 rfl (lv_at xl 0 rfl) ?_
          refine va_get (D := D) (ci := 6) (v := .ref aB) (C := R_TripleLinesModel) (T := F_TripleLinesModel) (N := 29) xe xb xt i_TripleLinesModel xo xK xP 0 rfl rfl 26 (by decide) (xt _ mw_TripleLinesModel_49) (fun _ h9 => h9) rfl d_TripleLinesModel_isBefore_73 ?_
          refine lv_iload_n xe xb d_TripleLinesModel_isBefore_76 rfl (lv_at xl 2 rfl) ?_
          refine tk_iald xe xb xK xP 2 0 rfl rfl (by omega) d_TripleLinesModel_isBefore_77 ?_
          have hr_13 := tI_rg BG k
          refine lv_iload_n xe xb d_TripleLinesModel_isBefore_78 rfl (lv_at xl 3 rfl) ?_
          refine tk_iadd xe xb d_TripleLinesModel_isBefore_79 ?_
          refine tk_iald xe xb xK xP 1 0 rfl rfl (by omega) d_TripleLinesModel_isBefore_80 ?_
          have hr_14 := tI_rg DR ((tI BG k) + n)
          refine tk_icmp_ge (tgt := 88) xe xb d_TripleLinesModel_isBefore_81 (by decide) (by omega) (fun C81 => ?_) (fun C81 => ?_)
          · refine lv_iconst (v := iI (0)) xe xb d_TripleLinesModel_isBefore_88 rfl ?_
            exact xret _ _ _ _ 0 () d_TripleLinesModel_isBefore_89 (by omega) (by omega) (Or.inr ⟨rfl, by rw [HE]; intro h9; have h8 := of_decide_eq_true h9; omega⟩) xP xD xS
          · refine lv_iconst (v := iI (1)) xe xb d_TripleLinesModel_isBefore_84 rfl ?_
            refine lv_goto (tgt := 89) xe xb d_TripleLinesModel_isBefore_85 (by decide) ?_
            exact xret _ _ _ _ 1 () d_TripleLinesModel_isBefore_89 (by omega) (by omega) (Or.inl ⟨rfl, HE.trans (decide_eq_true C81)⟩) xP xD xS
        · refine tk_iinc (v := (n + 1)) (lv' := [(3, .int (iI (n + 1))), (0, .ref mM), (1, .int (iI i)), (2, .int (iI k))]) xe xb d_TripleLinesModel_isBefore_49 xl (k := 3) rfl rfl (by decide) rfl ?_
          clear xl
          intro ls xl
          refine lv_goto (tgt := 2) xe xb d_TripleLinesModel_isBefore_52 (by decide) ?_
          exact ih_2 (n + 1) (by omega) (Cmp_step hc C28 C46) _ _ xP xD xS ls (lv_sub xl [1, 2, 3, 0] rfl)
  exact loop_2 _ 0 (Nat.lt_succ_self _) (Cmp_0 ho1 ho2) _ _ xP xD xS ls (lv_sub xl [1, 2, 3, 0] rfl)
set_option maxHeartbeats 4000000 in
set_option maxRecDepth 100000 in
theorem c_TripleLinesModel_print (l : Launch) (D : va_G) (cI : ClassId) (cZ : ClassId) (mM : Nat) (tm : Int) (aT : Nat) (om : Int) (aO : Nat) (tn : Int) (aK : Nat) (aS : Nat) (aC : Nat) (aU : Nat) (aG : Nat) (aY : Nat) (aX : Nat) (qn : Int) (aP : Nat) (tr : Int) (rg : Int) (ll : Int) (p : Int) (f : Int) (ov : Int) (sz : Int) (aM : Nat) (tz : Int) (aA : Nat) (dm : Int) (aD : Nat) (aB : Nat) (aV : Nat) (aE : Nat) (K : Nat → Int32) (Ln : Nat → Int32) (C : Nat → Int32) (TL : Nat → Int32) (TG : Nat → Int32) (TY : Nat → Int32) (P : Nat → Int32) (DR : Nat → Int32) (BG : Nat → Int32) (fO : Nat → Int32) (TD : Nat → Int32) (fm : Int) (hs : tOk Ln TL tn) (hqz : 0 ≤ qn ∧ qn ≤ 80) (hw : ∀ t, 0 ≤ t → t < tn → wfT K TL TY tn t) (hq : ∀ j, 0 ≤ j → j < 4 * qn → tI P j < tn) (hfm : -2147483648 ≤ fm ∧ fm < 2147483648) (hok : ∀ j, 0 ≤ j → j < qn → okl ((fun j => qln (tmAt K Ln C TL TG TY) tn (qdAt P j)) j)) (hom : 0 ≤ om ∧ om ≤ 3000) : CtI l D [(cI, .int), (cZ, .boolean)] y_TripleLinesModel_print b_TripleLinesModel_print 5 (some .int) 6 [.ref mM, .int (iI fm)] [(mM, .inr (6, [.int (iI tm), .ref aT, .int (iI om), .ref aO, .int (iI tn), .ref aK, .ref aS, .ref aC, .ref aU, .ref aG, .ref aY, .ref aX, .int (iI qn), .ref aP, .int (iI tr), .int (iI rg), .int (iI ll), .int (iI p), .int (iI f), .int (iI ov), .int (iI sz), .ref aM, .int (iI tz), .ref aA, .int (iI dm), .ref aD, .ref aB, .ref aV, .ref aE])), (aK, .inl (cI, 120, .inl K)), (aS, .inl (cI, 120, .inl Ln)), (aC, .inl (cI, 4800, .inl C)), (aU, .inl (cI, 120, .inl TL)), (aG, .inl (cI, 1920, .inl TG)), (aY, .inl (cI, 120, .inl TY)), (aP, .inl (cI, 320, .inl P)), (aD, .inl (cI, 3000, .inl DR)), (aB, .inl (cI, 81, .inl BG)), (aO, .inl (cI, 3000, .inl fO)), (aV, .inl (cZ, 80, .inl TD))] (S := Int × Int × (Nat → Int32) × (Nat → Int32) × (Nat → Int32) × (Nat → Int32)) (fun z u => (0 ≤ u.1 ∧ u.1 ≤ 3000) ∧ prA (fun j => qln (tmAt K Ln C TL TG TY) tn (qdAt P j)) qn fm z (lst (tI fO) om) (lst (tI u.2.2.2.2.1) u.1)) (fun u => [(mM, .inr (6, [.int (iI tm), .ref aT, .int (iI u.1), .ref aO, .int (iI tn), .ref aK, .ref aS, .ref aC, .ref aU, .ref aG, .ref aY, .ref aX, .int (iI qn), .ref aP, .int (iI tr), .int (iI rg), .int (iI ll), .int (iI p), .int (iI f), .int (iI ov), .int (iI sz), .ref aM, .int (iI tz), .ref aA, .int (iI u.2.1), .ref aD, .ref aB, .ref aV, .ref aE])), (aK, .inl (cI, 120, .inl K)), (aS, .inl (cI, 120, .inl Ln)), (aC, .inl (cI, 4800, .inl C)), (aU, .inl (cI, 120, .inl TL)), (aG, .inl (cI, 1920, .inl TG)), (aY, .inl (cI, 120, .inl TY)), (aP, .inl (cI, 320, .inl P)), (aD, .inl (cI, 3000, .inl u.2.2.1)), (aB, .inl (cI, 81, .inl u.2.2.2.1)), (aO, .inl (cI, 3000, .inl u.2.2.2.2.1)), (aV, .inl (cZ, 80, .inl u.2.2.2.2.2))]) := by
  refine CtI.walk (fun _ => True) (fun z _ => vp_nar_int _) (by decide) (Nat.le_of_ble_eq_true rfl) ?_
  intro xp xe0 xs xm xar xbelow xmeth xc xA0 xQ xe xb xml xo xt xP xK xD xA xret ls xl xS
  have xl : lv_has ls 5 [(0, .ref mM), (1, .int (iI fm))] := xl
  have xo : xs.vm.findClass R_TripleLinesModel = some xm.cls := xo
  have xK1 : va_K D classes [(cI, .int)] xs := xK.sub [0] rfl
  have hg : ∀ j, 0 ≤ j → j < tn → ((tmAt K Ln C TL TG TY) j).2.1.length ≤ 40 ∧ ((tmAt K Ln C TL TG TY) j).2.2.1.length ≤ 16 := fun j h0 h1 => by have h9 := hs.2.2 j h0 h1; unfold tmAt; simp only [seg_len]; omega
  have hlen : ∀ i, ((fun j => qln (tmAt K Ln C TL TG TY) tn (qdAt P j)) i).length ≤ 3322 := fun i => qln_len hg
  refine lv_iload_n xe xb d_TripleLinesModel_print_0 rfl (lv_at xl 1 rfl) ?_
  refine lv_iconst (v := iI (0)) xe xb d_TripleLinesModel_print_1 rfl ?_
  refine lv_iconst (v := iI (1)) xe xb d_TripleLinesModel_print_2 rfl ?_
  refine tk_callSi (As := [.int (iI fm), .int (iI 0), .int (iI 1)]) (rest := []) (wr := [(mM, .inr (6, [.int (iI tm), .ref aT, .int (iI om), .ref aO, .int (iI tn), .ref aK, .ref aS, .ref aC, .ref aU, .ref aG, .ref aY, .ref aX, .int (iI qn), .ref aP, .int (iI tr), .int (iI rg), .int (iI ll), .int (iI p), .int (iI f), .int (iI ov), .int (iI sz), .ref aM, .int (iI tz), .ref aA, .int (iI dm), .ref aD, .ref aB, .ref aV, .ref aE])), (aK, .inl (cI, 120, .inl K)), (aS, .inl (cI, 120, .inl Ln)), (aC, .inl (cI, 4800, .inl C)), (aU, .inl (cI, 120, .inl TL)), (aG, .inl (cI, 1920, .inl TG)), (aY, .inl (cI, 120, .inl TY)), (aP, .inl (cI, 320, .inl P)), (aD, .inl (cI, 3000, .inl DR)), (aB, .inl (cI, 81, .inl BG)), (aO, .inl (cI, 3000, .inl fO)), (aV, .inl (cZ, 80, .inl TD))]) (wn := fun u => [(mM, .inr (6, [.int (iI tm), .ref aT, .int (iI om), .ref aO, .int (iI tn), .ref aK, .ref aS, .ref aC, .ref aU, .ref aG, .ref aY, .ref aX, .int (iI qn), .ref aP, .int (iI tr), .int (iI rg), .int (iI ll), .int (iI p), .int (iI f), .int (iI ov), .int (iI sz), .ref aM, .int (iI tz), .ref aA, .int (iI dm), .ref aD, .ref aB, .ref aV, .ref aE])), (aK, .inl (cI, 120, .inl K)), (aS, .inl (cI, 120, .inl Ln)), (aC, .inl (cI, 4800, .inl C)), (aU, .inl (cI, 120, .inl TL)), (aG, .inl (cI, 1920, .inl TG)), (aY, .inl (cI, 120, .inl TY)), (aP, .inl (cI, 320, .inl P)), (aD, .inl (cI, 3000, .inl DR)), (aB, .inl (cI, 81, .inl BG)), (aO, .inl (cI, 3000, .inl fO)), (aV, .inl (cZ, 80, .inl TD))]) ⟨xe, xb, xml, xo, xt⟩ (c_TripleLinesModel_in l D cI fm 0 1 (by first | assumption | omega) (by first | assumption | omega) (by first | assumption | omega)) k_TripleLinesModel_in mw_TripleLinesModel_63 ⟨Nat.le_of_ble_eq_true rfl, Nat.le_of_ble_eq_true rfl⟩ xK1 xP xD xS xA rfl xl.1 rfl (Nat.le_of_ble_eq_true rfl) d_TripleLinesModel_print_3 ⟨Nat.zero_le _, Nat.zero_le _⟩ [] [0, 1, 2, 3, 4, 5, 6, 7, 8, 9, 10, 11] [0, 1, 2, 3, 4, 5, 6, 7, 8, 9, 10, 11] rfl rfl (by decide) (by decide) (by decide) (by decide) (fun _ => rfl) ?_
  clear xP xD xS
  intro z_2 u H locs hr_3 hw_1 xP xD xS
  try dsimp only at hw_1
  replace xP : va_P D classes [(mM, .inr (6, [.int (iI tm), .ref aT, .int (iI om), .ref aO, .int (iI tn), .ref aK, .ref aS, .ref aC, .ref aU, .ref aG, .ref aY, .ref aX, .int (iI qn), .ref aP, .int (iI tr), .int (iI rg), .int (iI ll), .int (iI p), .int (iI f), .int (iI ov), .int (iI sz), .ref aM, .int (iI tz), .ref aA, .int (iI dm), .ref aD, .ref aB, .ref aV, .ref aE])), (aK, .inl (cI, 120, .inl K)), (aS, .inl (cI, 120, .inl Ln)), (aC, .inl (cI, 4800, .inl C)), (aU, .inl (cI, 120, .inl TL)), (aG, .inl (cI, 1920, .inl TG)), (aY, .inl (cI, 120, .inl TY)), (aP, .inl (cI, 320, .inl P)), (aD, .inl (cI, 3000, .inl DR)), (aB, .inl (cI, 81, .inl BG)), (aO, .inl (cI, 3000, .inl fO)), (aV, .inl (cZ, 80, .inl TD))] H := xP
  replace xD : va_D xA0 [(mM, .inr (6, [.int (iI tm), .ref aT, .int (iI om), .ref aO, .int (iI tn), .ref aK, .ref aS, .ref aC, .ref aU, .ref aG, .ref aY, .ref aX, .int (iI qn), .ref aP, .int (iI tr), .int (iI rg), .int (iI ll), .int (iI p), .int (iI f), .int (iI ov), .int (iI sz), .ref aM, .int (iI tz), .ref aA, .int (iI dm), .ref aD, .ref aB, .ref aV, .ref aE])), (aK, .inl (cI, 120, .inl K)), (aS, .inl (cI, 120, .inl Ln)), (aC, .inl (cI, 4800, .inl C)), (aU, .inl (cI, 120, .inl TL)), (aG, .inl (cI, 1920, .inl TG)), (aY, .inl (cI, 120, .inl TY)), (aP, .inl (cI, 320, .inl P)), (aD, .inl (cI, 3000, .inl DR)), (aB, .inl (cI, 81, .inl BG)), (aO, .inl (cI, 3000, .inl fO)), (aV, .inl (cZ, 80, .inl TD))] := xD
  rcases hw_1 with ⟨rfl, Hf⟩ | ⟨rfl, Hf⟩
  · refine tk_if_ne (tgt := 11) xe xb d_TripleLinesModel_print_6 (by decide) (by omega) (fun c_4 => ?_) (fun c_4 => absurd c_4 (by omega))
    refine lv_aload_n xe xb d_TripleLinesModel_print_11 rfl (lv_at xl 0 rfl) ?_
    refine lv_iconst (v := iI (0)) xe xb d_TripleLinesModel_print_12 rfl ?_
    refine va_put (D := D) (ci := 6) (v := .int (iI 0)) (ty := .int) (C := R_TripleLinesModel) (T := F_TripleLinesModel) (N := 29) xe xb xt i_TripleLinesModel t_TripleLinesModel t_TripleLinesModel_ok n_TripleLinesModel xo xK xP xD xS 0 rfl rfl 24 (by decide) (xt _ mw_TripleLinesModel_226) (fun _ h9 => h9) rfl (by decide +kernel) rfl rfl (Nat.le_of_ble_eq_true rfl) d_TripleLinesModel_print_13 ?_
    clear xP xD xS
    intro H locs xP xD xS
    replace xP : va_P D classes [(mM, .inr (6, [.int (iI tm), .ref aT, .int (iI om), .ref aO, .int (iI tn), .ref aK, .ref aS, .ref aC, .ref aU, .ref aG, .ref aY, .ref aX, .int (iI qn), .ref aP, .int (iI tr), .int (iI rg), .int (iI ll), .int (iI p), .int (iI f), .int (iI ov), .int (iI sz), .ref aM, .int (iI tz), .ref aA, .int (iI 0), .ref aD, .ref aB, .ref aV, .ref aE])), (aK, .inl (cI, 120, .inl K)), (aS, .inl (cI, 120, .inl Ln)), (aC, .inl (cI, 4800, .inl C)), (aU, .inl (cI, 120, .inl TL)), (aG, .inl (cI, 1920, .inl TG)), (aY, .inl (cI, 120, .inl TY)), (aP, .inl (cI, 320, .inl P)), (aD, .inl (cI, 3000, .inl DR)), (aB, .inl (cI, 81, .inl BG)), (aO, .inl (cI, 3000, .inl fO)), (aV, .inl (cZ, 80, .inl TD))] H := xP
    replace xD : va_D xA0 [(mM, .inr (6, [.int (iI tm), .ref aT, .int (iI om), .ref aO, .int (iI tn), .ref aK, .ref aS, .ref aC, .ref aU, .ref aG, .ref aY, .ref aX, .int (iI qn), .ref aP, .int (iI tr), .int (iI rg), .int (iI ll), .int (iI p), .int (iI f), .int (iI ov), .int (iI sz), .ref aM, .int (iI tz), .ref aA, .int (iI 0), .ref aD, .ref aB, .ref aV, .ref aE])), (aK, .inl (cI, 120, .inl K)), (aS, .inl (cI, 120, .inl Ln)), (aC, .inl (cI, 4800, .inl C)), (aU, .inl (cI, 120, .inl TL)), (aG, .inl (cI, 1920, .inl TG)), (aY, .inl (cI, 120, .inl TY)), (aP, .inl (cI, 320, .inl P)), (aD, .inl (cI, 3000, .inl DR)), (aB, .inl (cI, 81, .inl BG)), (aO, .inl (cI, 3000, .inl fO)), (aV, .inl (cZ, 80, .inl TD))] := xD
    refine lv_iconst (v := iI (0)) xe xb d_TripleLinesModel_print_16 rfl ?_
    refine lv_istore_n (lv' := [(2, .int (iI 0)), (0, .ref mM), (1, .int (iI fm))]) xe xb d_TripleLinesModel_print_17 rfl xl (by decide) rfl ?_
    clear xl
    intro ls xl
    have loop_18 : ∀ (n9 : Nat) (i : Int) (dv : Int) (Dv : Nat → Int32) (Bv : Nat → Int32), (80 - i).toNat < n9 → (0 ≤ i ∧ i ≤ qn) → (PwM dv Dv 0 DR ((lst (fun j => qln (tmAt K Ln C TL TG TY) tn (qdAt P j)) i).flatten)) → (FilM Bv (fun j => qln (tmAt K Ln C TL TG TY) tn (qdAt P j)) i) → ∀ (H : Heap) (locs : List Loc), va_P D classes [(mM, .inr (6, [.int (iI tm), .ref aT, .int (iI om), .ref aO, .int (iI tn), .ref aK, .ref aS, .ref aC, .ref aU, .ref aG, .ref aY, .ref aX, .int (iI qn), .ref aP, .int (iI tr), .int (iI rg), .int (iI ll), .int (iI p), .int (iI f), .int (iI ov), .int (iI sz), .ref aM, .int (iI tz), .ref aA, .int (iI dv), .ref aD, .ref aB, .ref aV, .ref aE])), (aK, .inl (cI, 120, .inl K)), (aS, .inl (cI, 120, .inl Ln)), (aC, .inl (cI, 4800, .inl C)), (aU, .inl (cI, 120, .inl TL)), (aG, .inl (cI, 1920, .inl TG)), (aY, .inl (cI, 120, .inl TY)), (aP, .inl (cI, 320, .inl P)), (aD, .inl (cI, 3000, .inl Dv)), (aB, .inl (cI, 81, .inl Bv)), (aO, .inl (cI, 3000, .inl fO)), (aV, .inl (cZ, 80, .inl TD))] H → va_D xA0 [(mM, .inr (6, [.int (iI tm), .ref aT, .int (iI om), .ref aO, .int (iI tn), .ref aK, .ref aS, .ref aC, .ref aU, .ref aG, .ref aY, .ref aX, .int (iI qn), .ref aP, .int (iI tr), .int (iI rg), .int (iI ll), .int (iI p), .int (iI f), .int (iI ov), .int (iI sz), .ref aM, .int (iI tz), .ref aA, .int (iI dv), .ref aD, .ref aB, .ref aV, .ref aE])), (aK, .inl (cI, 120, .inl K)), (aS, .inl (cI, 120, .inl Ln)), (aC, .inl (cI, 4800, .inl C)), (aU, .inl (cI, 120, .inl TL)), (aG, .inl (cI, 1920, .inl TG)), (aY, .inl (cI, 120, .inl TY)), (aP, .inl (cI, 320, .inl P)), (aD, .inl (cI, 3000, .inl Dv)), (aB, .inl (cI, 81, .inl Bv)), (aO, .inl (cI, 3000, .inl fO)), (aV, .inl (cZ, 80, .inl TD))] → va_S xA0 xs.heap H locs → ∀ ls : Array Slot, lv_has ls 5 [(0, .ref mM), (1, .int (iI fm)), (2, .int (iI i))] → W xp l xe0 (tk_rm 6) xs xm xar xbelow xmeth xc H locs 0 0 xQ (F0 xm 18 ls []) := by
      intro n9
      induction n9 with
      | zero => intro i dv Dv Bv h9; exact absurd h9 (Nat.not_lt_zero _)
      | succ n9 ih9 =>
        intro i dv Dv Bv hm9 hi hP hB H locs xP xD xS ls xl
        have ih_18 := ih9
        have hm_18 := hm9
        have HC := hP
        have hgr0 := HC.1
        have hbd := fl_leI hlen hi.1
        refine lv_iload_n xe xb d_TripleLinesModel_print_18 rfl (lv_at xl 2 rfl) ?_
        refine lv_aload_n xe xb d_TripleLinesModel_print_19 rfl (lv_at xl 0 rfl) ?_
        refine va_get (D := D) (ci := 6) (v := .int (iI qn)) (C := R_TripleLinesModel) (T := F_TripleLinesModel) (N := 29) xe xb xt i_TripleLinesModel xo xK xP 0 rfl rfl 12 (by decide) (xt _ mw_TripleLinesModel_211) (fun _ h9 => h9) rfl d_TripleLinesModel_print_20 ?_
        refine tk_icmp_ge (tgt := 94) xe xb d_TripleLinesModel_print_23 (by decide) (by omega) (fun C23 => ?_) (fun C23 => ?_)
        · refine lv_aload_n xe xb d_TripleLinesModel_print_94 rfl (lv_at xl 0 rfl) ?_
          refine va_get (D := D) (ci := 6) (v := .ref aB) (C := R_TripleLinesModel) (T := F_TripleLinesModel) (N := 29) xe xb xt i_TripleLinesModel xo xK xP 0 rfl rfl 26 (by decide) (xt _ mw_TripleLinesModel_49) (fun _ h9 => h9) rfl d_TripleLinesModel_print_95 ?_
          refine lv_aload_n xe xb d_TripleLinesModel_print_98 rfl (lv_at xl 0 rfl) ?_
          refine va_get (D := D) (ci := 6) (v := .int (iI qn)) (C := R_TripleLinesModel) (T := F_TripleLinesModel) (N := 29) xe xb xt i_TripleLinesModel xo xK xP 0 rfl rfl 12 (by decide) (xt _ mw_TripleLinesModel_211) (fun _ h9 => h9) rfl d_TripleLinesModel_print_99 ?_
          refine lv_aload_n xe xb d_TripleLinesModel_print_102 rfl (lv_at xl 0 rfl) ?_
          refine va_get (D := D) (ci := 6) (v := .int (iI dv)) (C := R_TripleLinesModel) (T := F_TripleLinesModel) (N := 29) xe xb xt i_TripleLinesModel xo xK xP 0 rfl rfl 24 (by decide) (xt _ mw_TripleLinesModel_226) (fun _ h9 => h9) rfl d_TripleLinesModel_print_103 ?_
          refine tk_iast xe xb xK xP xD xS 9 0 rfl rfl (by omega) d_TripleLinesModel_print_106 ?_
          clear xP xD xS
          intro H locs xP xD xS
          replace xP : va_P D classes [(mM, .inr (6, [.int (iI tm), .ref aT, .int (iI om), .ref aO, .int (iI tn), .ref aK, .ref aS, .ref aC, .ref aU, .ref aG, .ref aY, .ref aX, .int (iI qn), .ref aP, .int (iI tr), .int (iI rg), .int (iI ll), .int (iI p), .int (iI f), .int (iI ov), .int (iI sz), .ref aM, .int (iI tz), .ref aA, .int (iI dv), .ref aD, .ref aB, .ref aV, .ref aE])), (aK, .inl (cI, 120, .inl K)), (aS, .inl (cI, 120, .inl Ln)), (aC, .inl (cI, 4800, .inl C)), (aU, .inl (cI, 120, .inl TL)), (aG, .inl (cI, 1920, .inl TG)), (aY, .inl (cI, 120, .inl TY)), (aP, .inl (cI, 320, .inl P)), (aD, .inl (cI, 3000, .inl Dv)), (aB, .inl (cI, 81, .inl (fu Bv qn dv))), (aO, .inl (cI, 3000, .inl fO)), (aV, .inl (cZ, 80, .inl TD))] H := xP
          replace xD : va_D xA0 [(mM, .inr (6, [.int (iI tm), .ref aT, .int (iI om), .ref aO, .int (iI tn), .ref aK, .ref aS, .ref aC, .ref aU, .ref aG, .ref aY, .ref aX, .int (iI qn), .ref aP, .int (iI tr), .int (iI rg), .int (iI ll), .int (iI p), .int (iI f), .int (iI ov), .int (iI sz), .ref aM, .int (iI tz), .ref aA, .int (iI dv), .ref aD, .ref aB, .ref aV, .ref aE])), (aK, .inl (cI, 120, .inl K)), (aS, .inl (cI, 120, .inl Ln)), (aC, .inl (cI, 4800, .inl C)), (aU, .inl (cI, 120, .inl TL)), (aG, .inl (cI, 1920, .inl TG)), (aY, .inl (cI, 120, .inl TY)), (aP, .inl (cI, 320, .inl P)), (aD, .inl (cI, 3000, .inl Dv)), (aB, .inl (cI, 81, .inl (fu Bv qn dv))), (aO, .inl (cI, 3000, .inl fO)), (aV, .inl (cZ, 80, .inl TD))] := xD
          have hiq : i = qn := by omega
          have hFM : FilM (fu Bv qn dv) (fun j => qln (tmAt K Ln C TL TG TY) tn (qdAt P j)) (qn + 1) := filM_step hqz.1 (by rw [← hiq]; exact hB) (by rw [← hiq]; omega) (by omega)
          refine lv_aload_n xe xb d_TripleLinesModel_print_107 rfl (lv_at xl 0 rfl) ?_
          refine va_get (D := D) (ci := 6) (v := .int (iI dv)) (C := R_TripleLinesModel) (T := F_TripleLinesModel) (N := 29) xe xb xt i_TripleLinesModel xo xK xP 0 rfl rfl 24 (by decide) (xt _ mw_TripleLinesModel_226) (fun _ h9 => h9) rfl d_TripleLinesModel_print_108 ?_
          refine lv_sipush (v := iI (3000)) xe xb d_TripleLinesModel_print_111 (by decide) ?_
          refine tk_icmp_le (tgt := 120) xe xb d_TripleLinesModel_print_114 (by decide) (by omega) (fun C114 => ?_) (fun C114 => ?_)
          · have hft := PwM_fit HC C114
            rw [hiq] at hft
            have hLn : ∀ a, 0 ≤ a → a < qn → Lp Dv (fu Bv qn dv) a = (fun j => qln (tmAt K Ln C TL TG TY) tn (qdAt P j)) a := fun a h0 h1 => Lp_line hft.2.2 (filM_fil hFM) h0 h1
            have hso : sOk (fu Bv qn dv) qn dv := sOk_of hft.2.2 (by omega) (filM_fil hFM) hqz
            clear hB hFM HC hP
            refine lv_aload_n xe xb d_TripleLinesModel_print_120 rfl (lv_at xl 0 rfl) ?_
            refine lv_iconst (v := iI (0)) xe xb d_TripleLinesModel_print_121 rfl ?_
            refine va_put (D := D) (ci := 6) (v := .int (iI 0)) (ty := .int) (C := R_TripleLinesModel) (T := F_TripleLinesModel) (N := 29) xe xb xt i_TripleLinesModel t_TripleLinesModel t_TripleLinesModel_ok n_TripleLinesModel xo xK xP xD xS 0 rfl rfl 2 (by decide) (xt _ mw_TripleLinesModel_76) (fun _ h9 => h9) rfl (by decide +kernel) rfl rfl (Nat.le_of_ble_eq_true rfl) d_TripleLinesModel_print_122 ?_
            clear xP xD xS
            intro H locs xP xD xS
            replace xP : va_P D classes [(mM, .inr (6, [.int (iI tm), .ref aT, .int (iI 0), .ref aO, .int (iI tn), .ref aK, .ref aS, .ref aC, .ref aU, .ref aG, .ref aY, .ref aX, .int (iI qn), .ref aP, .int (iI tr), .int (iI rg), .int (iI ll), .int (iI p), .int (iI f), .int (iI ov), .int (iI sz), .ref aM, .int (iI tz), .ref aA, .int (iI dv), .ref aD, .ref aB, .ref aV, .ref aE])), (aK, .inl (cI, 120, .inl K)), (aS, .inl (cI, 120, .inl Ln)), (aC, .inl (cI, 4800, .inl C)), (aU, .inl (cI, 120, .inl TL)), (aG, .inl (cI, 1920, .inl TG)), (aY, .inl (cI, 120, .inl TY)), (aP, .inl (cI, 320, .inl P)), (aD, .inl (cI, 3000, .inl Dv)), (aB, .inl (cI, 81, .inl (fu Bv qn dv))), (aO, .inl (cI, 3000, .inl fO)), (aV, .inl (cZ, 80, .inl TD))] H := xP
            replace xD : va_D xA0 [(mM, .inr (6, [.int (iI tm), .ref aT, .int (iI 0), .ref aO, .int (iI tn), .ref aK, .ref aS, .ref aC, .ref aU, .ref aG, .ref aY, .ref aX, .int (iI qn), .ref aP, .int (iI tr), .int (iI rg), .int (iI ll), .int (iI p), .int (iI f), .int (iI ov), .int (iI sz), .ref aM, .int (iI tz), .ref aA, .int (iI dv), .ref aD, .ref aB, .ref aV, .ref aE])), (aK, .inl (cI, 120, .inl K)), (aS, .inl (cI, 120, .inl Ln)), (aC, .inl (cI, 4800, .inl C)), (aU, .inl (cI, 120, .inl TL)), (aG, .inl (cI, 1920, .inl TG)), (aY, .inl (cI, 120, .inl TY)), (aP, .inl (cI, 320, .inl P)), (aD, .inl (cI, 3000, .inl Dv)), (aB, .inl (cI, 81, .inl (fu Bv qn dv))), (aO, .inl (cI, 3000, .inl fO)), (aV, .inl (cZ, 80, .inl TD))] := xD
            refine lv_iconst (v := iI (0)) xe xb d_TripleLinesModel_print_125 rfl ?_
            refine lv_istore_n (lv' := [(2, .int (iI 0)), (0, .ref mM), (1, .int (iI fm))]) xe xb d_TripleLinesModel_print_126 rfl xl (by decide) rfl ?_
            clear xl
            intro ls xl
            have loop_127 : ∀ (n9 : Nat) (i2 : Int) (Tv : Nat → Int32), (80 - i2).toNat < n9 → (0 ≤ i2 ∧ i2 ≤ qn) → (∀ j, 0 ≤ j → j < i2 → tI Tv j = 0) → ∀ (H : Heap) (locs : List Loc), va_P D classes [(mM, .inr (6, [.int (iI tm), .ref aT, .int (iI 0), .ref aO, .int (iI tn), .ref aK, .ref aS, .ref aC, .ref aU, .ref aG, .ref aY, .ref aX, .int (iI qn), .ref aP, .int (iI tr), .int (iI rg), .int (iI ll), .int (iI p), .int (iI f), .int (iI ov), .int (iI sz), .ref aM, .int (iI tz), .ref aA, .int (iI dv), .ref aD, .ref aB, .ref aV, .ref aE])), (aK, .inl (cI, 120, .inl K)), (aS, .inl (cI, 120, .inl Ln)), (aC, .inl (cI, 4800, .inl C)), (aU, .inl (cI, 120, .inl TL)), (aG, .inl (cI, 1920, .inl TG)), (aY, .inl (cI, 120, .inl TY)), (aP, .inl (cI, 320, .inl P)), (aD, .inl (cI, 3000, .inl Dv)), (aB, .inl (cI, 81, .inl (fu Bv qn dv))), (aO, .inl (cI, 3000, .inl fO)), (aV, .inl (cZ, 80, .inl Tv))] H → va_D xA0 [(mM, .inr (6, [.int (iI tm), .ref aT, .int (iI 0), .ref aO, .int (iI tn), .ref aK, .ref aS, .ref aC, .ref aU, .ref aG, .ref aY, .ref aX, .int (iI qn), .ref aP, .int (iI tr), .int (iI rg), .int (iI ll), .int (iI p), .int (iI f), .int (iI ov), .int (iI sz), .ref aM, .int (iI tz), .ref aA, .int (iI dv), .ref aD, .ref aB, .ref aV, .ref aE])), (aK, .inl (cI, 120, .inl K)), (aS, .inl (cI, 120, .inl Ln)), (aC, .inl (cI, 4800, .inl C)), (aU, .inl (cI, 120, .inl TL)), (aG, .inl (cI, 1920, .inl TG)), (aY, .inl (cI, 120, .inl TY)), (aP, .inl (cI, 320, .inl P)), (aD, .inl (cI, 3000, .inl Dv)), (aB, .inl (cI, 81, .inl (fu Bv qn dv))), (aO, .inl (cI, 3000, .inl fO)), (aV, .inl (cZ, 80, .inl Tv))] → va_S xA0 xs.heap H locs → ∀ ls : Array Slot, lv_has ls 5 [(0, .ref mM), (1, .int (iI fm)), (2, .int (iI i2))] → W xp l xe0 (tk_rm 6) xs xm xar xbelow xmeth xc H locs 0 0 xQ (F0 xm 127 ls []) := by
              intro n9
              induction n9 with
              | zero => intro i2 Tv h9; exact absurd h9 (Nat.not_lt_zero _)
              | succ n9 ih9 =>
                intro i2 Tv hm9 hi2 hT H locs xP xD xS ls xl
                have ih_127 := ih9
                have hm_127 := hm9
                refine lv_iload_n xe xb d_TripleLinesModel_print_127 rfl (lv_at xl 2 rfl) ?_
                refine lv_aload_n xe xb d_TripleLinesModel_print_128 rfl (lv_at xl 0 rfl) ?_
                refine va_get (D := D) (ci := 6) (v := .int (iI qn)) (C := R_TripleLinesModel) (T := F_TripleLinesModel) (N := 29) xe xb xt i_TripleLinesModel xo xK xP 0 rfl rfl 12 (by decide) (xt _ mw_TripleLinesModel_211) (fun _ h9 => h9) rfl d_TripleLinesModel_print_129 ?_
                refine tk_icmp_ge (tgt := 148) xe xb d_TripleLinesModel_print_132 (by decide) (by omega) (fun c_5 => ?_) (fun c_5 => ?_)
                · refine lv_iconst (v := iI (0)) xe xb d_TripleLinesModel_print_148 rfl ?_
                  refine lv_istore_n (lv' := [(2, .int (iI 0)), (0, .ref mM), (1, .int (iI fm))]) xe xb d_TripleLinesModel_print_149 rfl xl (by decide) rfl ?_
                  clear xl
                  intro ls xl
                  have loop_150 : ∀ (n9 : Nat) (ln : Int) (c : List Int) (Tw : Nat → Int32) (ow : Int) (Ow : Nat → Int32), (80 - ln).toNat < n9 → (0 ≤ ln ∧ ln ≤ qn ∧ (c.length : Int) = ln) → (Sel (fun j => qln (tmAt K Ln C TL TG TY) tn (qdAt P j)) qn fm Tw c) → (lst (tI Ow) ow = (c.map (fun j => qln (tmAt K Ln C TL TG TY) tn (qdAt P j))).flatten) → (0 ≤ ow ∧ ow ≤ 3000) → ∀ (H : Heap) (locs : List Loc), va_P D classes [(mM, .inr (6, [.int (iI tm), .ref aT, .int (iI ow), .ref aO, .int (iI tn), .ref aK, .ref aS, .ref aC, .ref aU, .ref aG, .ref aY, .ref aX, .int (iI qn), .ref aP, .int (iI tr), .int (iI rg), .int (iI ll), .int (iI p), .int (iI f), .int (iI ov), .int (iI sz), .ref aM, .int (iI tz), .ref aA, .int (iI dv), .ref aD, .ref aB, .ref aV, .ref aE])), (aK, .inl (cI, 120, .inl K)), (aS, .inl (cI, 120, .inl Ln)), (aC, .inl (cI, 4800, .inl C)), (aU, .inl (cI, 120, .inl TL)), (aG, .inl (cI, 1920, .inl TG)), (aY, .inl (cI, 120, .inl TY)), (aP, .inl (cI, 320, .inl P)), (aD, .inl (cI, 3000, .inl Dv)), (aB, .inl (cI, 81, .inl (fu Bv qn dv))), (aO, .inl (cI, 3000, .inl Ow)), (aV, .inl (cZ, 80, .inl Tw))] H → va_D xA0 [(mM, .inr (6, [.int (iI tm), .ref aT, .int (iI ow), .ref aO, .int (iI tn), .ref aK, .ref aS, .ref aC, .ref aU, .ref aG, .ref aY, .ref aX, .int (iI qn), .ref aP, .int (iI tr), .int (iI rg), .int (iI ll), .int (iI p), .int (iI f), .int (iI ov), .int (iI sz), .ref aM, .int (iI tz), .ref aA, .int (iI dv), .ref aD, .ref aB, .ref aV, .ref aE])), (aK, .inl (cI, 120, .inl K)), (aS, .inl (cI, 120, .inl Ln)), (aC, .inl (cI, 4800, .inl C)), (aU, .inl (cI, 120, .inl TL)), (aG, .inl (cI, 1920, .inl TG)), (aY, .inl (cI, 120, .inl TY)), (aP, .inl (cI, 320, .inl P)), (aD, .inl (cI, 3000, .inl Dv)), (aB, .inl (cI, 81, .inl (fu Bv qn dv))), (aO, .inl (cI, 3000, .inl Ow)), (aV, .inl (cZ, 80, .inl Tw))] → va_S xA0 xs.heap H locs → ∀ ls : Array Slot, lv_has ls 5 [(0, .ref mM), (1, .int (iI fm)), (2, .int (iI ln))] → W xp l xe0 (tk_rm 6) xs xm xar xbelow xmeth xc H locs 0 0 xQ (F0 xm 150 ls []) := by
                    intro n9
                    induction n9 with
                    | zero => intro ln c Tw ow Ow h9; exact absurd h9 (Nat.not_lt_zero _)
                    | succ n9 ih9 =>
                      intro ln c Tw ow Ow hm9 hl hS hO hO0 H locs xP xD xS ls xl
                      have ih_150 := ih9
                      have hm_150 := hm9
                      refine lv_iload_n xe xb d_TripleLinesModel_print_150 rfl (lv_at xl 2 rfl) ?_
                      refine lv_aload_n xe xb d_TripleLinesModel_print_151 rfl (lv_at xl 0 rfl) ?_
                      refine va_get (D := D) (ci := 6) (v := .int (iI qn)) (C := R_TripleLinesModel) (T := F_TripleLinesModel) (N := 29) xe xb xt i_TripleLinesModel xo xK xP 0 rfl rfl 12 (by decide) (xt _ mw_TripleLinesModel_211) (fun _ h9 => h9) rfl d_TripleLinesModel_print_152 ?_
                      refine tk_icmp_ge (tgt := 276) xe xb d_TripleLinesModel_print_155 (by decide) (by omega) (fun c_6 => ?_) (fun c_6 => ?_)
                      · refine lv_aload_n xe xb d_TripleLinesModel_print_276 rfl (lv_at xl 0 rfl) ?_
                        refine va_get (D := D) (ci := 6) (v := .int (iI ow)) (C := R_TripleLinesModel) (T := F_TripleLinesModel) (N := 29) xe xb xt i_TripleLinesModel xo xK xP 0 rfl rfl 2 (by decide) (xt _ mw_TripleLinesModel_76) (fun _ h9 => h9) rfl d_TripleLinesModel_print_277 ?_
                        exact xret _ _ _ _ ow (ow, dv, Dv, (fu Bv qn dv), Ow, Tw) d_TripleLinesModel_print_280 trivial (by omega) (by first | exact (⟨hO0, Or.inr (Or.inr ⟨by omega, by omega, by rw [lst_length]; omega, by rw [hO]; exact Sel_end hS (by omega)⟩)⟩) | (dsimp only; exact (⟨hO0, Or.inr (Or.inr ⟨by omega, by omega, by rw [lst_length]; omega, by rw [hO]; exact Sel_end hS (by omega)⟩)⟩))) xP xD xS
                      · refine lv_iconst (v := iI (-1)) xe xb d_TripleLinesModel_print_158 rfl ?_
                        refine lv_istore_n (lv' := [(3, .int (iI (-1))), (0, .ref mM), (1, .int (iI fm)), (2, .int (iI ln))]) xe xb d_TripleLinesModel_print_159 rfl xl (by decide) rfl ?_
                        clear xl
                        intro ls xl
                        refine lv_iconst (v := iI (0)) xe xb d_TripleLinesModel_print_160 rfl ?_
                        refine lv_istore (lv' := [(4, .int (iI 0)), (3, .int (iI (-1))), (0, .ref mM), (1, .int (iI fm)), (2, .int (iI ln))]) xe xb d_TripleLinesModel_print_161 xl (by decide) rfl ?_
                        clear xl
                        intro ls xl
                        have loop_163 : ∀ (n9 : Nat) (i : Int) (bs : Int), (80 - i).toNat < n9 → (0 ≤ i ∧ i ≤ qn ∧ -1 ≤ bs ∧ bs < qn) → (Bst (fun j => qln (tmAt K Ln C TL TG TY) tn (qdAt P j)) qn fm Tw i bs) → ∀ (H : Heap) (locs : List Loc), va_P D classes [(mM, .inr (6, [.int (iI tm), .ref aT, .int (iI ow), .ref aO, .int (iI tn), .ref aK, .ref aS, .ref aC, .ref aU, .ref aG, .ref aY, .ref aX, .int (iI qn), .ref aP, .int (iI tr), .int (iI rg), .int (iI ll), .int (iI p), .int (iI f), .int (iI ov), .int (iI sz), .ref aM, .int (iI tz), .ref aA, .int (iI dv), .ref aD, .ref aB, .ref aV, .ref aE])), (aK, .inl (cI, 120, .inl K)), (aS, .inl (cI, 120, .inl Ln)), (aC, .inl (cI, 4800, .inl C)), (aU, .inl (cI, 120, .inl TL)), (aG, .inl (cI, 1920, .inl TG)), (aY, .inl (cI, 120, .inl TY)), (aP, .inl (cI, 320, .inl P)), (aD, .inl (cI, 3000, .inl Dv)), (aB, .inl (cI, 81, .inl (fu Bv qn dv))), (aO, .inl (cI, 3000, .inl Ow)), (aV, .inl (cZ, 80, .inl Tw))] H → va_D xA0 [(mM, .inr (6, [.int (iI tm), .ref aT, .int (iI ow), .ref aO, .int (iI tn), .ref aK, .ref aS, .ref aC, .ref aU, .ref aG, .ref aY, .ref aX, .int (iI qn), .ref aP, .int (iI tr), .int (iI rg), .int (iI ll), .int (iI p), .int (iI f), .int (iI ov), .int (iI sz), .ref aM, .int (iI tz), .ref aA, .int (iI dv), .ref aD, .ref aB, .ref aV, .ref aE])), (aK, .inl (cI, 120, .inl K)), (aS, .inl (cI, 120, .inl Ln)), (aC, .inl (cI, 4800, .inl C)), (aU, .inl (cI, 120, .inl TL)), (aG, .inl (cI, 1920, .inl TG)), (aY, .inl (cI, 120, .inl TY)), (aP, .inl (cI, 320, .inl P)), (aD, .inl (cI, 3000, .inl Dv)), (aB, .inl (cI, 81, .inl (fu Bv qn dv))), (aO, .inl (cI, 3000, .inl Ow)), (aV, .inl (cZ, 80, .inl Tw))] → va_S xA0 xs.heap H locs → ∀ ls : Array Slot, lv_has ls 5 [(0, .ref mM), (1, .int (iI fm)), (2, .int (iI ln)), (3, .int (iI bs)), (4, .int (iI i))] → W xp l xe0 (tk_rm 6) xs xm xar xbelow xmeth xc H locs 0 0 xQ (F0 xm 163 ls []) := by
                          intro n9
                          induction n9 with
                          | zero => intro i bs h9; exact absurd h9 (Nat.not_lt_zero _)
                          | succ n9 ih9 =>
                            intro i bs hm9 hi3 hb H locs xP xD xS ls xl
                            have ih_163 := ih9
                            have hm_163 := hm9
                            refine lv_iload xe xb d_TripleLinesModel_print_163 (lv_at xl 4 rfl) ?_
                            refine lv_aload_n xe xb d_TripleLinesModel_print_165 rfl (lv_at xl 0 rfl) ?_
                            refine va_get (D := D) (ci := 6) (v := .int (iI qn)) (C := R_TripleLinesModel) (T := F_TripleLinesModel) (N := 29) xe xb xt i_TripleLinesModel xo xK xP 0 rfl rfl 12 (by decide) (xt _ mw_TripleLinesModel_211) (fun _ h9 => h9) rfl d_TripleLinesModel_print_166 ?_
                            refine tk_icmp_ge (tgt := 210) xe xb d_TripleLinesModel_print_169 (by decide) (by omega) (fun C169 => ?_) (fun C169 => ?_)
                            · have HS9 := Sel_step hS (by omega) (by have h9 := hb; rw [show i = qn by omega] at h9; exact h9)
                              have hs9 := hso.2.2 bs HS9.1.1 HS9.1.2
                              have hl9 : ((c.map (fun j => qln (tmAt K Ln C TL TG TY) tn (qdAt P j))).flatten).length + (qln (tmAt K Ln C TL TG TY) tn (qdAt P bs)).length ≤ ((lst (fun j => qln (tmAt K Ln C TL TG TY) tn (qdAt P j)) qn).flatten).length := by have h9 := sub_len HS9.2; rw [← flc, List.length_append] at h9; exact h9
                              have hll : (qln (tmAt K Ln C TL TG TY) tn (qdAt P bs)).length = ((tI (fu Bv qn dv) (bs + 1)) - (tI (fu Bv qn dv) bs)).toNat := by rw [← (show Lp Dv (fu Bv qn dv) bs = qln (tmAt K Ln C TL TG TY) tn (qdAt P bs) from hLn bs HS9.1.1 HS9.1.2)]; exact Lp_len _ _ _
                              have hol : ow = (((c.map (fun j => qln (tmAt K Ln C TL TG TY) tn (qdAt P j))).flatten).length : Int) := by have h9 := congrArg List.length hO; rw [lst_length] at h9; omega
                              refine lv_aload_n xe xb d_TripleLinesModel_print_210 rfl (lv_at xl 0 rfl) ?_
                              refine va_get (D := D) (ci := 6) (v := .ref aV) (C := R_TripleLinesModel) (T := F_TripleLinesModel) (N := 29) xe xb xt i_TripleLinesModel xo xK xP 0 rfl rfl 27 (by decide) (xt _ mw_TripleLinesModel_52) (fun _ h9 => h9) rfl d_TripleLinesModel_print_211 ?_
                              refine lv_iload_n xe xb d_TripleLinesModel_print_214 rfl (lv_at xl 3 rfl) ?_
                              refine lv_iconst (v := iI (1)) xe xb d_TripleLinesModel_print_215 rfl ?_
                              refine tk_zast xe xb xK xP xD xS 11 1 rfl rfl (by omega) (by omega) d_TripleLinesModel_print_216 ?_
                              clear xP xD xS
                              intro H locs xP xD xS
                              replace xP : va_P D classes [(mM, .inr (6, [.int (iI tm), .ref aT, .int (iI ow), .ref aO, .int (iI tn), .ref aK, .ref aS, .ref aC, .ref aU, .ref aG, .ref aY, .ref aX, .int (iI qn), .ref aP, .int (iI tr), .int (iI rg), .int (iI ll), .int (iI p), .int (iI f), .int (iI ov), .int (iI sz), .ref aM, .int (iI tz), .ref aA, .int (iI dv), .ref aD, .ref aB, .ref aV, .ref aE])), (aK, .inl (cI, 120, .inl K)), (aS, .inl (cI, 120, .inl Ln)), (aC, .inl (cI, 4800, .inl C)), (aU, .inl (cI, 120, .inl TL)), (aG, .inl (cI, 1920, .inl TG)), (aY, .inl (cI, 120, .inl TY)), (aP, .inl (cI, 320, .inl P)), (aD, .inl (cI, 3000, .inl Dv)), (aB, .inl (cI, 81, .inl (fu Bv qn dv))), (aO, .inl (cI, 3000, .inl Ow)), (aV, .inl (cZ, 80, .inl (fu Tw bs 1)))] H := xP
                              replace xD : va_D xA0 [(mM, .inr (6, [.int (iI tm), .ref aT, .int (iI ow), .ref aO, .int (iI tn), .ref aK, .ref aS, .ref aC, .ref aU, .ref aG, .ref aY, .ref aX, .int (iI qn), .ref aP, .int (iI tr), .int (iI rg), .int (iI ll), .int (iI p), .int (iI f), .int (iI ov), .int (iI sz), .ref aM, .int (iI tz), .ref aA, .int (iI dv), .ref aD, .ref aB, .ref aV, .ref aE])), (aK, .inl (cI, 120, .inl K)), (aS, .inl (cI, 120, .inl Ln)), (aC, .inl (cI, 4800, .inl C)), (aU, .inl (cI, 120, .inl TL)), (aG, .inl (cI, 1920, .inl TG)), (aY, .inl (cI, 120, .inl TY)), (aP, .inl (cI, 320, .inl P)), (aD, .inl (cI, 3000, .inl Dv)), (aB, .inl (cI, 81, .inl (fu Bv qn dv))), (aO, .inl (cI, 3000, .inl Ow)), (aV, .inl (cZ, 80, .inl (fu Tw bs 1)))] := xD
                              refine lv_aload_n xe xb d_TripleLinesModel_print_217 rfl (lv_at xl 0 rfl) ?_
                              refine va_get (D := D) (ci := 6) (v := .ref aB) (C := R_TripleLinesModel) (T := F_TripleLinesModel) (N := 29) xe xb xt i_TripleLinesModel xo xK xP 0 rfl rfl 26 (by decide) (xt _ mw_TripleLinesModel_49) (fun _ h9 => h9) rfl d_TripleLinesModel_print_218 ?_
                              refine lv_iload_n xe xb d_TripleLinesModel_print_221 rfl (lv_at xl 3 rfl) ?_
                              refine tk_iald xe xb xK xP 9 0 rfl rfl (by omega) d_TripleLinesModel_print_222 ?_
                              have hr_7 := tI_rg (fu Bv qn dv) bs
                              refine lv_istore (lv' := [(4, .int (iI (tI (fu Bv qn dv) bs))), (0, .ref mM), (1, .int (iI fm)), (2, .int (iI ln)), (3, .int (iI bs))]) xe xb d_TripleLinesModel_print_223 xl (by decide) rfl ?_
                              clear xl
                              intro ls xl
                              have loop_225 : ∀ (n9 : Nat) (k3 : Int) (ox : Int) (Ox : Nat → Int32), ((tI (fu Bv qn dv) (bs + 1)) - k3).toNat < n9 → ((tI (fu Bv qn dv) bs) ≤ k3 ∧ k3 ≤ (tI (fu Bv qn dv) (bs + 1))) → (ox = (((c.map (fun j => qln (tmAt K Ln C TL TG TY) tn (qdAt P j))).flatten).length : Int) + (k3 - (tI (fu Bv qn dv) bs))) → (lst (tI Ox) ox = (c.map (fun j => qln (tmAt K Ln C TL TG TY) tn (qdAt P j))).flatten ++ seg Dv (tI (fu Bv qn dv) bs) (k3 - (tI (fu Bv qn dv) bs))) → ∀ (H : Heap) (locs : List Loc), va_P D classes [(mM, .inr (6, [.int (iI tm), .ref aT, .int (iI ox), .ref aO, .int (iI tn), .ref aK, .ref aS, .ref aC, .ref aU, .ref aG, .ref aY, .ref aX, .int (iI qn), .ref aP, .int (iI tr), .int (iI rg), .int (iI ll), .int (iI p), .int (iI f), .int (iI ov), .int (iI sz), .ref aM, .int (iI tz), .ref aA, .int (iI dv), .ref aD, .ref aB, .ref aV, .ref aE])), (aK, .inl (cI, 120, .inl K)), (aS, .inl (cI, 120, .inl Ln)), (aC, .inl (cI, 4800, .inl C)), (aU, .inl (cI, 120, .inl TL)), (aG, .inl (cI, 1920, .inl TG)), (aY, .inl (cI, 120, .inl TY)), (aP, .inl (cI, 320, .inl P)), (aD, .inl (cI, 3000, .inl Dv)), (aB, .inl (cI, 81, .inl (fu Bv qn dv))), (aO, .inl (cI, 3000, .inl Ox)), (aV, .inl (cZ, 80, .inl (fu Tw bs 1)))] H → va_D xA0 [(mM, .inr (6, [.int (iI tm), .ref aT, .int (iI ox), .ref aO, .int (iI tn), .ref aK, .ref aS, .ref aC, .ref aU, .ref aG, .ref aY, .ref aX, .int (iI qn), .ref aP, .int (iI tr), .int (iI rg), .int (iI ll), .int (iI p), .int (iI f), .int (iI ov), .int (iI sz), .ref aM, .int (iI tz), .ref aA, .int (iI dv), .ref aD, .ref aB, .ref aV, .ref aE])), (aK, .inl (cI, 120, .inl K)), (aS, .inl (cI, 120, .inl Ln)), (aC, .inl (cI, 4800, .inl C)), (aU, .inl (cI, 120, .inl TL)), (aG, .inl (cI, 1920, .inl TG)), (aY, .inl (cI, 120, .inl TY)), (aP, .inl (cI, 320, .inl P)), (aD, .inl (cI, 3000, .inl Dv)), (aB, .inl (cI, 81, .inl (fu Bv qn dv))), (aO, .inl (cI, 3000, .inl Ox)), (aV, .inl (cZ, 80, .inl (fu Tw bs 1)))] → va_S xA0 xs.heap H locs → ∀ ls : Array Slot, lv_has ls 5 [(0, .ref mM), (1, .int (iI fm)), (2, .int (iI ln)), (3, .int (iI bs)), (4, .int (iI k3))] → W xp l xe0 (tk_rm 6) xs xm xar xbelow xmeth xc H locs 0 0 xQ (F0 xm 225 ls []) := by
                                intro n9
                                induction n9 with
                                | zero => intro k3 ox Ox h9; exact absurd h9 (Nat.not_lt_zero _)
                                | succ n9 ih9 =>
                                  intro k3 ox Ox hm9 hk3 hox hX H locs xP xD xS ls xl
                                  have ih_225 := ih9
                                  have hm_225 := hm9
                                  refine lv_iload xe xb d_TripleLinesModel_print_225 (lv_at xl 4 rfl) ?_
                                  refine lv_aload_n xe xb d_TripleLinesModel_print_227 rfl (lv_at xl 0 rfl) ?_
                                  refine va_get (D := D) (ci := 6) (v := .ref aB) (C := R_TripleLinesModel) (T := F_TripleLinesModel) (N := 29) xe xb xt i_TripleLinesModel xo xK xP 0 rfl rfl 26 (by decide) (xt _ mw_TripleLinesModel_49) (fun _ h9 => h9) rfl d_TripleLinesModel_print_228 ?_
                                  refine lv_iload_n xe xb d_TripleLinesModel_print_231 rfl (lv_at xl 3 rfl) ?_
                                  refine lv_iconst (v := iI (1)) xe xb d_TripleLinesModel_print_232 rfl ?_
                                  refine tk_iadd xe xb d_TripleLinesModel_print_233 ?_
                                  refine tk_iald xe xb xK xP 9 0 rfl rfl (by omega) d_TripleLinesModel_print_234 ?_
                                  have hr_8 := tI_rg (fu Bv qn dv) (bs + 1)
                                  refine tk_icmp_ge (tgt := 270) xe xb d_TripleLinesModel_print_235 (by decide) (by omega) (fun c_9 => ?_) (fun c_9 => ?_)
                                  · refine tk_iinc (v := (ln + 1)) (lv' := [(2, .int (iI (ln + 1))), (0, .ref mM), (1, .int (iI fm)), (3, .int (iI bs)), (4, .int (iI k3))]) xe xb d_TripleLinesModel_print_270 xl (k := 2) rfl rfl (by decide) rfl ?_
                                    clear xl
                                    intro ls xl
                                    refine lv_goto (tgt := 150) xe xb d_TripleLinesModel_print_273 (by decide) ?_
                                    exact ih_150 (ln + 1) (c ++ [bs]) (fu Tw bs 1) ox Ox (by omega) (by rw [List.length_append, List.length_cons, List.length_nil]; omega) HS9.2 (by rw [hX, show k3 = (tI (fu Bv qn dv) (bs + 1)) by omega]; exact (congrArg (fun y => (c.map (fun j => qln (tmAt K Ln C TL TG TY) tn (qdAt P j))).flatten ++ y) (hLn bs HS9.1.1 HS9.1.2)).trans flc) (by first | assumption | omega) _ _ xP xD xS ls (lv_sub xl [1, 2, 0] rfl)
                                  · refine lv_aload_n xe xb d_TripleLinesModel_print_238 rfl (lv_at xl 0 rfl) ?_
                                    refine va_get (D := D) (ci := 6) (v := .ref aO) (C := R_TripleLinesModel) (T := F_TripleLinesModel) (N := 29) xe xb xt i_TripleLinesModel xo xK xP 0 rfl rfl 3 (by decide) (xt _ mw_TripleLinesModel_13) (fun _ h9 => h9) rfl d_TripleLinesModel_print_239 ?_
                                    refine lv_aload_n xe xb d_TripleLinesModel_print_242 rfl (lv_at xl 0 rfl) ?_
                                    refine va_get (D := D) (ci := 6) (v := .int (iI ox)) (C := R_TripleLinesModel) (T := F_TripleLinesModel) (N := 29) xe xb xt i_TripleLinesModel xo xK xP 0 rfl rfl 2 (by decide) (xt _ mw_TripleLinesModel_76) (fun _ h9 => h9) rfl d_TripleLinesModel_print_243 ?_
                                    refine lv_aload_n xe xb d_TripleLinesModel_print_246 rfl (lv_at xl 0 rfl) ?_
                                    refine va_get (D := D) (ci := 6) (v := .ref aD) (C := R_TripleLinesModel) (T := F_TripleLinesModel) (N := 29) xe xb xt i_TripleLinesModel xo xK xP 0 rfl rfl 25 (by decide) (xt _ mw_TripleLinesModel_46) (fun _ h9 => h9) rfl d_TripleLinesModel_print_247 ?_
                                    refine lv_iload xe xb d_TripleLinesModel_print_250 (lv_at xl 4 rfl) ?_
                                    refine tk_iald xe xb xK xP 8 0 rfl rfl (by omega) d_TripleLinesModel_print_252 ?_
                                    have hr_10 := tI_rg Dv k3
                                    refine tk_iast xe xb xK xP xD xS 10 0 rfl rfl (by omega) d_TripleLinesModel_print_253 ?_
                                    clear xP xD xS
                                    intro H locs xP xD xS
                                    replace xP : va_P D classes [(mM, .inr (6, [.int (iI tm), .ref aT, .int (iI ox), .ref aO, .int (iI tn), .ref aK, .ref aS, .ref aC, .ref aU, .ref aG, .ref aY, .ref aX, .int (iI qn), .ref aP, .int (iI tr), .int (iI rg), .int (iI ll), .int (iI p), .int (iI f), .int (iI ov), .int (iI sz), .ref aM, .int (iI tz), .ref aA, .int (iI dv), .ref aD, .ref aB, .ref aV, .ref aE])), (aK, .inl (cI, 120, .inl K)), (aS, .inl (cI, 120, .inl Ln)), (aC, .inl (cI, 4800, .inl C)), (aU, .inl (cI, 120, .inl TL)), (aG, .inl (cI, 1920, .inl TG)), (aY, .inl (cI, 120, .inl TY)), (aP, .inl (cI, 320, .inl P)), (aD, .inl (cI, 3000, .inl Dv)), (aB, .inl (cI, 81, .inl (fu Bv qn dv))), (aO, .inl (cI, 3000, .inl (fu Ox ox (tI Dv k3)))), (aV, .inl (cZ, 80, .inl (fu Tw bs 1)))] H := xP
                                    replace xD : va_D xA0 [(mM, .inr (6, [.int (iI tm), .ref aT, .int (iI ox), .ref aO, .int (iI tn), .ref aK, .ref aS, .ref aC, .ref aU, .ref aG, .ref aY, .ref aX, .int (iI qn), .ref aP, .int (iI tr), .int (iI rg), .int (iI ll), .int (iI p), .int (iI f), .int (iI ov), .int (iI sz), .ref aM, .int (iI tz), .ref aA, .int (iI dv), .ref aD, .ref aB, .ref aV, .ref aE])), (aK, .inl (cI, 120, .inl K)), (aS, .inl (cI, 120, .inl Ln)), (aC, .inl (cI, 4800, .inl C)), (aU, .inl (cI, 120, .inl TL)), (aG, .inl (cI, 1920, .inl TG)), (aY, .inl (cI, 120, .inl TY)), (aP, .inl (cI, 320, .inl P)), (aD, .inl (cI, 3000, .inl Dv)), (aB, .inl (cI, 81, .inl (fu Bv qn dv))), (aO, .inl (cI, 3000, .inl (fu Ox ox (tI Dv k3)))), (aV, .inl (cZ, 80, .inl (fu Tw bs 1)))] := xD
                                    refine lv_aload_n xe xb d_TripleLinesModel_print_254 rfl (lv_at xl 0 rfl) ?_
                                    refine lv_dup xe xb d_TripleLinesModel_print_255 rfl ?_
                                    refine va_get (D := D) (ci := 6) (v := .int (iI ox)) (C := R_TripleLinesModel) (T := F_TripleLinesModel) (N := 29) xe xb xt i_TripleLinesModel xo xK xP 0 rfl rfl 2 (by decide) (xt _ mw_TripleLinesModel_76) (fun _ h9 => h9) rfl d_TripleLinesModel_print_256 ?_
                                    refine lv_iconst (v := iI (1)) xe xb d_TripleLinesModel_print_259 rfl ?_
                                    refine tk_iadd xe xb d_TripleLinesModel_print_260 ?_
                                    refine va_put (D := D) (ci := 6) (v := .int (iI (ox + 1))) (ty := .int) (C := R_TripleLinesModel) (T := F_TripleLinesModel) (N := 29) xe xb xt i_TripleLinesModel t_TripleLinesModel t_TripleLinesModel_ok n_TripleLinesModel xo xK xP xD xS 0 rfl rfl 2 (by decide) (xt _ mw_TripleLinesModel_76) (fun _ h9 => h9) rfl (by decide +kernel) rfl rfl (Nat.le_of_ble_eq_true rfl) d_TripleLinesModel_print_261 ?_
                                    clear xP xD xS
                                    intro H locs xP xD xS
                                    replace xP : va_P D classes [(mM, .inr (6, [.int (iI tm), .ref aT, .int (iI (ox + 1)), .ref aO, .int (iI tn), .ref aK, .ref aS, .ref aC, .ref aU, .ref aG, .ref aY, .ref aX, .int (iI qn), .ref aP, .int (iI tr), .int (iI rg), .int (iI ll), .int (iI p), .int (iI f), .int (iI ov), .int (iI sz), .ref aM, .int (iI tz), .ref aA, .int (iI dv), .ref aD, .ref aB, .ref aV, .ref aE])), (aK, .inl (cI, 120, .inl K)), (aS, .inl (cI, 120, .inl Ln)), (aC, .inl (cI, 4800, .inl C)), (aU, .inl (cI, 120, .inl TL)), (aG, .inl (cI, 1920, .inl TG)), (aY, .inl (cI, 120, .inl TY)), (aP, .inl (cI, 320, .inl P)), (aD, .inl (cI, 3000, .inl Dv)), (aB, .inl (cI, 81, .inl (fu Bv qn dv))), (aO, .inl (cI, 3000, .inl (fu Ox ox (tI Dv k3)))), (aV, .inl (cZ, 80, .inl (fu Tw bs 1)))] H := xP
                                    replace xD : va_D xA0 [(mM, .inr (6, [.int (iI tm), .ref aT, .int (iI (ox + 1)), .ref aO, .int (iI tn), .ref aK, .ref aS, .ref aC, .ref aU, .ref aG, .ref aY, .ref aX, .int (iI qn), .ref aP, .int (iI tr), .int (iI rg), .int (iI ll), .int (iI p), .int (iI f), .int (iI ov), .int (iI sz), .ref aM, .int (iI tz), .ref aA, .int (iI dv), .ref aD, .ref aB, .ref aV, .ref aE])), (aK, .inl (cI, 120, .inl K)), (aS, .inl (cI, 120, .inl Ln)), (aC, .inl (cI, 4800, .inl C)), (aU, .inl (cI, 120, .inl TL)), (aG, .inl (cI, 1920, .inl TG)), (aY, .inl (cI, 120, .inl TY)), (aP, .inl (cI, 320, .inl P)), (aD, .inl (cI, 3000, .inl Dv)), (aB, .inl (cI, 81, .inl (fu Bv qn dv))), (aO, .inl (cI, 3000, .inl (fu Ox ox (tI Dv k3)))), (aV, .inl (cZ, 80, .inl (fu Tw bs 1)))] := xD
                                    refine tk_iinc (v := (k3 + 1)) (lv' := [(4, .int (iI (k3 + 1))), (0, .ref mM), (1, .int (iI fm)), (2, .int (iI ln)), (3, .int (iI bs))]) xe xb d_TripleLinesModel_print_264 xl (k := 4) rfl rfl (by decide) rfl ?_
                                    clear xl
                                    intro ls xl
                                    refine lv_goto (tgt := 225) xe xb d_TripleLinesModel_print_267 (by decide) ?_
                                    exact ih_225 (k3 + 1) (ox + 1) (fu Ox ox (tI Dv k3)) (by omega) (by first | assumption | omega) (by first | assumption | omega) (cpM_step hk3.1 (by omega) hX) _ _ xP xD xS ls (lv_sub xl [1, 2, 3, 4, 0] rfl)
                              exact loop_225 _ (tI (fu Bv qn dv) bs) ow Ow (Nat.lt_succ_self _) (by first | assumption | omega) (by omega) (by rw [hO, show (tI (fu Bv qn dv) bs) - (tI (fu Bv qn dv) bs) = 0 by omega, show seg Dv (tI (fu Bv qn dv) bs) 0 = [] from lst_neg (Int.le_refl 0), List.append_nil]) _ _ xP xD xS ls (lv_sub xl [1, 2, 3, 4, 0] rfl)
                            · refine lv_aload_n xe xb d_TripleLinesModel_print_172 rfl (lv_at xl 0 rfl) ?_
                              refine va_get (D := D) (ci := 6) (v := .ref aV) (C := R_TripleLinesModel) (T := F_TripleLinesModel) (N := 29) xe xb xt i_TripleLinesModel xo xK xP 0 rfl rfl 27 (by decide) (xt _ mw_TripleLinesModel_52) (fun _ h9 => h9) rfl d_TripleLinesModel_print_173 ?_
                              refine lv_iload xe xb d_TripleLinesModel_print_176 (lv_at xl 4 rfl) ?_
                              refine tk_zald xe xb xK xP 11 1 rfl rfl (by omega) d_TripleLinesModel_print_178 ?_
                              have hr_11 := tI_rg Tw i
                              refine tk_if_ne (tgt := 204) xe xb d_TripleLinesModel_print_179 (by decide) (by omega) (fun C179 => ?_) (fun C179 => ?_)
                              · refine tk_iinc (v := (i + 1)) (lv' := [(4, .int (iI (i + 1))), (0, .ref mM), (1, .int (iI fm)), (2, .int (iI ln)), (3, .int (iI bs))]) xe xb d_TripleLinesModel_print_204 xl (k := 4) rfl rfl (by decide) rfl ?_
                                clear xl
                                intro ls xl
                                refine lv_goto (tgt := 163) xe xb d_TripleLinesModel_print_207 (by decide) ?_
                                exact ih_163 (i + 1) bs (by omega) (by first | assumption | omega) (Bst_told hb C179) _ _ xP xD xS ls (lv_sub xl [1, 2, 3, 4, 0] rfl)
                              · refine lv_iload_n xe xb d_TripleLinesModel_print_182 rfl (lv_at xl 3 rfl) ?_
                                refine tk_if_lt (tgt := 201) xe xb d_TripleLinesModel_print_183 (by decide) (by omega) (fun C183 => ?_) (fun C183 => ?_)
                                · refine lv_iload xe xb d_TripleLinesModel_print_201 (lv_at xl 4 rfl) ?_
                                  refine lv_istore_n (lv' := [(3, .int (iI i)), (0, .ref mM), (1, .int (iI fm)), (2, .int (iI ln)), (4, .int (iI i))]) xe xb d_TripleLinesModel_print_203 rfl xl (by decide) rfl ?_
                                  clear xl
                                  intro ls xl
                                  refine tk_iinc (v := (i + 1)) (lv' := [(4, .int (iI (i + 1))), (3, .int (iI i)), (0, .ref mM), (1, .int (iI fm)), (2, .int (iI ln))]) xe xb d_TripleLinesModel_print_204 xl (k := 4) rfl rfl (by decide) rfl ?_
                                  clear xl
                                  intro ls xl
                                  refine lv_goto (tgt := 163) xe xb d_TripleLinesModel_print_207 (by decide) ?_
                                  exact ih_163 (i + 1) i (by omega) (by first | assumption | omega) (Bst_first hb C183 hi3.1 (by omega) (hok _ hi3.1 (by omega))) _ _ xP xD xS ls (lv_sub xl [2, 3, 4, 1, 0] rfl)
                                · refine lv_iload_n xe xb d_TripleLinesModel_print_186 rfl (lv_at xl 1 rfl) ?_
                                  refine lv_iconst (v := iI (1)) xe xb d_TripleLinesModel_print_187 rfl ?_
                                  refine tk_icmp_ne (tgt := 204) xe xb d_TripleLinesModel_print_188 (by decide) (by omega) (fun C188 => ?_) (fun C188 => ?_)
                                  · refine tk_iinc (v := (i + 1)) (lv' := [(4, .int (iI (i + 1))), (0, .ref mM), (1, .int (iI fm)), (2, .int (iI ln)), (3, .int (iI bs))]) xe xb d_TripleLinesModel_print_204 xl (k := 4) rfl rfl (by decide) rfl ?_
                                    clear xl
                                    intro ls xl
                                    refine lv_goto (tgt := 163) xe xb d_TripleLinesModel_print_207 (by decide) ?_
                                    exact ih_163 (i + 1) bs (by omega) (by first | assumption | omega) (Bst_keep0 hb C183 C188) _ _ xP xD xS ls (lv_sub xl [1, 2, 3, 4, 0] rfl)
                                  · refine lv_aload_n xe xb d_TripleLinesModel_print_191 rfl (lv_at xl 0 rfl) ?_
                                    refine lv_iload xe xb d_TripleLinesModel_print_192 (lv_at xl 4 rfl) ?_
                                    refine lv_iload_n xe xb d_TripleLinesModel_print_194 rfl (lv_at xl 3 rfl) ?_
                                    refine tk_callVi (As := [.int (iI i), .int (iI bs)]) (rest := []) (wr := [(aK, .inl (cI, 120, .inl K)), (aS, .inl (cI, 120, .inl Ln)), (aC, .inl (cI, 4800, .inl C)), (aU, .inl (cI, 120, .inl TL)), (aG, .inl (cI, 1920, .inl TG)), (aY, .inl (cI, 120, .inl TY)), (aP, .inl (cI, 320, .inl P)), (aO, .inl (cI, 3000, .inl Ow)), (aV, .inl (cZ, 80, .inl Tw))]) (wn := fun u => [(mM, .inr (6, [.int (iI tm), .ref aT, .int (iI ow), .ref aO, .int (iI tn), .ref aK, .ref aS, .ref aC, .ref aU, .ref aG, .ref aY, .ref aX, .int (iI qn), .ref aP, .int (iI tr), .int (iI rg), .int (iI ll), .int (iI p), .int (iI f), .int (iI ov), .int (iI sz), .ref aM, .int (iI tz), .ref aA, .int (iI dv), .ref aD, .ref aB, .ref aV, .ref aE])), (aK, .inl (cI, 120, .inl K)), (aS, .inl (cI, 120, .inl Ln)), (aC, .inl (cI, 4800, .inl C)), (aU, .inl (cI, 120, .inl TL)), (aG, .inl (cI, 1920, .inl TG)), (aY, .inl (cI, 120, .inl TY)), (aP, .inl (cI, 320, .inl P)), (aD, .inl (cI, 3000, .inl Dv)), (aB, .inl (cI, 81, .inl (fu Bv qn dv))), (aO, .inl (cI, 3000, .inl Ow)), (aV, .inl (cZ, 80, .inl Tw))]) ⟨xe, xb, xml, xo, xt⟩ (c_TripleLinesModel_isBefore l D cI mM tm aT ow aO tn aK aS aC aU aG aY aX qn aP tr rg ll p f ov sz aM tz aA dv aD aB aV aE Dv (fu Bv qn dv) i bs (by first | assumption | omega) (by first | assumption | omega) (by first | assumption | omega) (by first | assumption | omega) (by rw [hLn _ hi3.1 C169]; exact hok _ hi3.1 C169) (by rw [hLn _ C183 hi3.2.2.2]; exact hok _ C183 hi3.2.2.2)) k_TripleLinesModel_isBefore mw_TripleLinesModel_256 ⟨Nat.le_of_ble_eq_true rfl, Nat.le_of_ble_eq_true rfl⟩ xK1 xP xD xS xA rfl xl.1 rfl (Nat.le_of_ble_eq_true rfl) d_TripleLinesModel_print_195 ⟨Nat.zero_le _, Nat.zero_le _⟩ [0, 8, 9] [1, 2, 3, 4, 5, 6, 7, 10, 11] [9, 0, 1, 2, 3, 4, 5, 6, 10, 11, 7, 8] rfl rfl (by decide) (by decide) (by decide) (by decide) (fun _ => rfl) rfl rfl rfl ?_
                                    clear xP xD xS
                                    intro z_13 u H locs hr_14 hw_12 xP xD xS
                                    try dsimp only at hw_12
                                    replace xP : va_P D classes [(mM, .inr (6, [.int (iI tm), .ref aT, .int (iI ow), .ref aO, .int (iI tn), .ref aK, .ref aS, .ref aC, .ref aU, .ref aG, .ref aY, .ref aX, .int (iI qn), .ref aP, .int (iI tr), .int (iI rg), .int (iI ll), .int (iI p), .int (iI f), .int (iI ov), .int (iI sz), .ref aM, .int (iI tz), .ref aA, .int (iI dv), .ref aD, .ref aB, .ref aV, .ref aE])), (aK, .inl (cI, 120, .inl K)), (aS, .inl (cI, 120, .inl Ln)), (aC, .inl (cI, 4800, .inl C)), (aU, .inl (cI, 120, .inl TL)), (aG, .inl (cI, 1920, .inl TG)), (aY, .inl (cI, 120, .inl TY)), (aP, .inl (cI, 320, .inl P)), (aD, .inl (cI, 3000, .inl Dv)), (aB, .inl (cI, 81, .inl (fu Bv qn dv))), (aO, .inl (cI, 3000, .inl Ow)), (aV, .inl (cZ, 80, .inl Tw))] H := xP
                                    replace xD : va_D xA0 [(mM, .inr (6, [.int (iI tm), .ref aT, .int (iI ow), .ref aO, .int (iI tn), .ref aK, .ref aS, .ref aC, .ref aU, .ref aG, .ref aY, .ref aX, .int (iI qn), .ref aP, .int (iI tr), .int (iI rg), .int (iI ll), .int (iI p), .int (iI f), .int (iI ov), .int (iI sz), .ref aM, .int (iI tz), .ref aA, .int (iI dv), .ref aD, .ref aB, .ref aV, .ref aE])), (aK, .inl (cI, 120, .inl K)), (aS, .inl (cI, 120, .inl Ln)), (aC, .inl (cI, 4800, .inl C)), (aU, .inl (cI, 120, .inl TL)), (aG, .inl (cI, 1920, .inl TG)), (aY, .inl (cI, 120, .inl TY)), (aP, .inl (cI, 320, .inl P)), (aD, .inl (cI, 3000, .inl Dv)), (aB, .inl (cI, 81, .inl (fu Bv qn dv))), (aO, .inl (cI, 3000, .inl Ow)), (aV, .inl (cZ, 80, .inl Tw))] := xD
                                    rcases hw_12 with ⟨rfl, HL⟩ | ⟨rfl, HL⟩
                                    · refine tk_if_eq (tgt := 204) xe xb d_TripleLinesModel_print_198 (by decide) (by omega) (fun c_15 => absurd c_15 (by omega)) (fun c_15 => ?_)
                                      refine lv_iload xe xb d_TripleLinesModel_print_201 (lv_at xl 4 rfl) ?_
                                      refine lv_istore_n (lv' := [(3, .int (iI i)), (0, .ref mM), (1, .int (iI fm)), (2, .int (iI ln)), (4, .int (iI i))]) xe xb d_TripleLinesModel_print_203 rfl xl (by decide) rfl ?_
                                      clear xl
                                      intro ls xl
                                      refine tk_iinc (v := (i + 1)) (lv' := [(4, .int (iI (i + 1))), (3, .int (iI i)), (0, .ref mM), (1, .int (iI fm)), (2, .int (iI ln))]) xe xb d_TripleLinesModel_print_204 xl (k := 4) rfl rfl (by decide) rfl ?_
                                      clear xl
                                      intro ls xl
                                      refine lv_goto (tgt := 163) xe xb d_TripleLinesModel_print_207 (by decide) ?_
                                      exact ih_163 (i + 1) i (by omega) (by first | assumption | omega) (Bst_new hb C183 hi3.1 (by omega) C188 ⟨hok _ hi3.1 C169, hok _ C183 hi3.2.2.2, by rw [← hLn _ hi3.1 C169, ← hLn _ C183 hi3.2.2.2]; exact llt_asym HL⟩) _ _ xP xD xS ls (lv_sub xl [2, 3, 4, 1, 0] rfl)
                                    · refine tk_if_eq (tgt := 204) xe xb d_TripleLinesModel_print_198 (by decide) (by omega) (fun c_16 => ?_) (fun c_16 => absurd c_16 (by omega))
                                      refine tk_iinc (v := (i + 1)) (lv' := [(4, .int (iI (i + 1))), (0, .ref mM), (1, .int (iI fm)), (2, .int (iI ln)), (3, .int (iI bs))]) xe xb d_TripleLinesModel_print_204 xl (k := 4) rfl rfl (by decide) rfl ?_
                                      clear xl
                                      intro ls xl
                                      refine lv_goto (tgt := 163) xe xb d_TripleLinesModel_print_207 (by decide) ?_
                                      exact ih_163 (i + 1) bs (by omega) (by first | assumption | omega) (Bst_keep1 hb C183 ⟨hok _ C183 hi3.2.2.2, hok _ hi3.1 C169, by rw [← hLn _ hi3.1 C169, ← hLn _ C183 hi3.2.2.2]; exact Bool.eq_false_iff.mpr HL⟩) _ _ xP xD xS ls (lv_sub xl [1, 2, 3, 4, 0] rfl)
                        exact loop_163 _ 0 (-1) (Nat.lt_succ_self _) (by first | assumption | omega) Bst_0 _ _ xP xD xS ls (lv_sub xl [2, 3, 4, 1, 0] rfl)
                  exact loop_150 _ 0 ([]) Tv 0 fO (Nat.lt_succ_self _) ⟨Int.le_refl 0, hqz.1, rfl⟩ (Sel_0 (fun j h0 h1 => hT j h0 (by omega))) (lst_neg (Int.le_refl 0)) (by first | assumption | omega) _ _ xP xD xS ls (lv_sub xl [1, 2, 0] rfl)
                · refine lv_aload_n xe xb d_TripleLinesModel_print_135 rfl (lv_at xl 0 rfl) ?_
                  refine va_get (D := D) (ci := 6) (v := .ref aV) (C := R_TripleLinesModel) (T := F_TripleLinesModel) (N := 29) xe xb xt i_TripleLinesModel xo xK xP 0 rfl rfl 27 (by decide) (xt _ mw_TripleLinesModel_52) (fun _ h9 => h9) rfl d_TripleLinesModel_print_136 ?_
                  refine lv_iload_n xe xb d_TripleLinesModel_print_139 rfl (lv_at xl 2 rfl) ?_
                  refine lv_iconst (v := iI (0)) xe xb d_TripleLinesModel_print_140 rfl ?_
                  refine tk_zast xe xb xK xP xD xS 11 1 rfl rfl (by omega) (by omega) d_TripleLinesModel_print_141 ?_
                  clear xP xD xS
                  intro H locs xP xD xS
                  replace xP : va_P D classes [(mM, .inr (6, [.int (iI tm), .ref aT, .int (iI 0), .ref aO, .int (iI tn), .ref aK, .ref aS, .ref aC, .ref aU, .ref aG, .ref aY, .ref aX, .int (iI qn), .ref aP, .int (iI tr), .int (iI rg), .int (iI ll), .int (iI p), .int (iI f), .int (iI ov), .int (iI sz), .ref aM, .int (iI tz), .ref aA, .int (iI dv), .ref aD, .ref aB, .ref aV, .ref aE])), (aK, .inl (cI, 120, .inl K)), (aS, .inl (cI, 120, .inl Ln)), (aC, .inl (cI, 4800, .inl C)), (aU, .inl (cI, 120, .inl TL)), (aG, .inl (cI, 1920, .inl TG)), (aY, .inl (cI, 120, .inl TY)), (aP, .inl (cI, 320, .inl P)), (aD, .inl (cI, 3000, .inl Dv)), (aB, .inl (cI, 81, .inl (fu Bv qn dv))), (aO, .inl (cI, 3000, .inl fO)), (aV, .inl (cZ, 80, .inl (fu Tv i2 0)))] H := xP
                  replace xD : va_D xA0 [(mM, .inr (6, [.int (iI tm), .ref aT, .int (iI 0), .ref aO, .int (iI tn), .ref aK, .ref aS, .ref aC, .ref aU, .ref aG, .ref aY, .ref aX, .int (iI qn), .ref aP, .int (iI tr), .int (iI rg), .int (iI ll), .int (iI p), .int (iI f), .int (iI ov), .int (iI sz), .ref aM, .int (iI tz), .ref aA, .int (iI dv), .ref aD, .ref aB, .ref aV, .ref aE])), (aK, .inl (cI, 120, .inl K)), (aS, .inl (cI, 120, .inl Ln)), (aC, .inl (cI, 4800, .inl C)), (aU, .inl (cI, 120, .inl TL)), (aG, .inl (cI, 1920, .inl TG)), (aY, .inl (cI, 120, .inl TY)), (aP, .inl (cI, 320, .inl P)), (aD, .inl (cI, 3000, .inl Dv)), (aB, .inl (cI, 81, .inl (fu Bv qn dv))), (aO, .inl (cI, 3000, .inl fO)), (aV, .inl (cZ, 80, .inl (fu Tv i2 0)))] := xD
                  refine tk_iinc (v := (i2 + 1)) (lv' := [(2, .int (iI (i2 + 1))), (0, .ref mM), (1, .int (iI fm))]) xe xb d_TripleLinesModel_print_142 xl (k := 2) rfl rfl (by decide) rfl ?_
                  clear xl
                  intro ls xl
                  refine lv_goto (tgt := 127) xe xb d_TripleLinesModel_print_145 (by decide) ?_
                  exact ih_127 (i2 + 1) (fu Tv i2 0) (by omega) (by first | assumption | omega) (told_step hi2.1 hT) _ _ xP xD xS ls (lv_sub xl [1, 2, 0] rfl)
            exact loop_127 _ 0 TD (Nat.lt_succ_self _) (by first | assumption | omega) (fun j h0 h1 => by omega) _ _ xP xD xS ls (lv_sub xl [1, 2, 0] rfl)
          · refine lv_bipush (v := iI (-3)) xe xb d_TripleLinesModel_print_117 (by decide) ?_
            exact xret _ _ _ _ (-3) (om, dv, Dv, (fu Bv qn dv), fO, TD) d_TripleLinesModel_print_119 trivial (by omega) (by first | exact (⟨hom, Or.inr (Or.inl ⟨by omega, by rw [← hiq]; omega, rfl, rfl⟩)⟩) | (dsimp only; exact (⟨hom, Or.inr (Or.inl ⟨by omega, by rw [← hiq]; omega, rfl, rfl⟩)⟩))) xP xD xS
        · refine lv_aload_n xe xb d_TripleLinesModel_print_26 rfl (lv_at xl 0 rfl) ?_
          refine va_get (D := D) (ci := 6) (v := .ref aB) (C := R_TripleLinesModel) (T := F_TripleLinesModel) (N := 29) xe xb xt i_TripleLinesModel xo xK xP 0 rfl rfl 26 (by decide) (xt _ mw_TripleLinesModel_49) (fun _ h9 => h9) rfl d_TripleLinesModel_print_27 ?_
          refine lv_iload_n xe xb d_TripleLinesModel_print_30 rfl (lv_at xl 2 rfl) ?_
          refine lv_aload_n xe xb d_TripleLinesModel_print_31 rfl (lv_at xl 0 rfl) ?_
          refine va_get (D := D) (ci := 6) (v := .int (iI dv)) (C := R_TripleLinesModel) (T := F_TripleLinesModel) (N := 29) xe xb xt i_TripleLinesModel xo xK xP 0 rfl rfl 24 (by decide) (xt _ mw_TripleLinesModel_226) (fun _ h9 => h9) rfl d_TripleLinesModel_print_32 ?_
          refine tk_iast xe xb xK xP xD xS 9 0 rfl rfl (by omega) d_TripleLinesModel_print_35 ?_
          clear xP xD xS
          intro H locs xP xD xS
          replace xP : va_P D classes [(mM, .inr (6, [.int (iI tm), .ref aT, .int (iI om), .ref aO, .int (iI tn), .ref aK, .ref aS, .ref aC, .ref aU, .ref aG, .ref aY, .ref aX, .int (iI qn), .ref aP, .int (iI tr), .int (iI rg), .int (iI ll), .int (iI p), .int (iI f), .int (iI ov), .int (iI sz), .ref aM, .int (iI tz), .ref aA, .int (iI dv), .ref aD, .ref aB, .ref aV, .ref aE])), (aK, .inl (cI, 120, .inl K)), (aS, .inl (cI, 120, .inl Ln)), (aC, .inl (cI, 4800, .inl C)), (aU, .inl (cI, 120, .inl TL)), (aG, .inl (cI, 1920, .inl TG)), (aY, .inl (cI, 120, .inl TY)), (aP, .inl (cI, 320, .inl P)), (aD, .inl (cI, 3000, .inl Dv)), (aB, .inl (cI, 81, .inl (fu Bv i dv))), (aO, .inl (cI, 3000, .inl fO)), (aV, .inl (cZ, 80, .inl TD))] H := xP
          replace xD : va_D xA0 [(mM, .inr (6, [.int (iI tm), .ref aT, .int (iI om), .ref aO, .int (iI tn), .ref aK, .ref aS, .ref aC, .ref aU, .ref aG, .ref aY, .ref aX, .int (iI qn), .ref aP, .int (iI tr), .int (iI rg), .int (iI ll), .int (iI p), .int (iI f), .int (iI ov), .int (iI sz), .ref aM, .int (iI tz), .ref aA, .int (iI dv), .ref aD, .ref aB, .ref aV, .ref aE])), (aK, .inl (cI, 120, .inl K)), (aS, .inl (cI, 120, .inl Ln)), (aC, .inl (cI, 4800, .inl C)), (aU, .inl (cI, 120, .inl TL)), (aG, .inl (cI, 1920, .inl TG)), (aY, .inl (cI, 120, .inl TY)), (aP, .inl (cI, 320, .inl P)), (aD, .inl (cI, 3000, .inl Dv)), (aB, .inl (cI, 81, .inl (fu Bv i dv))), (aO, .inl (cI, 3000, .inl fO)), (aV, .inl (cZ, 80, .inl TD))] := xD
          refine lv_iconst (v := iI (0)) xe xb d_TripleLinesModel_print_36 rfl ?_
          refine lv_istore_n (lv' := [(3, .int (iI 0)), (0, .ref mM), (1, .int (iI fm)), (2, .int (iI i))]) xe xb d_TripleLinesModel_print_37 rfl xl (by decide) rfl ?_
          clear xl
          intro ls xl
          have loop_38 : ∀ (n9 : Nat) (k : Int) (dw : Int) (Dw : Nat → Int32), (4 - k).toNat < n9 → (0 ≤ k ∧ k ≤ 4) → (PwM dw Dw 0 DR ((lst (fun j => qln (tmAt K Ln C TL TG TY) tn (qdAt P j)) i).flatten ++ pqs (tmAt K Ln C TL TG TY) tn P i k)) → ∀ (H : Heap) (locs : List Loc), va_P D classes [(mM, .inr (6, [.int (iI tm), .ref aT, .int (iI om), .ref aO, .int (iI tn), .ref aK, .ref aS, .ref aC, .ref aU, .ref aG, .ref aY, .ref aX, .int (iI qn), .ref aP, .int (iI tr), .int (iI rg), .int (iI ll), .int (iI p), .int (iI f), .int (iI ov), .int (iI sz), .ref aM, .int (iI tz), .ref aA, .int (iI dw), .ref aD, .ref aB, .ref aV, .ref aE])), (aK, .inl (cI, 120, .inl K)), (aS, .inl (cI, 120, .inl Ln)), (aC, .inl (cI, 4800, .inl C)), (aU, .inl (cI, 120, .inl TL)), (aG, .inl (cI, 1920, .inl TG)), (aY, .inl (cI, 120, .inl TY)), (aP, .inl (cI, 320, .inl P)), (aD, .inl (cI, 3000, .inl Dw)), (aB, .inl (cI, 81, .inl (fu Bv i dv))), (aO, .inl (cI, 3000, .inl fO)), (aV, .inl (cZ, 80, .inl TD))] H → va_D xA0 [(mM, .inr (6, [.int (iI tm), .ref aT, .int (iI om), .ref aO, .int (iI tn), .ref aK, .ref aS, .ref aC, .ref aU, .ref aG, .ref aY, .ref aX, .int (iI qn), .ref aP, .int (iI tr), .int (iI rg), .int (iI ll), .int (iI p), .int (iI f), .int (iI ov), .int (iI sz), .ref aM, .int (iI tz), .ref aA, .int (iI dw), .ref aD, .ref aB, .ref aV, .ref aE])), (aK, .inl (cI, 120, .inl K)), (aS, .inl (cI, 120, .inl Ln)), (aC, .inl (cI, 4800, .inl C)), (aU, .inl (cI, 120, .inl TL)), (aG, .inl (cI, 1920, .inl TG)), (aY, .inl (cI, 120, .inl TY)), (aP, .inl (cI, 320, .inl P)), (aD, .inl (cI, 3000, .inl Dw)), (aB, .inl (cI, 81, .inl (fu Bv i dv))), (aO, .inl (cI, 3000, .inl fO)), (aV, .inl (cZ, 80, .inl TD))] → va_S xA0 xs.heap H locs → ∀ ls : Array Slot, lv_has ls 5 [(0, .ref mM), (1, .int (iI fm)), (2, .int (iI i)), (3, .int (iI k))] → W xp l xe0 (tk_rm 6) xs xm xar xbelow xmeth xc H locs 0 0 xQ (F0 xm 38 ls []) := by
            intro n9
            induction n9 with
            | zero => intro k dw Dw h9; exact absurd h9 (Nat.not_lt_zero _)
            | succ n9 ih9 =>
              intro k dw Dw hm9 hk hP2 H locs xP xD xS ls xl
              have ih_38 := ih9
              have hm_38 := hm9
              have HC := hP2
              have hgr := HC.1
              rw [List.length_append] at hgr
              have hpl := pqs_lenI (i := i) (P := P) hg hk
              refine lv_iload_n xe xb d_TripleLinesModel_print_38 rfl (lv_at xl 3 rfl) ?_
              refine lv_iconst (v := iI (4)) xe xb d_TripleLinesModel_print_39 rfl ?_
              refine tk_icmp_ge (tgt := 76) xe xb d_TripleLinesModel_print_40 (by decide) (by omega) (fun c_17 => ?_) (fun c_17 => ?_)
              · refine lv_aload_n xe xb d_TripleLinesModel_print_76 rfl (lv_at xl 0 rfl) ?_
                refine lv_bipush (v := iI (46)) xe xb d_TripleLinesModel_print_77 (by decide) ?_
                refine tk_callVv (As := [.int (iI 46)]) (rest := []) (wr := [(aK, .inl (cI, 120, .inl K)), (aS, .inl (cI, 120, .inl Ln)), (aC, .inl (cI, 4800, .inl C)), (aU, .inl (cI, 120, .inl TL)), (aG, .inl (cI, 1920, .inl TG)), (aY, .inl (cI, 120, .inl TY)), (aP, .inl (cI, 320, .inl P)), (aB, .inl (cI, 81, .inl (fu Bv i dv))), (aO, .inl (cI, 3000, .inl fO)), (aV, .inl (cZ, 80, .inl TD))]) (wn := fun u => [(mM, .inr (6, [.int (iI tm), .ref aT, .int (iI om), .ref aO, .int (iI tn), .ref aK, .ref aS, .ref aC, .ref aU, .ref aG, .ref aY, .ref aX, .int (iI qn), .ref aP, .int (iI tr), .int (iI rg), .int (iI ll), .int (iI p), .int (iI f), .int (iI ov), .int (iI sz), .ref aM, .int (iI tz), .ref aA, .int (iI u.1), .ref aD, .ref aB, .ref aV, .ref aE])), (aK, .inl (cI, 120, .inl K)), (aS, .inl (cI, 120, .inl Ln)), (aC, .inl (cI, 4800, .inl C)), (aU, .inl (cI, 120, .inl TL)), (aG, .inl (cI, 1920, .inl TG)), (aY, .inl (cI, 120, .inl TY)), (aP, .inl (cI, 320, .inl P)), (aD, .inl (cI, 3000, .inl u.2)), (aB, .inl (cI, 81, .inl (fu Bv i dv))), (aO, .inl (cI, 3000, .inl fO)), (aV, .inl (cZ, 80, .inl TD))]) ⟨xe, xb, xml, xo, xt⟩ (c_TripleLinesModel_put l D cI mM tm aT om aO tn aK aS aC aU aG aY aX qn aP tr rg ll p f ov sz aM tz aA dw aD aB aV aE Dw 46 (by first | assumption | omega) (by first | assumption | omega)) k_TripleLinesModel_put mw_TripleLinesModel_229 ⟨Nat.le_of_ble_eq_true rfl, Nat.le_of_ble_eq_true rfl⟩ xK1 xP xD xS xA rfl xl.1 rfl (Nat.le_of_ble_eq_true rfl) d_TripleLinesModel_print_79 ⟨Nat.zero_le _, Nat.zero_le _⟩ [0, 8] [1, 2, 3, 4, 5, 6, 7, 9, 10, 11] [10, 0, 1, 2, 3, 4, 5, 6, 11, 7, 8, 9] rfl rfl (by decide) (by decide) (by decide) (by decide) (fun _ => rfl) rfl rfl rfl ?_
                clear xP xD xS
                intro u H locs hw_20 xP xD xS
                obtain ⟨dm2_18, DR2_19⟩ := u
                try dsimp only at hw_20
                replace xP : va_P D classes [(mM, .inr (6, [.int (iI tm), .ref aT, .int (iI om), .ref aO, .int (iI tn), .ref aK, .ref aS, .ref aC, .ref aU, .ref aG, .ref aY, .ref aX, .int (iI qn), .ref aP, .int (iI tr), .int (iI rg), .int (iI ll), .int (iI p), .int (iI f), .int (iI ov), .int (iI sz), .ref aM, .int (iI tz), .ref aA, .int (iI dm2_18), .ref aD, .ref aB, .ref aV, .ref aE])), (aK, .inl (cI, 120, .inl K)), (aS, .inl (cI, 120, .inl Ln)), (aC, .inl (cI, 4800, .inl C)), (aU, .inl (cI, 120, .inl TL)), (aG, .inl (cI, 1920, .inl TG)), (aY, .inl (cI, 120, .inl TY)), (aP, .inl (cI, 320, .inl P)), (aD, .inl (cI, 3000, .inl DR2_19)), (aB, .inl (cI, 81, .inl (fu Bv i dv))), (aO, .inl (cI, 3000, .inl fO)), (aV, .inl (cZ, 80, .inl TD))] H := xP
                replace xD : va_D xA0 [(mM, .inr (6, [.int (iI tm), .ref aT, .int (iI om), .ref aO, .int (iI tn), .ref aK, .ref aS, .ref aC, .ref aU, .ref aG, .ref aY, .ref aX, .int (iI qn), .ref aP, .int (iI tr), .int (iI rg), .int (iI ll), .int (iI p), .int (iI f), .int (iI ov), .int (iI sz), .ref aM, .int (iI tz), .ref aA, .int (iI dm2_18), .ref aD, .ref aB, .ref aV, .ref aE])), (aK, .inl (cI, 120, .inl K)), (aS, .inl (cI, 120, .inl Ln)), (aC, .inl (cI, 4800, .inl C)), (aU, .inl (cI, 120, .inl TL)), (aG, .inl (cI, 1920, .inl TG)), (aY, .inl (cI, 120, .inl TY)), (aP, .inl (cI, 320, .inl P)), (aD, .inl (cI, 3000, .inl DR2_19)), (aB, .inl (cI, 81, .inl (fu Bv i dv))), (aO, .inl (cI, 3000, .inl fO)), (aV, .inl (cZ, 80, .inl TD))] := xD
                replace HC := PwM_trans (Int.le_refl 0) HC hw_20
                have hgr := HC.1
                simp only [List.length_append, List.length_cons, List.length_nil] at hgr
                clear hw_20
                refine lv_aload_n xe xb d_TripleLinesModel_print_82 rfl (lv_at xl 0 rfl) ?_
                refine lv_bipush (v := iI (10)) xe xb d_TripleLinesModel_print_83 (by decide) ?_
                refine tk_callVv (As := [.int (iI 10)]) (rest := []) (wr := [(aK, .inl (cI, 120, .inl K)), (aS, .inl (cI, 120, .inl Ln)), (aC, .inl (cI, 4800, .inl C)), (aU, .inl (cI, 120, .inl TL)), (aG, .inl (cI, 1920, .inl TG)), (aY, .inl (cI, 120, .inl TY)), (aP, .inl (cI, 320, .inl P)), (aB, .inl (cI, 81, .inl (fu Bv i dv))), (aO, .inl (cI, 3000, .inl fO)), (aV, .inl (cZ, 80, .inl TD))]) (wn := fun u => [(mM, .inr (6, [.int (iI tm), .ref aT, .int (iI om), .ref aO, .int (iI tn), .ref aK, .ref aS, .ref aC, .ref aU, .ref aG, .ref aY, .ref aX, .int (iI qn), .ref aP, .int (iI tr), .int (iI rg), .int (iI ll), .int (iI p), .int (iI f), .int (iI ov), .int (iI sz), .ref aM, .int (iI tz), .ref aA, .int (iI u.1), .ref aD, .ref aB, .ref aV, .ref aE])), (aK, .inl (cI, 120, .inl K)), (aS, .inl (cI, 120, .inl Ln)), (aC, .inl (cI, 4800, .inl C)), (aU, .inl (cI, 120, .inl TL)), (aG, .inl (cI, 1920, .inl TG)), (aY, .inl (cI, 120, .inl TY)), (aP, .inl (cI, 320, .inl P)), (aD, .inl (cI, 3000, .inl u.2)), (aB, .inl (cI, 81, .inl (fu Bv i dv))), (aO, .inl (cI, 3000, .inl fO)), (aV, .inl (cZ, 80, .inl TD))]) ⟨xe, xb, xml, xo, xt⟩ (c_TripleLinesModel_put l D cI mM tm aT om aO tn aK aS aC aU aG aY aX qn aP tr rg ll p f ov sz aM tz aA dm2_18 aD aB aV aE DR2_19 10 (by first | assumption | omega) (by first | assumption | omega)) k_TripleLinesModel_put mw_TripleLinesModel_229 ⟨Nat.le_of_ble_eq_true rfl, Nat.le_of_ble_eq_true rfl⟩ xK1 xP xD xS xA rfl xl.1 rfl (Nat.le_of_ble_eq_true rfl) d_TripleLinesModel_print_85 ⟨Nat.zero_le _, Nat.zero_le _⟩ [0, 8] [1, 2, 3, 4, 5, 6, 7, 9, 10, 11] [10, 0, 1, 2, 3, 4, 5, 6, 11, 7, 8, 9] rfl rfl (by decide) (by decide) (by decide) (by decide) (fun _ => rfl) rfl rfl rfl ?_
                clear xP xD xS
                intro u H locs hw_24 xP xD xS
                obtain ⟨dm2_22, DR2_23⟩ := u
                try dsimp only at hw_24
                replace xP : va_P D classes [(mM, .inr (6, [.int (iI tm), .ref aT, .int (iI om), .ref aO, .int (iI tn), .ref aK, .ref aS, .ref aC, .ref aU, .ref aG, .ref aY, .ref aX, .int (iI qn), .ref aP, .int (iI tr), .int (iI rg), .int (iI ll), .int (iI p), .int (iI f), .int (iI ov), .int (iI sz), .ref aM, .int (iI tz), .ref aA, .int (iI dm2_22), .ref aD, .ref aB, .ref aV, .ref aE])), (aK, .inl (cI, 120, .inl K)), (aS, .inl (cI, 120, .inl Ln)), (aC, .inl (cI, 4800, .inl C)), (aU, .inl (cI, 120, .inl TL)), (aG, .inl (cI, 1920, .inl TG)), (aY, .inl (cI, 120, .inl TY)), (aP, .inl (cI, 320, .inl P)), (aD, .inl (cI, 3000, .inl DR2_23)), (aB, .inl (cI, 81, .inl (fu Bv i dv))), (aO, .inl (cI, 3000, .inl fO)), (aV, .inl (cZ, 80, .inl TD))] H := xP
                replace xD : va_D xA0 [(mM, .inr (6, [.int (iI tm), .ref aT, .int (iI om), .ref aO, .int (iI tn), .ref aK, .ref aS, .ref aC, .ref aU, .ref aG, .ref aY, .ref aX, .int (iI qn), .ref aP, .int (iI tr), .int (iI rg), .int (iI ll), .int (iI p), .int (iI f), .int (iI ov), .int (iI sz), .ref aM, .int (iI tz), .ref aA, .int (iI dm2_22), .ref aD, .ref aB, .ref aV, .ref aE])), (aK, .inl (cI, 120, .inl K)), (aS, .inl (cI, 120, .inl Ln)), (aC, .inl (cI, 4800, .inl C)), (aU, .inl (cI, 120, .inl TL)), (aG, .inl (cI, 1920, .inl TG)), (aY, .inl (cI, 120, .inl TY)), (aP, .inl (cI, 320, .inl P)), (aD, .inl (cI, 3000, .inl DR2_23)), (aB, .inl (cI, 81, .inl (fu Bv i dv))), (aO, .inl (cI, 3000, .inl fO)), (aV, .inl (cZ, 80, .inl TD))] := xD
                replace HC := PwM_trans (Int.le_refl 0) HC hw_24
                have hgr := HC.1
                simp only [List.length_append, List.length_cons, List.length_nil] at hgr
                clear hw_24
                refine tk_iinc (v := (i + 1)) (lv' := [(2, .int (iI (i + 1))), (0, .ref mM), (1, .int (iI fm)), (3, .int (iI k))]) xe xb d_TripleLinesModel_print_88 xl (k := 2) rfl rfl (by decide) rfl ?_
                clear xl
                intro ls xl
                refine lv_goto (tgt := 18) xe xb d_TripleLinesModel_print_91 (by decide) ?_
                exact ih_18 (i + 1) dm2_22 DR2_23 (fu Bv i dv) (by omega) (by first | assumption | omega) (PwM_cast HC (by rw [show k = 4 by omega, ← fl_step' hi.1, ← pqs_4]; simp)) (filM_step hi.1 hB (by omega) (by omega)) _ _ xP xD xS ls (lv_sub xl [1, 2, 0] rfl)
              · refine lv_aload_n xe xb d_TripleLinesModel_print_43 rfl (lv_at xl 0 rfl) ?_
                refine va_get (D := D) (ci := 6) (v := .ref aP) (C := R_TripleLinesModel) (T := F_TripleLinesModel) (N := 29) xe xb xt i_TripleLinesModel xo xK xP 0 rfl rfl 13 (by decide) (xt _ mw_TripleLinesModel_37) (fun _ h9 => h9) rfl d_TripleLinesModel_print_44 ?_
                refine lv_iconst (v := iI (4)) xe xb d_TripleLinesModel_print_47 rfl ?_
                refine lv_iload_n xe xb d_TripleLinesModel_print_48 rfl (lv_at xl 2 rfl) ?_
                refine tk_imul xe xb d_TripleLinesModel_print_49 ?_
                refine lv_iload_n xe xb d_TripleLinesModel_print_50 rfl (lv_at xl 3 rfl) ?_
                refine tk_iadd xe xb d_TripleLinesModel_print_51 ?_
                refine tk_iald xe xb xK xP 7 0 rfl rfl (by omega) d_TripleLinesModel_print_52 ?_
                have hr_26 := tI_rg P ((4 * i) + k)
                refine tk_if_lt (tgt := 70) xe xb d_TripleLinesModel_print_53 (by decide) (by omega) (fun C53 => ?_) (fun C53 => ?_)
                · refine tk_iinc (v := (k + 1)) (lv' := [(3, .int (iI (k + 1))), (0, .ref mM), (1, .int (iI fm)), (2, .int (iI i))]) xe xb d_TripleLinesModel_print_70 xl (k := 3) rfl rfl (by decide) rfl ?_
                  clear xl
                  intro ls xl
                  refine lv_goto (tgt := 38) xe xb d_TripleLinesModel_print_73 (by decide) ?_
                  exact ih_38 (k + 1) dw Dw (by omega) (by first | assumption | omega) (PwM_cast HC (by rw [← pqs_step hk.1, tx_neg C53, List.append_nil])) _ _ xP xD xS ls (lv_sub xl [1, 2, 3, 0] rfl)
                · refine lv_aload_n xe xb d_TripleLinesModel_print_56 rfl (lv_at xl 0 rfl) ?_
                  refine lv_aload_n xe xb d_TripleLinesModel_print_57 rfl (lv_at xl 0 rfl) ?_
                  refine va_get (D := D) (ci := 6) (v := .ref aP) (C := R_TripleLinesModel) (T := F_TripleLinesModel) (N := 29) xe xb xt i_TripleLinesModel xo xK xP 0 rfl rfl 13 (by decide) (xt _ mw_TripleLinesModel_37) (fun _ h9 => h9) rfl d_TripleLinesModel_print_58 ?_
                  refine lv_iconst (v := iI (4)) xe xb d_TripleLinesModel_print_61 rfl ?_
                  refine lv_iload_n xe xb d_TripleLinesModel_print_62 rfl (lv_at xl 2 rfl) ?_
                  refine tk_imul xe xb d_TripleLinesModel_print_63 ?_
                  refine lv_iload_n xe xb d_TripleLinesModel_print_64 rfl (lv_at xl 3 rfl) ?_
                  refine tk_iadd xe xb d_TripleLinesModel_print_65 ?_
                  refine tk_iald xe xb xK xP 7 0 rfl rfl (by omega) d_TripleLinesModel_print_66 ?_
                  have hr_27 := tI_rg P ((4 * i) + k)
                  refine tk_callVv (As := [.int (iI (tI P ((4 * i) + k)))]) (rest := []) (wr := [(aP, .inl (cI, 320, .inl P)), (aB, .inl (cI, 81, .inl (fu Bv i dv))), (aO, .inl (cI, 3000, .inl fO)), (aV, .inl (cZ, 80, .inl TD))]) (wn := fun u => [(mM, .inr (6, [.int (iI tm), .ref aT, .int (iI om), .ref aO, .int (iI tn), .ref aK, .ref aS, .ref aC, .ref aU, .ref aG, .ref aY, .ref aX, .int (iI qn), .ref aP, .int (iI tr), .int (iI rg), .int (iI ll), .int (iI p), .int (iI f), .int (iI ov), .int (iI sz), .ref aM, .int (iI tz), .ref aA, .int (iI u.1), .ref aD, .ref aB, .ref aV, .ref aE])), (aK, .inl (cI, 120, .inl K)), (aS, .inl (cI, 120, .inl Ln)), (aC, .inl (cI, 4800, .inl C)), (aU, .inl (cI, 120, .inl TL)), (aG, .inl (cI, 1920, .inl TG)), (aY, .inl (cI, 120, .inl TY)), (aP, .inl (cI, 320, .inl P)), (aD, .inl (cI, 3000, .inl u.2)), (aB, .inl (cI, 81, .inl (fu Bv i dv))), (aO, .inl (cI, 3000, .inl fO)), (aV, .inl (cZ, 80, .inl TD))]) ⟨xe, xb, xml, xo, xt⟩ (c_TripleLinesModel_putTerm l D cI mM tm aT om aO tn aK aS aC aU aG aY aX qn aP tr rg ll p f ov sz aM tz aA dw aD aB aV aE K Ln C TL TG TY Dw (tI P ((4 * i) + k)) (by first | assumption | omega) (by first | assumption | omega) ⟨C53, hq _ (by omega) (by omega)⟩ (hw _ C53 (hq _ (by omega) (by omega)))) k_TripleLinesModel_putTerm mw_TripleLinesModel_253 ⟨Nat.le_of_ble_eq_true rfl, Nat.le_of_ble_eq_true rfl⟩ xK1 xP xD xS xA rfl xl.1 rfl (Nat.le_of_ble_eq_true rfl) d_TripleLinesModel_print_67 ⟨Nat.zero_le _, Nat.zero_le _⟩ [0, 1, 2, 3, 4, 5, 6, 8] [7, 9, 10, 11] [4, 5, 6, 7, 8, 9, 10, 0, 11, 1, 2, 3] rfl rfl (by decide) (by decide) (by decide) (by decide) (fun _ => rfl) rfl rfl rfl ?_
                  clear xP xD xS
                  intro u H locs hw_30 xP xD xS
                  obtain ⟨dm2_28, DR2_29⟩ := u
                  try dsimp only at hw_30
                  replace xP : va_P D classes [(mM, .inr (6, [.int (iI tm), .ref aT, .int (iI om), .ref aO, .int (iI tn), .ref aK, .ref aS, .ref aC, .ref aU, .ref aG, .ref aY, .ref aX, .int (iI qn), .ref aP, .int (iI tr), .int (iI rg), .int (iI ll), .int (iI p), .int (iI f), .int (iI ov), .int (iI sz), .ref aM, .int (iI tz), .ref aA, .int (iI dm2_28), .ref aD, .ref aB, .ref aV, .ref aE])), (aK, .inl (cI, 120, .inl K)), (aS, .inl (cI, 120, .inl Ln)), (aC, .inl (cI, 4800, .inl C)), (aU, .inl (cI, 120, .inl TL)), (aG, .inl (cI, 1920, .inl TG)), (aY, .inl (cI, 120, .inl TY)), (aP, .inl (cI, 320, .inl P)), (aD, .inl (cI, 3000, .inl DR2_29)), (aB, .inl (cI, 81, .inl (fu Bv i dv))), (aO, .inl (cI, 3000, .inl fO)), (aV, .inl (cZ, 80, .inl TD))] H := xP
                  replace xD : va_D xA0 [(mM, .inr (6, [.int (iI tm), .ref aT, .int (iI om), .ref aO, .int (iI tn), .ref aK, .ref aS, .ref aC, .ref aU, .ref aG, .ref aY, .ref aX, .int (iI qn), .ref aP, .int (iI tr), .int (iI rg), .int (iI ll), .int (iI p), .int (iI f), .int (iI ov), .int (iI sz), .ref aM, .int (iI tz), .ref aA, .int (iI dm2_28), .ref aD, .ref aB, .ref aV, .ref aE])), (aK, .inl (cI, 120, .inl K)), (aS, .inl (cI, 120, .inl Ln)), (aC, .inl (cI, 4800, .inl C)), (aU, .inl (cI, 120, .inl TL)), (aG, .inl (cI, 1920, .inl TG)), (aY, .inl (cI, 120, .inl TY)), (aP, .inl (cI, 320, .inl P)), (aD, .inl (cI, 3000, .inl DR2_29)), (aB, .inl (cI, 81, .inl (fu Bv i dv))), (aO, .inl (cI, 3000, .inl fO)), (aV, .inl (cZ, 80, .inl TD))] := xD
                  replace HC := PwM_trans (Int.le_refl 0) HC hw_30
                  clear hw_30
                  refine tk_iinc (v := (k + 1)) (lv' := [(3, .int (iI (k + 1))), (0, .ref mM), (1, .int (iI fm)), (2, .int (iI i))]) xe xb d_TripleLinesModel_print_70 xl (k := 3) rfl rfl (by decide) rfl ?_
                  clear xl
                  intro ls xl
                  refine lv_goto (tgt := 38) xe xb d_TripleLinesModel_print_73 (by decide) ?_
                  exact ih_38 (k + 1) dm2_28 DR2_29 (by omega) (by first | assumption | omega) (PwM_cast HC (by rw [List.append_assoc, pqs_step hk.1])) _ _ xP xD xS ls (lv_sub xl [1, 2, 3, 0] rfl)
          exact loop_38 _ 0 dv Dv (Nat.lt_succ_self _) (by first | assumption | omega) (PwM_cast HC (by rw [pqs_0, List.append_nil])) _ _ xP xD xS ls (lv_sub xl [1, 2, 3, 0] rfl)
    exact loop_18 _ 0 0 DR BG (Nat.lt_succ_self _) (by first | assumption | omega) (by rw [lst_neg (g := (fun j => qln (tmAt K Ln C TL TG TY) tn (qdAt P j))) (Int.le_refl 0)]; exact PwM_nil (Int.le_refl 0)) (fun j h0 h1 => by omega) _ _ xP xD xS ls (lv_sub xl [1, 2, 0] rfl)
  · refine tk_if_ne (tgt := 11) xe xb d_TripleLinesModel_print_6 (by decide) (by omega) (fun c_32 => absurd c_32 (by omega)) (fun c_32 => ?_)
    refine lv_iconst (v := iI (-1)) xe xb d_TripleLinesModel_print_9 rfl ?_
    exact xret _ _ _ _ (-1) (om, dm, DR, BG, fO, TD) d_TripleLinesModel_print_10 trivial (by omega) (by first | exact (⟨hom, Or.inl ⟨by omega, rfl, rfl⟩⟩) | (dsimp only; exact (⟨hom, Or.inl ⟨by omega, rfl, rfl⟩⟩))) xP xD xS
