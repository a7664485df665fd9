theorem d_TripleLinesModel_line_0 : decode b_TripleLinesModel_line 0 = .ok (.aload_n 0, 1) := by decide +kernel
theorem d_TripleLinesModel_line_1 : decode b_TripleLinesModel_line 1 = .ok (.getfield 217, 3) := by decide +kernel
theorem d_TripleLinesModel_line_4 : decode b_TripleLinesModel_line 4 = .ok (.ireturn, 1) := by decide +kernel
theorem d_TripleLinesModel_quad_0 : decode b_TripleLinesModel_quad 0 = .ok (.iload_n 1, 1) := by decide +kernel
theorem d_TripleLinesModel_quad_1 : decode b_TripleLinesModel_quad 1 = .ok (.iconst 0, 1) := by decide +kernel
theorem d_TripleLinesModel_quad_2 : decode b_TripleLinesModel_quad 2 = .ok (.aload_n 0, 1) := by decide +kernel
theorem d_TripleLinesModel_quad_3 : decode b_TripleLinesModel_quad 3 = .ok (.getfield 211, 3) := by decide +kernel
theorem d_TripleLinesModel_quad_6 : decode b_TripleLinesModel_quad 6 = .ok (.iconst 1, 1) := by decide +kernel
theorem d_TripleLinesModel_quad_7 : decode b_TripleLinesModel_quad 7 = .ok (.isub, 1) := by decide +kernel
theorem d_TripleLinesModel_quad_8 : decode b_TripleLinesModel_quad 8 = .ok (.invokestatic 63, 3) := by decide +kernel
theorem d_TripleLinesModel_quad_11 : decode b_TripleLinesModel_quad 11 = .ok (.ifCond .eq 12, 3) := by decide +kernel
theorem d_TripleLinesModel_quad_14 : decode b_TripleLinesModel_quad 14 = .ok (.iload_n 2, 1) := by decide +kernel
theorem d_TripleLinesModel_quad_15 : decode b_TripleLinesModel_quad 15 = .ok (.iconst 0, 1) := by decide +kernel
theorem d_TripleLinesModel_quad_16 : decode b_TripleLinesModel_quad 16 = .ok (.iconst 3, 1) := by decide +kernel
theorem d_TripleLinesModel_quad_17 : decode b_TripleLinesModel_quad 17 = .ok (.invokestatic 63, 3) := by decide +kernel
theorem d_TripleLinesModel_quad_20 : decode b_TripleLinesModel_quad 20 = .ok (.ifCond .ne 5, 3) := by decide +kernel
theorem d_TripleLinesModel_quad_23 : decode b_TripleLinesModel_quad 23 = .ok (.iconst (-1), 1) := by decide +kernel
theorem d_TripleLinesModel_quad_24 : decode b_TripleLinesModel_quad 24 = .ok (.ireturn, 1) := by decide +kernel
theorem d_TripleLinesModel_quad_25 : decode b_TripleLinesModel_quad 25 = .ok (.aload_n 0, 1) := by decide +kernel
theorem d_TripleLinesModel_quad_26 : decode b_TripleLinesModel_quad 26 = .ok (.getfield 37, 3) := by decide +kernel
theorem d_TripleLinesModel_quad_29 : decode b_TripleLinesModel_quad 29 = .ok (.iconst 4, 1) := by decide +kernel
theorem d_TripleLinesModel_quad_30 : decode b_TripleLinesModel_quad 30 = .ok (.iload_n 1, 1) := by decide +kernel
theorem d_TripleLinesModel_quad_31 : decode b_TripleLinesModel_quad 31 = .ok (.imul, 1) := by decide +kernel
theorem d_TripleLinesModel_quad_32 : decode b_TripleLinesModel_quad 32 = .ok (.iload_n 2, 1) := by decide +kernel
theorem d_TripleLinesModel_quad_33 : decode b_TripleLinesModel_quad 33 = .ok (.iadd, 1) := by decide +kernel
theorem d_TripleLinesModel_quad_34 : decode b_TripleLinesModel_quad 34 = .ok (.iaload, 1) := by decide +kernel
theorem d_TripleLinesModel_quad_35 : decode b_TripleLinesModel_quad 35 = .ok (.ifCond .ge 8, 3) := by decide +kernel
theorem d_TripleLinesModel_quad_38 : decode b_TripleLinesModel_quad 38 = .ok (.bipush (-2), 2) := by decide +kernel
theorem d_TripleLinesModel_quad_40 : decode b_TripleLinesModel_quad 40 = .ok (.goto 13, 3) := by decide +kernel
theorem d_TripleLinesModel_quad_43 : decode b_TripleLinesModel_quad 43 = .ok (.aload_n 0, 1) := by decide +kernel
theorem d_TripleLinesModel_quad_44 : decode b_TripleLinesModel_quad 44 = .ok (.getfield 37, 3) := by decide +kernel
theorem d_TripleLinesModel_quad_47 : decode b_TripleLinesModel_quad 47 = .ok (.iconst 4, 1) := by decide +kernel
theorem d_TripleLinesModel_quad_48 : decode b_TripleLinesModel_quad 48 = .ok (.iload_n 1, 1) := by decide +kernel
theorem d_TripleLinesModel_quad_49 : decode b_TripleLinesModel_quad 49 = .ok (.imul, 1) := by decide +kernel
theorem d_TripleLinesModel_quad_50 : decode b_TripleLinesModel_quad 50 = .ok (.iload_n 2, 1) := by decide +kernel
theorem d_TripleLinesModel_quad_51 : decode b_TripleLinesModel_quad 51 = .ok (.iadd, 1) := by decide +kernel
theorem d_TripleLinesModel_quad_52 : decode b_TripleLinesModel_quad 52 = .ok (.iaload, 1) := by decide +kernel
theorem d_TripleLinesModel_quad_53 : decode b_TripleLinesModel_quad 53 = .ok (.ireturn, 1) := by decide +kernel
theorem d_TripleLinesModel_isTerm_0 : decode b_TripleLinesModel_isTerm 0 = .ok (.iload_n 1, 1) := by decide +kernel
theorem d_TripleLinesModel_isTerm_1 : decode b_TripleLinesModel_isTerm 1 = .ok (.iconst 0, 1) := by decide +kernel
theorem d_TripleLinesModel_isTerm_2 : decode b_TripleLinesModel_isTerm 2 = .ok (.aload_n 0, 1) := by decide +kernel
theorem d_TripleLinesModel_isTerm_3 : decode b_TripleLinesModel_isTerm 3 = .ok (.getfield 132, 3) := by decide +kernel
theorem d_TripleLinesModel_isTerm_6 : decode b_TripleLinesModel_isTerm 6 = .ok (.iconst 1, 1) := by decide +kernel
theorem d_TripleLinesModel_isTerm_7 : decode b_TripleLinesModel_isTerm 7 = .ok (.isub, 1) := by decide +kernel
theorem d_TripleLinesModel_isTerm_8 : decode b_TripleLinesModel_isTerm 8 = .ok (.invokestatic 63, 3) := by decide +kernel
theorem d_TripleLinesModel_isTerm_11 : decode b_TripleLinesModel_isTerm 11 = .ok (.ireturn, 1) := by decide +kernel
theorem d_TripleLinesModel_term_0 : decode b_TripleLinesModel_term 0 = .ok (.aload_n 0, 1) := by decide +kernel
theorem d_TripleLinesModel_term_1 : decode b_TripleLinesModel_term 1 = .ok (.iload_n 1, 1) := by decide +kernel
theorem d_TripleLinesModel_term_2 : decode b_TripleLinesModel_term 2 = .ok (.invokevirtual 223, 3) := by decide +kernel
theorem d_TripleLinesModel_term_5 : decode b_TripleLinesModel_term 5 = .ok (.ifCond .ne 5, 3) := by decide +kernel
theorem d_TripleLinesModel_term_8 : decode b_TripleLinesModel_term 8 = .ok (.iconst (-1), 1) := by decide +kernel
theorem d_TripleLinesModel_term_9 : decode b_TripleLinesModel_term 9 = .ok (.ireturn, 1) := by decide +kernel
theorem d_TripleLinesModel_term_10 : decode b_TripleLinesModel_term 10 = .ok (.iload_n 2, 1) := by decide +kernel
theorem d_TripleLinesModel_term_11 : decode b_TripleLinesModel_term 11 = .ok (.tableswitch 103 0 4 #[33, 40, 68, 75, 82], 33) := by decide +kernel
theorem d_TripleLinesModel_term_44 : decode b_TripleLinesModel_term 44 = .ok (.aload_n 0, 1) := by decide +kernel
theorem d_TripleLinesModel_term_45 : decode b_TripleLinesModel_term 45 = .ok (.getfield 16, 3) := by decide +kernel
theorem d_TripleLinesModel_term_48 : decode b_TripleLinesModel_term 48 = .ok (.iload_n 1, 1) := by decide +kernel
theorem d_TripleLinesModel_term_49 : decode b_TripleLinesModel_term 49 = .ok (.iaload, 1) := by decide +kernel
theorem d_TripleLinesModel_term_50 : decode b_TripleLinesModel_term 50 = .ok (.ireturn, 1) := by decide +kernel
theorem d_TripleLinesModel_term_51 : decode b_TripleLinesModel_term 51 = .ok (.aload_n 0, 1) := by decide +kernel
theorem d_TripleLinesModel_term_52 : decode b_TripleLinesModel_term 52 = .ok (.getfield 25, 3) := by decide +kernel
theorem d_TripleLinesModel_term_55 : decode b_TripleLinesModel_term 55 = .ok (.iload_n 1, 1) := by decide +kernel
theorem d_TripleLinesModel_term_56 : decode b_TripleLinesModel_term 56 = .ok (.iaload, 1) := by decide +kernel
theorem d_TripleLinesModel_term_57 : decode b_TripleLinesModel_term 57 = .ok (.ifCond .le 7, 3) := by decide +kernel
theorem d_TripleLinesModel_term_60 : decode b_TripleLinesModel_term 60 = .ok (.iconst 1, 1) := by decide +kernel
theorem d_TripleLinesModel_term_61 : decode b_TripleLinesModel_term 61 = .ok (.goto 17, 3) := by decide +kernel
theorem d_TripleLinesModel_term_64 : decode b_TripleLinesModel_term 64 = .ok (.aload_n 0, 1) := by decide +kernel
theorem d_TripleLinesModel_term_65 : decode b_TripleLinesModel_term 65 = .ok (.getfield 31, 3) := by decide +kernel
theorem d_TripleLinesModel_term_68 : decode b_TripleLinesModel_term 68 = .ok (.iload_n 1, 1) := by decide +kernel
theorem d_TripleLinesModel_term_69 : decode b_TripleLinesModel_term 69 = .ok (.iaload, 1) := by decide +kernel
theorem d_TripleLinesModel_term_70 : decode b_TripleLinesModel_term 70 = .ok (.ifCond .lt 7, 3) := by decide +kernel
theorem d_TripleLinesModel_term_73 : decode b_TripleLinesModel_term 73 = .ok (.iconst 2, 1) := by decide +kernel
theorem d_TripleLinesModel_term_74 : decode b_TripleLinesModel_term 74 = .ok (.goto 4, 3) := by decide +kernel
theorem d_TripleLinesModel_term_77 : decode b_TripleLinesModel_term 77 = .ok (.iconst 0, 1) := by decide +kernel
theorem d_TripleLinesModel_term_78 : decode b_TripleLinesModel_term 78 = .ok (.ireturn, 1) := by decide +kernel
theorem d_TripleLinesModel_term_79 : decode b_TripleLinesModel_term 79 = .ok (.aload_n 0, 1) := by decide +kernel
theorem d_TripleLinesModel_term_80 : decode b_TripleLinesModel_term 80 = .ok (.getfield 19, 3) := by decide +kernel
theorem d_TripleLinesModel_term_83 : decode b_TripleLinesModel_term 83 = .ok (.iload_n 1, 1) := by decide +kernel
theorem d_TripleLinesModel_term_84 : decode b_TripleLinesModel_term 84 = .ok (.iaload, 1) := by decide +kernel
theorem d_TripleLinesModel_term_85 : decode b_TripleLinesModel_term 85 = .ok (.ireturn, 1) := by decide +kernel
theorem d_TripleLinesModel_term_86 : decode b_TripleLinesModel_term 86 = .ok (.aload_n 0, 1) := by decide +kernel
theorem d_TripleLinesModel_term_87 : decode b_TripleLinesModel_term 87 = .ok (.getfield 25, 3) := by decide +kernel
theorem d_TripleLinesModel_term_90 : decode b_TripleLinesModel_term 90 = .ok (.iload_n 1, 1) := by decide +kernel
theorem d_TripleLinesModel_term_91 : decode b_TripleLinesModel_term 91 = .ok (.iaload, 1) := by decide +kernel
theorem d_TripleLinesModel_term_92 : decode b_TripleLinesModel_term 92 = .ok (.ireturn, 1) := by decide +kernel
theorem d_TripleLinesModel_term_93 : decode b_TripleLinesModel_term 93 = .ok (.aload_n 0, 1) := by decide +kernel
theorem d_TripleLinesModel_term_94 : decode b_TripleLinesModel_term 94 = .ok (.getfield 31, 3) := by decide +kernel
theorem d_TripleLinesModel_term_97 : decode b_TripleLinesModel_term 97 = .ok (.iload_n 1, 1) := by decide +kernel
theorem d_TripleLinesModel_term_98 : decode b_TripleLinesModel_term 98 = .ok (.iaload, 1) := by decide +kernel
theorem d_TripleLinesModel_term_99 : decode b_TripleLinesModel_term 99 = .ok (.ifCond .ge 8, 3) := by decide +kernel
theorem d_TripleLinesModel_term_102 : decode b_TripleLinesModel_term 102 = .ok (.bipush (-2), 2) := by decide +kernel
theorem d_TripleLinesModel_term_104 : decode b_TripleLinesModel_term 104 = .ok (.goto 9, 3) := by decide +kernel
theorem d_TripleLinesModel_term_107 : decode b_TripleLinesModel_term 107 = .ok (.aload_n 0, 1) := by decide +kernel
theorem d_TripleLinesModel_term_108 : decode b_TripleLinesModel_term 108 = .ok (.getfield 31, 3) := by decide +kernel
theorem d_TripleLinesModel_term_111 : decode b_TripleLinesModel_term 111 = .ok (.iload_n 1, 1) := by decide +kernel
theorem d_TripleLinesModel_term_112 : decode b_TripleLinesModel_term 112 = .ok (.iaload, 1) := by decide +kernel
theorem d_TripleLinesModel_term_113 : decode b_TripleLinesModel_term 113 = .ok (.ireturn, 1) := by decide +kernel
theorem d_TripleLinesModel_term_114 : decode b_TripleLinesModel_term 114 = .ok (.iconst (-1), 1) := by decide +kernel
theorem d_TripleLinesModel_term_115 : decode b_TripleLinesModel_term 115 = .ok (.ireturn, 1) := by decide +kernel
theorem d_TripleLinesModel_code_0 : decode b_TripleLinesModel_code 0 = .ok (.aload_n 0, 1) := by decide +kernel
theorem d_TripleLinesModel_code_1 : decode b_TripleLinesModel_code 1 = .ok (.iload_n 1, 1) := by decide +kernel
theorem d_TripleLinesModel_code_2 : decode b_TripleLinesModel_code 2 = .ok (.invokevirtual 223, 3) := by decide +kernel
theorem d_TripleLinesModel_code_5 : decode b_TripleLinesModel_code 5 = .ok (.ifCond .eq 33, 3) := by decide +kernel
theorem d_TripleLinesModel_code_8 : decode b_TripleLinesModel_code 8 = .ok (.iload_n 2, 1) := by decide +kernel
theorem d_TripleLinesModel_code_9 : decode b_TripleLinesModel_code 9 = .ok (.iconst 0, 1) := by decide +kernel
theorem d_TripleLinesModel_code_10 : decode b_TripleLinesModel_code 10 = .ok (.aload_n 0, 1) := by decide +kernel
theorem d_TripleLinesModel_code_11 : decode b_TripleLinesModel_code 11 = .ok (.getfield 19, 3) := by decide +kernel
theorem d_TripleLinesModel_code_14 : decode b_TripleLinesModel_code 14 = .ok (.iload_n 1, 1) := by decide +kernel
theorem d_TripleLinesModel_code_15 : decode b_TripleLinesModel_code 15 = .ok (.iaload, 1) := by decide +kernel
theorem d_TripleLinesModel_code_16 : decode b_TripleLinesModel_code 16 = .ok (.iconst 1, 1) := by decide +kernel
theorem d_TripleLinesModel_code_17 : decode b_TripleLinesModel_code 17 = .ok (.isub, 1) := by decide +kernel
theorem d_TripleLinesModel_code_18 : decode b_TripleLinesModel_code 18 = .ok (.invokestatic 63, 3) := by decide +kernel
theorem d_TripleLinesModel_code_21 : decode b_TripleLinesModel_code 21 = .ok (.ifCond .eq 17, 3) := by decide +kernel
theorem d_TripleLinesModel_code_24 : decode b_TripleLinesModel_code 24 = .ok (.aload_n 0, 1) := by decide +kernel
theorem d_TripleLinesModel_code_25 : decode b_TripleLinesModel_code 25 = .ok (.getfield 22, 3) := by decide +kernel
theorem d_TripleLinesModel_code_28 : decode b_TripleLinesModel_code 28 = .ok (.bipush 40, 2) := by decide +kernel
theorem d_TripleLinesModel_code_30 : decode b_TripleLinesModel_code 30 = .ok (.iload_n 1, 1) := by decide +kernel
theorem d_TripleLinesModel_code_31 : decode b_TripleLinesModel_code 31 = .ok (.imul, 1) := by decide +kernel
theorem d_TripleLinesModel_code_32 : decode b_TripleLinesModel_code 32 = .ok (.iload_n 2, 1) := by decide +kernel
theorem d_TripleLinesModel_code_33 : decode b_TripleLinesModel_code 33 = .ok (.iadd, 1) := by decide +kernel
theorem d_TripleLinesModel_code_34 : decode b_TripleLinesModel_code 34 = .ok (.iaload, 1) := by decide +kernel
theorem d_TripleLinesModel_code_35 : decode b_TripleLinesModel_code 35 = .ok (.goto 4, 3) := by decide +kernel
theorem d_TripleLinesModel_code_38 : decode b_TripleLinesModel_code 38 = .ok (.iconst (-1), 1) := by decide +kernel
theorem d_TripleLinesModel_code_39 : decode b_TripleLinesModel_code 39 = .ok (.ireturn, 1) := by decide +kernel
theorem d_TripleLinesModel_find_0 : decode b_TripleLinesModel_find 0 = .ok (.iconst 0, 1) := by decide +kernel
theorem d_TripleLinesModel_find_1 : decode b_TripleLinesModel_find 1 = .ok (.istore 5, 2) := by decide +kernel
theorem d_TripleLinesModel_find_3 : decode b_TripleLinesModel_find 3 = .ok (.iload 5, 2) := by decide +kernel
theorem d_TripleLinesModel_find_5 : decode b_TripleLinesModel_find 5 = .ok (.aload_n 0, 1) := by decide +kernel
theorem d_TripleLinesModel_find_6 : decode b_TripleLinesModel_find 6 = .ok (.getfield 211, 3) := by decide +kernel
theorem d_TripleLinesModel_find_9 : decode b_TripleLinesModel_find 9 = .ok (.if_icmp .ge 71, 3) := by decide +kernel
theorem d_TripleLinesModel_find_12 : decode b_TripleLinesModel_find 12 = .ok (.aload_n 0, 1) := by decide +kernel
theorem d_TripleLinesModel_find_13 : decode b_TripleLinesModel_find 13 = .ok (.getfield 37, 3) := by decide +kernel
theorem d_TripleLinesModel_find_16 : decode b_TripleLinesModel_find 16 = .ok (.iconst 4, 1) := by decide +kernel
theorem d_TripleLinesModel_find_17 : decode b_TripleLinesModel_find 17 = .ok (.iload 5, 2) := by decide +kernel
theorem d_TripleLinesModel_find_19 : decode b_TripleLinesModel_find 19 = .ok (.imul, 1) := by decide +kernel
theorem d_TripleLinesModel_find_20 : decode b_TripleLinesModel_find 20 = .ok (.iaload, 1) := by decide +kernel
theorem d_TripleLinesModel_find_21 : decode b_TripleLinesModel_find 21 = .ok (.iload_n 1, 1) := by decide +kernel
theorem d_TripleLinesModel_find_22 : decode b_TripleLinesModel_find 22 = .ok (.if_icmp .ne 52, 3) := by decide +kernel
theorem d_TripleLinesModel_find_25 : decode b_TripleLinesModel_find 25 = .ok (.aload_n 0, 1) := by decide +kernel
theorem d_TripleLinesModel_find_26 : decode b_TripleLinesModel_find 26 = .ok (.getfield 37, 3) := by decide +kernel
theorem d_TripleLinesModel_find_29 : decode b_TripleLinesModel_find 29 = .ok (.iconst 4, 1) := by decide +kernel
theorem d_TripleLinesModel_find_30 : decode b_TripleLinesModel_find 30 = .ok (.iload 5, 2) := by decide +kernel
theorem d_TripleLinesModel_find_32 : decode b_TripleLinesModel_find 32 = .ok (.imul, 1) := by decide +kernel
theorem d_TripleLinesModel_find_33 : decode b_TripleLinesModel_find 33 = .ok (.iconst 1, 1) := by decide +kernel
theorem d_TripleLinesModel_find_34 : decode b_TripleLinesModel_find 34 = .ok (.iadd, 1) := by decide +kernel
theorem d_TripleLinesModel_find_35 : decode b_TripleLinesModel_find 35 = .ok (.iaload, 1) := by decide +kernel
theorem d_TripleLinesModel_find_36 : decode b_TripleLinesModel_find 36 = .ok (.iload_n 2, 1) := by decide +kernel
theorem d_TripleLinesModel_find_37 : decode b_TripleLinesModel_find 37 = .ok (.if_icmp .ne 37, 3) := by decide +kernel
theorem d_TripleLinesModel_find_40 : decode b_TripleLinesModel_find 40 = .ok (.aload_n 0, 1) := by decide +kernel
theorem d_TripleLinesModel_find_41 : decode b_TripleLinesModel_find 41 = .ok (.getfield 37, 3) := by decide +kernel
theorem d_TripleLinesModel_find_44 : decode b_TripleLinesModel_find 44 = .ok (.iconst 4, 1) := by decide +kernel
theorem d_TripleLinesModel_find_45 : decode b_TripleLinesModel_find 45 = .ok (.iload 5, 2) := by decide +kernel
theorem d_TripleLinesModel_find_47 : decode b_TripleLinesModel_find 47 = .ok (.imul, 1) := by decide +kernel
theorem d_TripleLinesModel_find_48 : decode b_TripleLinesModel_find 48 = .ok (.iconst 2, 1) := by decide +kernel
theorem d_TripleLinesModel_find_49 : decode b_TripleLinesModel_find 49 = .ok (.iadd, 1) := by decide +kernel
theorem d_TripleLinesModel_find_50 : decode b_TripleLinesModel_find 50 = .ok (.iaload, 1) := by decide +kernel
theorem d_TripleLinesModel_find_51 : decode b_TripleLinesModel_find 51 = .ok (.iload_n 3, 1) := by decide +kernel
theorem d_TripleLinesModel_find_52 : decode b_TripleLinesModel_find 52 = .ok (.if_icmp .ne 22, 3) := by decide +kernel
theorem d_TripleLinesModel_find_55 : decode b_TripleLinesModel_find 55 = .ok (.aload_n 0, 1) := by decide +kernel
theorem d_TripleLinesModel_find_56 : decode b_TripleLinesModel_find 56 = .ok (.getfield 37, 3) := by decide +kernel
theorem d_TripleLinesModel_find_59 : decode b_TripleLinesModel_find 59 = .ok (.iconst 4, 1) := by decide +kernel
theorem d_TripleLinesModel_find_60 : decode b_TripleLinesModel_find 60 = .ok (.iload 5, 2) := by decide +kernel
theorem d_TripleLinesModel_find_62 : decode b_TripleLinesModel_find 62 = .ok (.imul, 1) := by decide +kernel
theorem d_TripleLinesModel_find_63 : decode b_TripleLinesModel_find 63 = .ok (.iconst 3, 1) := by decide +kernel
theorem d_TripleLinesModel_find_64 : decode b_TripleLinesModel_find 64 = .ok (.iadd, 1) := by decide +kernel
theorem d_TripleLinesModel_find_65 : decode b_TripleLinesModel_find 65 = .ok (.iaload, 1) := by decide +kernel
theorem d_TripleLinesModel_find_66 : decode b_TripleLinesModel_find 66 = .ok (.iload 4, 2) := by decide +kernel
theorem d_TripleLinesModel_find_68 : decode b_TripleLinesModel_find 68 = .ok (.if_icmp .ne 6, 3) := by decide +kernel
theorem d_TripleLinesModel_find_71 : decode b_TripleLinesModel_find 71 = .ok (.iload 5, 2) := by decide +kernel
theorem d_TripleLinesModel_find_73 : decode b_TripleLinesModel_find 73 = .ok (.ireturn, 1) := by decide +kernel
theorem d_TripleLinesModel_find_74 : decode b_TripleLinesModel_find 74 = .ok (.iinc 5 1, 3) := by decide +kernel
theorem d_TripleLinesModel_find_77 : decode b_TripleLinesModel_find 77 = .ok (.goto (-74), 3) := by decide +kernel
theorem d_TripleLinesModel_find_80 : decode b_TripleLinesModel_find 80 = .ok (.bipush (-2), 2) := by decide +kernel
theorem d_TripleLinesModel_find_82 : decode b_TripleLinesModel_find 82 = .ok (.ireturn, 1) := by decide +kernel
theorem d_TripleLinesModel_drop_0 : decode b_TripleLinesModel_drop 0 = .ok (.iload_n 1, 1) := by decide +kernel
theorem d_TripleLinesModel_drop_1 : decode b_TripleLinesModel_drop 1 = .ok (.iconst 0, 1) := by decide +kernel
theorem d_TripleLinesModel_drop_2 : decode b_TripleLinesModel_drop 2 = .ok (.aload_n 0, 1) := by decide +kernel
theorem d_TripleLinesModel_drop_3 : decode b_TripleLinesModel_drop 3 = .ok (.getfield 211, 3) := by decide +kernel
theorem d_TripleLinesModel_drop_6 : decode b_TripleLinesModel_drop 6 = .ok (.iconst 1, 1) := by decide +kernel
theorem d_TripleLinesModel_drop_7 : decode b_TripleLinesModel_drop 7 = .ok (.isub, 1) := by decide +kernel
theorem d_TripleLinesModel_drop_8 : decode b_TripleLinesModel_drop 8 = .ok (.invokestatic 63, 3) := by decide +kernel
theorem d_TripleLinesModel_drop_11 : decode b_TripleLinesModel_drop 11 = .ok (.ifCond .ne 5, 3) := by decide +kernel
theorem d_TripleLinesModel_drop_14 : decode b_TripleLinesModel_drop 14 = .ok (.iconst (-1), 1) := by decide +kernel
theorem d_TripleLinesModel_drop_15 : decode b_TripleLinesModel_drop 15 = .ok (.ireturn, 1) := by decide +kernel
theorem d_TripleLinesModel_drop_16 : decode b_TripleLinesModel_drop 16 = .ok (.aload_n 0, 1) := by decide +kernel
theorem d_TripleLinesModel_drop_17 : decode b_TripleLinesModel_drop 17 = .ok (.dup, 1) := by decide +kernel
theorem d_TripleLinesModel_drop_18 : decode b_TripleLinesModel_drop 18 = .ok (.getfield 211, 3) := by decide +kernel
theorem d_TripleLinesModel_drop_21 : decode b_TripleLinesModel_drop 21 = .ok (.iconst 1, 1) := by decide +kernel
theorem d_TripleLinesModel_drop_22 : decode b_TripleLinesModel_drop 22 = .ok (.isub, 1) := by decide +kernel
theorem d_TripleLinesModel_drop_23 : decode b_TripleLinesModel_drop 23 = .ok (.putfield 211, 3) := by decide +kernel
theorem d_TripleLinesModel_drop_26 : decode b_TripleLinesModel_drop 26 = .ok (.iconst 4, 1) := by decide +kernel
theorem d_TripleLinesModel_drop_27 : decode b_TripleLinesModel_drop 27 = .ok (.iload_n 1, 1) := by decide +kernel
theorem d_TripleLinesModel_drop_28 : decode b_TripleLinesModel_drop 28 = .ok (.imul, 1) := by decide +kernel
theorem d_TripleLinesModel_drop_29 : decode b_TripleLinesModel_drop 29 = .ok (.istore_n 2, 1) := by decide +kernel
theorem d_TripleLinesModel_drop_30 : decode b_TripleLinesModel_drop 30 = .ok (.iload_n 2, 1) := by decide +kernel
theorem d_TripleLinesModel_drop_31 : decode b_TripleLinesModel_drop 31 = .ok (.iconst 4, 1) := by decide +kernel
theorem d_TripleLinesModel_drop_32 : decode b_TripleLinesModel_drop 32 = .ok (.aload_n 0, 1) := by decide +kernel
theorem d_TripleLinesModel_drop_33 : decode b_TripleLinesModel_drop 33 = .ok (.getfield 211, 3) := by decide +kernel
theorem d_TripleLinesModel_drop_36 : decode b_TripleLinesModel_drop 36 = .ok (.imul, 1) := by decide +kernel
theorem d_TripleLinesModel_drop_37 : decode b_TripleLinesModel_drop 37 = .ok (.if_icmp .ge 23, 3) := by decide +kernel
theorem d_TripleLinesModel_drop_40 : decode b_TripleLinesModel_drop 40 = .ok (.aload_n 0, 1) := by decide +kernel
theorem d_TripleLinesModel_drop_41 : decode b_TripleLinesModel_drop 41 = .ok (.getfield 37, 3) := by decide +kernel
theorem d_TripleLinesModel_drop_44 : decode b_TripleLinesModel_drop 44 = .ok (.iload_n 2, 1) := by decide +kernel
theorem d_TripleLinesModel_drop_45 : decode b_TripleLinesModel_drop 45 = .ok (.aload_n 0, 1) := by decide +kernel
theorem d_TripleLinesModel_drop_46 : decode b_TripleLinesModel_drop 46 = .ok (.getfield 37, 3) := by decide +kernel
theorem d_TripleLinesModel_drop_49 : decode b_TripleLinesModel_drop 49 = .ok (.iload_n 2, 1) := by decide +kernel
theorem d_TripleLinesModel_drop_50 : decode b_TripleLinesModel_drop 50 = .ok (.iconst 4, 1) := by decide +kernel
theorem d_TripleLinesModel_drop_51 : decode b_TripleLinesModel_drop 51 = .ok (.iadd, 1) := by decide +kernel
theorem d_TripleLinesModel_drop_52 : decode b_TripleLinesModel_drop 52 = .ok (.iaload, 1) := by decide +kernel
theorem d_TripleLinesModel_drop_53 : decode b_TripleLinesModel_drop 53 = .ok (.iastore, 1) := by decide +kernel
theorem d_TripleLinesModel_drop_54 : decode b_TripleLinesModel_drop 54 = .ok (.iinc 2 1, 3) := by decide +kernel
theorem d_TripleLinesModel_drop_57 : decode b_TripleLinesModel_drop 57 = .ok (.goto (-27), 3) := by decide +kernel
theorem d_TripleLinesModel_drop_60 : decode b_TripleLinesModel_drop 60 = .ok (.aload_n 0, 1) := by decide +kernel
theorem d_TripleLinesModel_drop_61 : decode b_TripleLinesModel_drop 61 = .ok (.getfield 211, 3) := by decide +kernel
theorem d_TripleLinesModel_drop_64 : decode b_TripleLinesModel_drop 64 = .ok (.ireturn, 1) := by decide +kernel
theorem d_TripleLinesModel_at_0 : decode b_TripleLinesModel_at 0 = .ok (.iload_n 1, 1) := by decide +kernel
theorem d_TripleLinesModel_at_1 : decode b_TripleLinesModel_at 1 = .ok (.iconst 0, 1) := by decide +kernel
theorem d_TripleLinesModel_at_2 : decode b_TripleLinesModel_at 2 = .ok (.aload_n 0, 1) := by decide +kernel
theorem d_TripleLinesModel_at_3 : decode b_TripleLinesModel_at 3 = .ok (.getfield 76, 3) := by decide +kernel
theorem d_TripleLinesModel_at_6 : decode b_TripleLinesModel_at 6 = .ok (.iconst 1, 1) := by decide +kernel
theorem d_TripleLinesModel_at_7 : decode b_TripleLinesModel_at 7 = .ok (.isub, 1) := by decide +kernel
theorem d_TripleLinesModel_at_8 : decode b_TripleLinesModel_at 8 = .ok (.invokestatic 63, 3) := by decide +kernel
theorem d_TripleLinesModel_at_11 : decode b_TripleLinesModel_at 11 = .ok (.ifCond .eq 12, 3) := by decide +kernel
theorem d_TripleLinesModel_at_14 : decode b_TripleLinesModel_at 14 = .ok (.aload_n 0, 1) := by decide +kernel
theorem d_TripleLinesModel_at_15 : decode b_TripleLinesModel_at 15 = .ok (.getfield 13, 3) := by decide +kernel
theorem d_TripleLinesModel_at_18 : decode b_TripleLinesModel_at 18 = .ok (.iload_n 1, 1) := by decide +kernel
theorem d_TripleLinesModel_at_19 : decode b_TripleLinesModel_at 19 = .ok (.iaload, 1) := by decide +kernel
theorem d_TripleLinesModel_at_20 : decode b_TripleLinesModel_at 20 = .ok (.goto 4, 3) := by decide +kernel
theorem d_TripleLinesModel_at_23 : decode b_TripleLinesModel_at 23 = .ok (.iconst (-1), 1) := by decide +kernel
theorem d_TripleLinesModel_at_24 : decode b_TripleLinesModel_at 24 = .ok (.ireturn, 1) := by decide +kernel
theorem d_TripleLinesModel_count_0 : decode b_TripleLinesModel_count 0 = .ok (.iload_n 1, 1) := by decide +kernel
theorem d_TripleLinesModel_count_1 : decode b_TripleLinesModel_count 1 = .ok (.tableswitch 60 0 4 #[35, 40, 45, 50, 55], 35) := by decide +kernel
theorem d_TripleLinesModel_count_36 : decode b_TripleLinesModel_count 36 = .ok (.aload_n 0, 1) := by decide +kernel
theorem d_TripleLinesModel_count_37 : decode b_TripleLinesModel_count 37 = .ok (.getfield 211, 3) := by decide +kernel
theorem d_TripleLinesModel_count_40 : decode b_TripleLinesModel_count 40 = .ok (.ireturn, 1) := by decide +kernel
theorem d_TripleLinesModel_count_41 : decode b_TripleLinesModel_count 41 = .ok (.aload_n 0, 1) := by decide +kernel
theorem d_TripleLinesModel_count_42 : decode b_TripleLinesModel_count 42 = .ok (.getfield 132, 3) := by decide +kernel
theorem d_TripleLinesModel_count_45 : decode b_TripleLinesModel_count 45 = .ok (.ireturn, 1) := by decide +kernel
theorem d_TripleLinesModel_count_46 : decode b_TripleLinesModel_count 46 = .ok (.aload_n 0, 1) := by decide +kernel
theorem d_TripleLinesModel_count_47 : decode b_TripleLinesModel_count 47 = .ok (.getfield 220, 3) := by decide +kernel
theorem d_TripleLinesModel_count_50 : decode b_TripleLinesModel_count 50 = .ok (.ireturn, 1) := by decide +kernel
theorem d_TripleLinesModel_count_51 : decode b_TripleLinesModel_count 51 = .ok (.aload_n 0, 1) := by decide +kernel
theorem d_TripleLinesModel_count_52 : decode b_TripleLinesModel_count 52 = .ok (.getfield 71, 3) := by decide +kernel
theorem d_TripleLinesModel_count_55 : decode b_TripleLinesModel_count 55 = .ok (.ireturn, 1) := by decide +kernel
theorem d_TripleLinesModel_count_56 : decode b_TripleLinesModel_count 56 = .ok (.aload_n 0, 1) := by decide +kernel
theorem d_TripleLinesModel_count_57 : decode b_TripleLinesModel_count 57 = .ok (.getfield 76, 3) := by decide +kernel
theorem d_TripleLinesModel_count_60 : decode b_TripleLinesModel_count 60 = .ok (.ireturn, 1) := by decide +kernel
theorem d_TripleLinesModel_count_61 : decode b_TripleLinesModel_count 61 = .ok (.iconst (-1), 1) := by decide +kernel
theorem d_TripleLinesModel_count_62 : decode b_TripleLinesModel_count 62 = .ok (.ireturn, 1) := by decide +kernel
theorem d_TripleLinesModel_pass_0 : decode b_TripleLinesModel_pass 0 = .ok (.aload_n 0, 1) := by decide +kernel
theorem d_TripleLinesModel_pass_1 : decode b_TripleLinesModel_pass 1 = .ok (.getfield 71, 3) := by decide +kernel
theorem d_TripleLinesModel_pass_4 : decode b_TripleLinesModel_pass 4 = .ok (.aload_n 0, 1) := by decide +kernel
theorem d_TripleLinesModel_pass_5 : decode b_TripleLinesModel_pass 5 = .ok (.getfield 76, 3) := by decide +kernel
theorem d_TripleLinesModel_pass_8 : decode b_TripleLinesModel_pass 8 = .ok (.iadd, 1) := by decide +kernel
theorem d_TripleLinesModel_pass_9 : decode b_TripleLinesModel_pass 9 = .ok (.sipush 3000, 3) := by decide +kernel
theorem d_TripleLinesModel_pass_12 : decode b_TripleLinesModel_pass 12 = .ok (.if_icmp .le 6, 3) := by decide +kernel
theorem d_TripleLinesModel_pass_15 : decode b_TripleLinesModel_pass 15 = .ok (.bipush (-3), 2) := by decide +kernel
theorem d_TripleLinesModel_pass_17 : decode b_TripleLinesModel_pass 17 = .ok (.ireturn, 1) := by decide +kernel
theorem d_TripleLinesModel_pass_18 : decode b_TripleLinesModel_pass 18 = .ok (.iconst 0, 1) := by decide +kernel
theorem d_TripleLinesModel_pass_19 : decode b_TripleLinesModel_pass 19 = .ok (.istore_n 1, 1) := by decide +kernel
theorem d_TripleLinesModel_pass_20 : decode b_TripleLinesModel_pass 20 = .ok (.iload_n 1, 1) := by decide +kernel
theorem d_TripleLinesModel_pass_21 : decode b_TripleLinesModel_pass 21 = .ok (.aload_n 0, 1) := by decide +kernel
theorem d_TripleLinesModel_pass_22 : decode b_TripleLinesModel_pass 22 = .ok (.getfield 76, 3) := by decide +kernel
theorem d_TripleLinesModel_pass_25 : decode b_TripleLinesModel_pass 25 = .ok (.if_icmp .ge 26, 3) := by decide +kernel
theorem d_TripleLinesModel_pass_28 : decode b_TripleLinesModel_pass 28 = .ok (.aload_n 0, 1) := by decide +kernel
theorem d_TripleLinesModel_pass_29 : decode b_TripleLinesModel_pass 29 = .ok (.getfield 7, 3) := by decide +kernel
theorem d_TripleLinesModel_pass_32 : decode b_TripleLinesModel_pass 32 = .ok (.aload_n 0, 1) := by decide +kernel
theorem d_TripleLinesModel_pass_33 : decode b_TripleLinesModel_pass 33 = .ok (.getfield 71, 3) := by decide +kernel
theorem d_TripleLinesModel_pass_36 : decode b_TripleLinesModel_pass 36 = .ok (.iload_n 1, 1) := by decide +kernel
theorem d_TripleLinesModel_pass_37 : decode b_TripleLinesModel_pass 37 = .ok (.iadd, 1) := by decide +kernel
theorem d_TripleLinesModel_pass_38 : decode b_TripleLinesModel_pass 38 = .ok (.aload_n 0, 1) := by decide +kernel
theorem d_TripleLinesModel_pass_39 : decode b_TripleLinesModel_pass 39 = .ok (.getfield 13, 3) := by decide +kernel
theorem d_TripleLinesModel_pass_42 : decode b_TripleLinesModel_pass 42 = .ok (.iload_n 1, 1) := by decide +kernel
theorem d_TripleLinesModel_pass_43 : decode b_TripleLinesModel_pass 43 = .ok (.iaload, 1) := by decide +kernel
theorem d_TripleLinesModel_pass_44 : decode b_TripleLinesModel_pass 44 = .ok (.iastore, 1) := by decide +kernel
theorem d_TripleLinesModel_pass_45 : decode b_TripleLinesModel_pass 45 = .ok (.iinc 1 1, 3) := by decide +kernel
theorem d_TripleLinesModel_pass_48 : decode b_TripleLinesModel_pass 48 = .ok (.goto (-28), 3) := by decide +kernel
theorem d_TripleLinesModel_pass_51 : decode b_TripleLinesModel_pass 51 = .ok (.aload_n 0, 1) := by decide +kernel
theorem d_TripleLinesModel_pass_52 : decode b_TripleLinesModel_pass 52 = .ok (.dup, 1) := by decide +kernel
theorem d_TripleLinesModel_pass_53 : decode b_TripleLinesModel_pass 53 = .ok (.getfield 71, 3) := by decide +kernel
theorem d_TripleLinesModel_pass_56 : decode b_TripleLinesModel_pass 56 = .ok (.aload_n 0, 1) := by decide +kernel
theorem d_TripleLinesModel_pass_57 : decode b_TripleLinesModel_pass 57 = .ok (.getfield 76, 3) := by decide +kernel
theorem d_TripleLinesModel_pass_60 : decode b_TripleLinesModel_pass 60 = .ok (.iadd, 1) := by decide +kernel
theorem d_TripleLinesModel_pass_61 : decode b_TripleLinesModel_pass 61 = .ok (.putfield 71, 3) := by decide +kernel
theorem d_TripleLinesModel_pass_64 : decode b_TripleLinesModel_pass 64 = .ok (.aload_n 0, 1) := by decide +kernel
theorem d_TripleLinesModel_pass_65 : decode b_TripleLinesModel_pass 65 = .ok (.getfield 71, 3) := by decide +kernel
theorem d_TripleLinesModel_pass_68 : decode b_TripleLinesModel_pass 68 = .ok (.ireturn, 1) := by decide +kernel
theorem d_TripleLinesModel_type_0 : decode b_TripleLinesModel_type 0 = .ok (.iload_n 3, 1) := by decide +kernel
theorem d_TripleLinesModel_type_1 : decode b_TripleLinesModel_type 1 = .ok (.iconst 1, 1) := by decide +kernel
theorem d_TripleLinesModel_type_2 : decode b_TripleLinesModel_type 2 = .ok (.bipush 8, 2) := by decide +kernel
theorem d_TripleLinesModel_type_4 : decode b_TripleLinesModel_type 4 = .ok (.invokestatic 63, 3) := by decide +kernel
theorem d_TripleLinesModel_type_7 : decode b_TripleLinesModel_type 7 = .ok (.ifCond .ne 5, 3) := by decide +kernel
theorem d_TripleLinesModel_type_10 : decode b_TripleLinesModel_type 10 = .ok (.iconst (-1), 1) := by decide +kernel
theorem d_TripleLinesModel_type_11 : decode b_TripleLinesModel_type 11 = .ok (.ireturn, 1) := by decide +kernel
theorem d_TripleLinesModel_type_12 : decode b_TripleLinesModel_type 12 = .ok (.aload_n 0, 1) := by decide +kernel
theorem d_TripleLinesModel_type_13 : decode b_TripleLinesModel_type 13 = .ok (.getfield 71, 3) := by decide +kernel
theorem d_TripleLinesModel_type_16 : decode b_TripleLinesModel_type 16 = .ok (.iload_n 3, 1) := by decide +kernel
theorem d_TripleLinesModel_type_17 : decode b_TripleLinesModel_type 17 = .ok (.iadd, 1) := by decide +kernel
theorem d_TripleLinesModel_type_18 : decode b_TripleLinesModel_type 18 = .ok (.sipush 3000, 3) := by decide +kernel
theorem d_TripleLinesModel_type_21 : decode b_TripleLinesModel_type 21 = .ok (.if_icmp .le 6, 3) := by decide +kernel
theorem d_TripleLinesModel_type_24 : decode b_TripleLinesModel_type 24 = .ok (.bipush (-3), 2) := by decide +kernel
theorem d_TripleLinesModel_type_26 : decode b_TripleLinesModel_type 26 = .ok (.ireturn, 1) := by decide +kernel
theorem d_TripleLinesModel_type_27 : decode b_TripleLinesModel_type 27 = .ok (.iload_n 3, 1) := by decide +kernel
theorem d_TripleLinesModel_type_28 : decode b_TripleLinesModel_type 28 = .ok (.iconst 1, 1) := by decide +kernel
theorem d_TripleLinesModel_type_29 : decode b_TripleLinesModel_type 29 = .ok (.isub, 1) := by decide +kernel
theorem d_TripleLinesModel_type_30 : decode b_TripleLinesModel_type 30 = .ok (.istore 4, 2) := by decide +kernel
theorem d_TripleLinesModel_type_32 : decode b_TripleLinesModel_type 32 = .ok (.iload 4, 2) := by decide +kernel
theorem d_TripleLinesModel_type_34 : decode b_TripleLinesModel_type 34 = .ok (.ifCond .lt 40, 3) := by decide +kernel
theorem d_TripleLinesModel_type_37 : decode b_TripleLinesModel_type 37 = .ok (.aload_n 0, 1) := by decide +kernel
theorem d_TripleLinesModel_type_38 : decode b_TripleLinesModel_type 38 = .ok (.getfield 7, 3) := by decide +kernel
theorem d_TripleLinesModel_type_41 : decode b_TripleLinesModel_type 41 = .ok (.aload_n 0, 1) := by decide +kernel
theorem d_TripleLinesModel_type_42 : decode b_TripleLinesModel_type 42 = .ok (.getfield 71, 3) := by decide +kernel
theorem d_TripleLinesModel_type_45 : decode b_TripleLinesModel_type 45 = .ok (.lload_n 1, 1) := by decide +kernel
theorem d_TripleLinesModel_type_46 : decode b_TripleLinesModel_type 46 = .ok (.bipush 8, 2) := by decide +kernel
theorem d_TripleLinesModel_type_48 : decode b_TripleLinesModel_type 48 = .ok (.iload 4, 2) := by decide +kernel
theorem d_TripleLinesModel_type_50 : decode b_TripleLinesModel_type 50 = .ok (.imul, 1) := by decide +kernel
theorem d_TripleLinesModel_type_51 : decode b_TripleLinesModel_type 51 = .ok (.lshr, 1) := by decide +kernel
theorem d_TripleLinesModel_type_52 : decode b_TripleLinesModel_type 52 = .ok (.ldc2_w 74, 3) := by decide +kernel
theorem d_TripleLinesModel_type_55 : decode b_TripleLinesModel_type 55 = .ok (.land, 1) := by decide +kernel
theorem d_TripleLinesModel_type_56 : decode b_TripleLinesModel_type 56 = .ok (.l2i, 1) := by decide +kernel
theorem d_TripleLinesModel_type_57 : decode b_TripleLinesModel_type 57 = .ok (.iastore, 1) := by decide +kernel
theorem d_TripleLinesModel_type_58 : decode b_TripleLinesModel_type 58 = .ok (.aload_n 0, 1) := by decide +kernel
theorem d_TripleLinesModel_type_59 : decode b_TripleLinesModel_type 59 = .ok (.dup, 1) := by decide +kernel
theorem d_TripleLinesModel_type_60 : decode b_TripleLinesModel_type 60 = .ok (.getfield 71, 3) := by decide +kernel
theorem d_TripleLinesModel_type_63 : decode b_TripleLinesModel_type 63 = .ok (.iconst 1, 1) := by decide +kernel
theorem d_TripleLinesModel_type_64 : decode b_TripleLinesModel_type 64 = .ok (.iadd, 1) := by decide +kernel
theorem d_TripleLinesModel_type_65 : decode b_TripleLinesModel_type 65 = .ok (.putfield 71, 3) := by decide +kernel
theorem d_TripleLinesModel_type_68 : decode b_TripleLinesModel_type 68 = .ok (.iinc 4 (-1), 3) := by decide +kernel
theorem d_TripleLinesModel_type_71 : decode b_TripleLinesModel_type 71 = .ok (.goto (-39), 3) := by decide +kernel
theorem d_TripleLinesModel_type_74 : decode b_TripleLinesModel_type 74 = .ok (.aload_n 0, 1) := by decide +kernel
theorem d_TripleLinesModel_type_75 : decode b_TripleLinesModel_type 75 = .ok (.getfield 71, 3) := by decide +kernel
theorem d_TripleLinesModel_type_78 : decode b_TripleLinesModel_type 78 = .ok (.ireturn, 1) := by decide +kernel
set_option maxHeartbeats 4000000 in
set_option maxRecDepth 100000 in
theorem c_TripleLinesModel_line (l : Launch) (D : va_G) (cI : ClassId) (mM : Nat) (tm : Int) (aT : Nat) (om : Int) (aO : Nat) (tn : Int) (aK : Nat) (aS : Nat) (aC : Nat) (aU : Nat) (aG : Nat) (aY : Nat) (aX : Nat) (qn : Int) (aP : Nat) (tr : Int) (rg : Int) (ll : Int) (p : Int) (f : Int) (ov : Int) (sz : Int) (aM : Nat) (tz : Int) (aA : Nat) (dm : Int) (aD : Nat) (aB : Nat) (aV : Nat) (aE : Nat) (hl : -2147483648 ≤ ll ∧ ll < 2147483648) : CtI l D [(cI, .int)] y_TripleLinesModel_line b_TripleLinesModel_line 1 (some .int) 0 [.ref mM] [(mM, .inr (6, [.int (iI tm), .ref aT, .int (iI om), .ref aO, .int (iI tn), .ref aK, .ref aS, .ref aC, .ref aU, .ref aG, .ref aY, .ref aX, .int (iI qn), .ref aP, .int (iI tr), .int (iI rg), .int (iI ll), .int (iI p), .int (iI f), .int (iI ov), .int (iI sz), .ref aM, .int (iI tz), .ref aA, .int (iI dm), .ref aD, .ref aB, .ref aV, .ref aE]))] (S := Unit) (fun z u => z = ll) (fun u => [(mM, .inr (6, [.int (iI tm), .ref aT, .int (iI om), .ref aO, .int (iI tn), .ref aK, .ref aS, .ref aC, .ref aU, .ref aG, .ref aY, .ref aX, .int (iI qn), .ref aP, .int (iI tr), .int (iI rg), .int (iI ll), .int (iI p), .int (iI f), .int (iI ov), .int (iI sz), .ref aM, .int (iI tz), .ref aA, .int (iI dm), .ref aD, .ref aB, .ref aV, .ref aE]))]) := by
  refine CtI.walk (fun _ => True) (fun z _ => vp_nar_int _) (by decide) (Nat.le_of_ble_eq_true rfl) ?_
  intro xp xe0 xs xm xar xbelow xmeth xc xA0 xQ xe xb xml xo xt xP xK xD xA xret ls xl xS
  have xl : lv_has ls 1 [(0, .ref mM)] := xl
  have xo : xs.vm.findClass R_TripleLinesModel = some xm.cls := xo
  refine lv_aload_n xe xb d_TripleLinesModel_line_0 rfl (lv_at xl 0 rfl) ?_
  refine va_get (D := D) (ci := 6) (v := .int (iI ll)) (C := R_TripleLinesModel) (T := F_TripleLinesModel) (N := 29) xe xb xt i_TripleLinesModel xo xK xP 0 rfl rfl 16 (by decide) (xt _ mw_TripleLinesModel_217) (fun _ h9 => h9) rfl d_TripleLinesModel_line_1 ?_
  exact xret _ _ _ _ ll () d_TripleLinesModel_line_4 trivial (by omega) rfl xP xD xS
set_option maxHeartbeats 4000000 in
set_option maxRecDepth 100000 in
theorem c_TripleLinesModel_quad (l : Launch) (D : va_G) (cI : ClassId) (mM : Nat) (tm : Int) (aT : Nat) (om : Int) (aO : Nat) (tn : Int) (aK : Nat) (aS : Nat) (aC : Nat) (aU : Nat) (aG : Nat) (aY : Nat) (aX : Nat) (qn : Int) (aP : Nat) (tr : Int) (rg : Int) (ll : Int) (p : Int) (f : Int) (ov : Int) (sz : Int) (aM : Nat) (tz : Int) (aA : Nat) (dm : Int) (aD : Nat) (aB : Nat) (aV : Nat) (aE : Nat) (P : Nat → Int32) (i : Int) (w : Int) (hqz : 0 ≤ qn ∧ qn ≤ 80) (hi9 : -2147483648 ≤ i ∧ i < 2147483648) (hw9 : -2147483648 ≤ w ∧ w < 2147483648) : CtI l D [(cI, .int)] y_TripleLinesModel_quad b_TripleLinesModel_quad 3 (some .int) 1 [.ref mM, .int (iI i), .int (iI w)] [(mM, .inr (6, [.int (iI tm), .ref aT, .int (iI om), .ref aO, .int (iI tn), .ref aK, .ref aS, .ref aC, .ref aU, .ref aG, .ref aY, .ref aX, .int (iI qn), .ref aP, .int (iI tr), .int (iI rg), .int (iI ll), .int (iI p), .int (iI f), .int (iI ov), .int (iI sz), .ref aM, .int (iI tz), .ref aA, .int (iI dm), .ref aD, .ref aB, .ref aV, .ref aE])), (aP, .inl (cI, 320, .inl P))] (S := Unit) (fun z u => z = qAnM P qn i w) (fun u => [(mM, .inr (6, [.int (iI tm), .ref aT, .int (iI om), .ref aO, .int (iI tn), .ref aK, .ref aS, .ref aC, .ref aU, .ref aG, .ref aY, .ref aX, .int (iI qn), .ref aP, .int (iI tr), .int (iI rg), .int (iI ll), .int (iI p), .int (iI f), .int (iI ov), .int (iI sz), .ref aM, .int (iI tz), .ref aA, .int (iI dm), .ref aD, .ref aB, .ref aV, .ref aE])), (aP, .inl (cI, 320, .inl P))]) := by
  refine CtI.walk (fun _ => True) (fun z _ => vp_nar_int _) (by decide) (Nat.le_of_ble_eq_true rfl) ?_
  intro xp xe0 xs xm xar xbelow xmeth xc xA0 xQ xe xb xml xo xt xP xK xD xA xret ls xl xS
  have xl : lv_has ls 3 [(0, .ref mM), (1, .int (iI i)), (2, .int (iI w))] := xl
  have xo : xs.vm.findClass R_TripleLinesModel = some xm.cls := xo
  refine lv_iload_n xe xb d_TripleLinesModel_quad_0 rfl (lv_at xl 1 rfl) ?_
  refine lv_iconst (v := iI (0)) xe xb d_TripleLinesModel_quad_1 rfl ?_
  refine lv_aload_n xe xb d_TripleLinesModel_quad_2 rfl (lv_at xl 0 rfl) ?_
  refine va_get (D := D) (ci := 6) (v := .int (iI qn)) (C := R_TripleLinesModel) (T := F_TripleLinesModel) (N := 29) xe xb xt i_TripleLinesModel xo xK xP 0 rfl rfl 12 (by decide) (xt _ mw_TripleLinesModel_211) (fun _ h9 => h9) rfl d_TripleLinesModel_quad_3 ?_
  refine lv_iconst (v := iI (1)) xe xb d_TripleLinesModel_quad_6 rfl ?_
  refine tk_isub xe xb d_TripleLinesModel_quad_7 ?_
  refine tk_callSi (As := [.int (iI i), .int (iI 0), .int (iI (qn - 1))]) (rest := []) (wr := [(mM, .inr (6, [.int (iI tm), .ref aT, .int (iI om), .ref aO, .int (iI tn), .ref aK, .ref aS, .ref aC, .ref aU, .ref aG, .ref aY, .ref aX, .int (iI qn), .ref aP, .int (iI tr), .int (iI rg), .int (iI ll), .int (iI p), .int (iI f), .int (iI ov), .int (iI sz), .ref aM, .int (iI tz), .ref aA, .int (iI dm), .ref aD, .ref aB, .ref aV, .ref aE])), (aP, .inl (cI, 320, .inl P))]) (wn := fun u => [(mM, .inr (6, [.int (iI tm), .ref aT, .int (iI om), .ref aO, .int (iI tn), .ref aK, .ref aS, .ref aC, .ref aU, .ref aG, .ref aY, .ref aX, .int (iI qn), .ref aP, .int (iI tr), .int (iI rg), .int (iI ll), .int (iI p), .int (iI f), .int (iI ov), .int (iI sz), .ref aM, .int (iI tz), .ref aA, .int (iI dm), .ref aD, .ref aB, .ref aV, .ref aE])), (aP, .inl (cI, 320, .inl P))]) ⟨xe, xb, xml, xo, xt⟩ (c_TripleLinesModel_in l D cI i 0 (qn - 1) (by first | assumption | omega) (by first | assumption | omega) (by first | assumption | omega)) k_TripleLinesModel_in mw_TripleLinesModel_63 ⟨Nat.le_of_ble_eq_true rfl, Nat.le_of_ble_eq_true rfl⟩ xK xP xD xS xA rfl xl.1 rfl (Nat.le_of_ble_eq_true rfl) d_TripleLinesModel_quad_8 ⟨Nat.zero_le _, Nat.zero_le _⟩ [] [0, 1] [0, 1] rfl rfl (by decide) (by decide) (by decide) (by decide) (fun _ => rfl) ?_
  clear xP xD xS
  intro z_2 u H locs hr_3 hw_1 xP xD xS
  try dsimp only at hw_1
  replace xP : va_P D classes [(mM, .inr (6, [.int (iI tm), .ref aT, .int (iI om), .ref aO, .int (iI tn), .ref aK, .ref aS, .ref aC, .ref aU, .ref aG, .ref aY, .ref aX, .int (iI qn), .ref aP, .int (iI tr), .int (iI rg), .int (iI ll), .int (iI p), .int (iI f), .int (iI ov), .int (iI sz), .ref aM, .int (iI tz), .ref aA, .int (iI dm), .ref aD, .ref aB, .ref aV, .ref aE])), (aP, .inl (cI, 320, .inl P))] H := xP
  replace xD : va_D xA0 [(mM, .inr (6, [.int (iI tm), .ref aT, .int (iI om), .ref aO, .int (iI tn), .ref aK, .ref aS, .ref aC, .ref aU, .ref aG, .ref aY, .ref aX, .int (iI qn), .ref aP, .int (iI tr), .int (iI rg), .int (iI ll), .int (iI p), .int (iI f), .int (iI ov), .int (iI sz), .ref aM, .int (iI tz), .ref aA, .int (iI dm), .ref aD, .ref aB, .ref aV, .ref aE])), (aP, .inl (cI, 320, .inl P))] := xD
  rcases hw_1 with ⟨rfl, hb_4⟩ | ⟨rfl, hb_5⟩
  · refine tk_if_eq (tgt := 23) xe xb d_TripleLinesModel_quad_11 (by decide) (by omega) (fun c_6 => absurd c_6 (by omega)) (fun c_6 => ?_)
    refine lv_iload_n xe xb d_TripleLinesModel_quad_14 rfl (lv_at xl 2 rfl) ?_
    refine lv_iconst (v := iI (0)) xe xb d_TripleLinesModel_quad_15 rfl ?_
    refine lv_iconst (v := iI (3)) xe xb d_TripleLinesModel_quad_16 rfl ?_
    refine tk_callSi (As := [.int (iI w), .int (iI 0), .int (iI 3)]) (rest := []) (wr := [(mM, .inr (6, [.int (iI tm), .ref aT, .int (iI om), .ref aO, .int (iI tn), .ref aK, .ref aS, .ref aC, .ref aU, .ref aG, .ref aY, .ref aX, .int (iI qn), .ref aP, .int (iI tr), .int (iI rg), .int (iI ll), .int (iI p), .int (iI f), .int (iI ov), .int (iI sz), .ref aM, .int (iI tz), .ref aA, .int (iI dm), .ref aD, .ref aB, .ref aV, .ref aE])), (aP, .inl (cI, 320, .inl P))]) (wn := fun u => [(mM, .inr (6, [.int (iI tm), .ref aT, .int (iI om), .ref aO, .int (iI tn), .ref aK, .ref aS, .ref aC, .ref aU, .ref aG, .ref aY, .ref aX, .int (iI qn), .ref aP, .int (iI tr), .int (iI rg), .int (iI ll), .int (iI p), .int (iI f), .int (iI ov), .int (iI sz), .ref aM, .int (iI tz), .ref aA, .int (iI dm), .ref aD, .ref aB, .ref aV, .ref aE])), (aP, .inl (cI, 320, .inl P))]) ⟨xe, xb, xml, xo, xt⟩ (c_TripleLinesModel_in l D cI w 0 3 (by first | assumption | omega) (by first | assumption | omega) (by first | assumption | omega)) k_TripleLinesModel_in mw_TripleLinesModel_63 ⟨Nat.le_of_ble_eq_true rfl, Nat.le_of_ble_eq_true rfl⟩ xK xP xD xS xA rfl xl.1 rfl (Nat.le_of_ble_eq_true rfl) d_TripleLinesModel_quad_17 ⟨Nat.zero_le _, Nat.zero_le _⟩ [] [0, 1] [0, 1] rfl rfl (by decide) (by decide) (by decide) (by decide) (fun _ => rfl) ?_
    clear xP xD xS
    intro z_8 u H locs hr_9 hw_7 xP xD xS
    try dsimp only at hw_7
    replace xP : va_P D classes [(mM, .inr (6, [.int (iI tm), .ref aT, .int (iI om), .ref aO, .int (iI tn), .ref aK, .ref aS, .ref aC, .ref aU, .ref aG, .ref aY, .ref aX, .int (iI qn), .ref aP, .int (iI tr), .int (iI rg), .int (iI ll), .int (iI p), .int (iI f), .int (iI ov), .int (iI sz), .ref aM, .int (iI tz), .ref aA, .int (iI dm), .ref aD, .ref aB, .ref aV, .ref aE])), (aP, .inl (cI, 320, .inl P))] H := xP
    replace xD : va_D xA0 [(mM, .inr (6, [.int (iI tm), .ref aT, .int (iI om), .ref aO, .int (iI tn), .ref aK, .ref aS, .ref aC, .ref aU, .ref aG, .ref aY, .ref aX, .int (iI qn), .ref aP, .int (iI tr), .int (iI rg), .int (iI ll), .int (iI p), .int (iI f), .int (iI ov), .int (iI sz), .ref aM, .int (iI tz), .ref aA, .int (iI dm), .ref aD, .ref aB, .ref aV, .ref aE])), (aP, .inl (cI, 320, .inl P))] := xD
    rcases hw_7 with ⟨rfl, hb_10⟩ | ⟨rfl, hb_11⟩
    · refine tk_if_ne (tgt := 25) xe xb d_TripleLinesModel_quad_20 (by decide) (by omega) (fun c_12 => ?_) (fun c_12 => absurd c_12 (by omega))
      refine lv_aload_n xe xb d_TripleLinesModel_quad_25 rfl (lv_at xl 0 rfl) ?_
      refine va_get (D := D) (ci := 6) (v := .ref aP) (C := R_TripleLinesModel) (T := F_TripleLinesModel) (N := 29) xe xb xt i_TripleLinesModel xo xK xP 0 rfl rfl 13 (by decide) (xt _ mw_TripleLinesModel_37) (fun _ h9 => h9) rfl d_TripleLinesModel_quad_26 ?_
      refine lv_iconst (v := iI (4)) xe xb d_TripleLinesModel_quad_29 rfl ?_
      refine lv_iload_n xe xb d_TripleLinesModel_quad_30 rfl (lv_at xl 1 rfl) ?_
      refine tk_imul xe xb d_TripleLinesModel_quad_31 ?_
      refine lv_iload_n xe xb d_TripleLinesModel_quad_32 rfl (lv_at xl 2 rfl) ?_
      refine tk_iadd xe xb d_TripleLinesModel_quad_33 ?_
      refine tk_iald xe xb xK xP 1 0 rfl rfl (by omega) d_TripleLinesModel_quad_34 ?_
      have hr_13 := tI_rg P ((4 * i) + w)
      refine tk_if_ge (tgt := 43) xe xb d_TripleLinesModel_quad_35 (by decide) (by omega) (fun c_14 => ?_) (fun c_14 => ?_)
      · refine lv_aload_n xe xb d_TripleLinesModel_quad_43 rfl (lv_at xl 0 rfl) ?_
        refine va_get (D := D) (ci := 6) (v := .ref aP) (C := R_TripleLinesModel) (T := F_TripleLinesModel) (N := 29) xe xb xt i_TripleLinesModel xo xK xP 0 rfl rfl 13 (by decide) (xt _ mw_TripleLinesModel_37) (fun _ h9 => h9) rfl d_TripleLinesModel_quad_44 ?_
        refine lv_iconst (v := iI (4)) xe xb d_TripleLinesModel_quad_47 rfl ?_
        refine lv_iload_n xe xb d_TripleLinesModel_quad_48 rfl (lv_at xl 1 rfl) ?_
        refine tk_imul xe xb d_TripleLinesModel_quad_49 ?_
        refine lv_iload_n xe xb d_TripleLinesModel_quad_50 rfl (lv_at xl 2 rfl) ?_
        refine tk_iadd xe xb d_TripleLinesModel_quad_51 ?_
        refine tk_iald xe xb xK xP 1 0 rfl rfl (by omega) d_TripleLinesModel_quad_52 ?_
        have hr_15 := tI_rg P ((4 * i) + w)
        exact xret _ _ _ _ (tI P ((4 * i) + w)) () d_TripleLinesModel_quad_53 trivial (by omega) (by unfold qAnM; first | (rw [if_neg (by omega)]) | (rw [if_pos (by omega)]; first | (rw [if_pos (by omega)]) | (rw [if_neg (by omega)]))) xP xD xS
      · refine lv_bipush (v := iI (-2)) xe xb d_TripleLinesModel_quad_38 (by decide) ?_
        refine lv_goto (tgt := 53) xe xb d_TripleLinesModel_quad_40 (by decide) ?_
        exact xret _ _ _ _ (-2) () d_TripleLinesModel_quad_53 trivial (by omega) (by unfold qAnM; first | (rw [if_neg (by omega)]) | (rw [if_pos (by omega)]; first | (rw [if_pos (by omega)]) | (rw [if_neg (by omega)]))) xP xD xS
    · refine tk_if_ne (tgt := 25) xe xb d_TripleLinesModel_quad_20 (by decide) (by omega) (fun c_16 => absurd c_16 (by omega)) (fun c_16 => ?_)
      refine lv_iconst (v := iI (-1)) xe xb d_TripleLinesModel_quad_23 rfl ?_
      exact xret _ _ _ _ (-1) () d_TripleLinesModel_quad_24 trivial (by omega) (by unfold qAnM; first | (rw [if_neg (by omega)]) | (rw [if_pos (by omega)]; first | (rw [if_pos (by omega)]) | (rw [if_neg (by omega)]))) xP xD xS
  · refine tk_if_eq (tgt := 23) xe xb d_TripleLinesModel_quad_11 (by decide) (by omega) (fun c_17 => ?_) (fun c_17 => absurd c_17 (by omega))
    refine lv_iconst (v := iI (-1)) xe xb d_TripleLinesModel_quad_23 rfl ?_
    exact xret _ _ _ _ (-1) () d_TripleLinesModel_quad_24 trivial (by omega) (by unfold qAnM; first | (rw [if_neg (by omega)]) | (rw [if_pos (by omega)]; first | (rw [if_pos (by omega)]) | (rw [if_neg (by omega)]))) xP xD xS
set_option maxHeartbeats 4000000 in
set_option maxRecDepth 100000 in
theorem c_TripleLinesModel_isTerm (l : Launch) (D : va_G) (cI : ClassId) (mM : Nat) (tm : Int) (aT : Nat) (om : Int) (aO : Nat) (tn : Int) (aK : Nat) (aS : Nat) (aC : Nat) (aU : Nat) (aG : Nat) (aY : Nat) (aX : Nat) (qn : Int) (aP : Nat) (tr : Int) (rg : Int) (ll : Int) (p : Int) (f : Int) (ov : Int) (sz : Int) (aM : Nat) (tz : Int) (aA : Nat) (dm : Int) (aD : Nat) (aB : Nat) (aV : Nat) (aE : Nat) (t : Int) (hz : 0 ≤ tn ∧ tn ≤ 120) (ht9 : -2147483648 ≤ t ∧ t < 2147483648) : CtI l D [(cI, .int)] y_TripleLinesModel_isTerm b_TripleLinesModel_isTerm 2 (some .boolean) 1 [.ref mM, .int (iI t)] [(mM, .inr (6, [.int (iI tm), .ref aT, .int (iI om), .ref aO, .int (iI tn), .ref aK, .ref aS, .ref aC, .ref aU, .ref aG, .ref aY, .ref aX, .int (iI qn), .ref aP, .int (iI tr), .int (iI rg), .int (iI ll), .int (iI p), .int (iI f), .int (iI ov), .int (iI sz), .ref aM, .int (iI tz), .ref aA, .int (iI dm), .ref aD, .ref aB, .ref aV, .ref aE]))] (S := Unit) (fun z u => (z = 1 ∧ (0 ≤ t ∧ t < tn)) ∨ (z = 0 ∧ ¬ (0 ≤ t ∧ t < tn))) (fun u => [(mM, .inr (6, [.int (iI tm), .ref aT, .int (iI om), .ref aO, .int (iI tn), .ref aK, .ref aS, .ref aC, .ref aU, .ref aG, .ref aY, .ref aX, .int (iI qn), .ref aP, .int (iI tr), .int (iI rg), .int (iI ll), .int (iI p), .int (iI f), .int (iI ov), .int (iI sz), .ref aM, .int (iI tz), .ref aA, .int (iI dm), .ref aD, .ref aB, .ref aV, .ref aE]))]) := by
  refine CtI.walk (fun z => z = 0 ∨ z = 1) (fun z hz => by rcases hz with rfl | rfl <;> decide) (by decide) (Nat.le_of_ble_eq_true rfl) ?_
  intro xp xe0 xs xm xar xbelow xmeth xc xA0 xQ xe xb xml xo xt xP xK xD xA xret ls xl xS
  have xl : lv_has ls 2 [(0, .ref mM), (1, .int (iI t))] := xl
  have xo : xs.vm.findClass R_TripleLinesModel = some xm.cls := xo
  refine lv_iload_n xe xb d_TripleLinesModel_isTerm_0 rfl (lv_at xl 1 rfl) ?_
  refine lv_iconst (v := iI (0)) xe xb d_TripleLinesModel_isTerm_1 rfl ?_
  refine lv_aload_n xe xb d_TripleLinesModel_isTerm_2 rfl (lv_at xl 0 rfl) ?_
  refine va_get (D := D) (ci := 6) (v := .int (iI tn)) (C := R_TripleLinesModel) (T := F_TripleLinesModel) (N := 29) xe xb xt i_TripleLinesModel xo xK xP 0 rfl rfl 4 (by decide) (xt _ mw_TripleLinesModel_132) (fun _ h9 => h9) rfl d_TripleLinesModel_isTerm_3 ?_
  refine lv_iconst (v := iI (1)) xe xb d_TripleLinesModel_isTerm_6 rfl ?_
  refine tk_isub xe xb d_TripleLinesModel_isTerm_7 ?_
  refine tk_callSi (As := [.int (iI t), .int (iI 0), .int (iI (tn - 1))]) (rest := []) (wr := [(mM, .inr (6, [.int (iI tm), .ref aT, .int (iI om), .ref aO, .int (iI tn), .ref aK, .ref aS, .ref aC, .ref aU, .ref aG, .ref aY, .ref aX, .int (iI qn), .ref aP, .int (iI tr), .int (iI rg), .int (iI ll), .int (iI p), .int (iI f), .int (iI ov), .int (iI sz), .ref aM, .int (iI tz), .ref aA, .int (iI dm), .ref aD, .ref aB, .ref aV, .ref aE]))]) (wn := fun u => [(mM, .inr (6, [.int (iI tm), .ref aT, .int (iI om), .ref aO, .int (iI tn), .ref aK, .ref aS, .ref aC, .ref aU, .ref aG, .ref aY, .ref aX, .int (iI qn), .ref aP, .int (iI tr), .int (iI rg), .int (iI ll), .int (iI p), .int (iI f), .int (iI ov), .int (iI sz), .ref aM, .int (iI tz), .ref aA, .int (iI dm), .ref aD, .ref aB, .ref aV, .ref aE]))]) ⟨xe, xb, xml, xo, xt⟩ (c_TripleLinesModel_in l D cI t 0 (tn - 1) (by first | assumption | omega) (by first | assumption | omega) (by first | assumption | omega)) k_TripleLinesModel_in mw_TripleLinesModel_63 ⟨Nat.le_of_ble_eq_true rfl, Nat.le_of_ble_eq_true rfl⟩ xK xP xD xS xA rfl xl.1 rfl (Nat.le_of_ble_eq_true rfl) d_TripleLinesModel_isTerm_8 ⟨Nat.zero_le _, Nat.zero_le _⟩ [] [0] [0] rfl rfl (by decide) (by decide) (by decide) (by decide) (fun _ => rfl) ?_
  clear xP xD xS
  intro z_2 u H locs hr_3 hw_1 xP xD xS
  try dsimp only at hw_1
  replace xP : va_P D classes [(mM, .inr (6, [.int (iI tm), .ref aT, .int (iI om), .ref aO, .int (iI tn), .ref aK, .ref aS, .ref aC, .ref aU, .ref aG, .ref aY, .ref aX, .int (iI qn), .ref aP, .int (iI tr), .int (iI rg), .int (iI ll), .int (iI p), .int (iI f), .int (iI ov), .int (iI sz), .ref aM, .int (iI tz), .ref aA, .int (iI dm), .ref aD, .ref aB, .ref aV, .ref aE]))] H := xP
  replace xD : va_D xA0 [(mM, .inr (6, [.int (iI tm), .ref aT, .int (iI om), .ref aO, .int (iI tn), .ref aK, .ref aS, .ref aC, .ref aU, .ref aG, .ref aY, .ref aX, .int (iI qn), .ref aP, .int (iI tr), .int (iI rg), .int (iI ll), .int (iI p), .int (iI f), .int (iI ov), .int (iI sz), .ref aM, .int (iI tz), .ref aA, .int (iI dm), .ref aD, .ref aB, .ref aV, .ref aE]))] := xD
  have HB := hw_1
  exact xret _ _ _ _ z_2 () d_TripleLinesModel_isTerm_11 (by omega) (by omega) (by omega) xP xD xS
set_option maxHeartbeats 4000000 in
set_option maxRecDepth 100000 in
theorem c_TripleLinesModel_term (l : Launch) (D : va_G) (cI : ClassId) (mM : Nat) (tm : Int) (aT : Nat) (om : Int) (aO : Nat) (tn : Int) (aK : Nat) (aS : Nat) (aC : Nat) (aU : Nat) (aG : Nat) (aY : Nat) (aX : Nat) (qn : Int) (aP : Nat) (tr : Int) (rg : Int) (ll : Int) (p : Int) (f : Int) (ov : Int) (sz : Int) (aM : Nat) (tz : Int) (aA : Nat) (dm : Int) (aD : Nat) (aB : Nat) (aV : Nat) (aE : Nat) (K : Nat → Int32) (Ln : Nat → Int32) (TL : Nat → Int32) (TY : Nat → Int32) (t : Int) (w : Int) (hz : 0 ≤ tn ∧ tn ≤ 120) (ht9 : -2147483648 ≤ t ∧ t < 2147483648) (hw9 : -2147483648 ≤ w ∧ w < 2147483648) : CtI l D [(cI, .int)] y_TripleLinesModel_term b_TripleLinesModel_term 3 (some .int) 2 [.ref mM, .int (iI t), .int (iI w)] [(mM, .inr (6, [.int (iI tm), .ref aT, .int (iI om), .ref aO, .int (iI tn), .ref aK, .ref aS, .ref aC, .ref aU, .ref aG, .ref aY, .ref aX, .int (iI qn), .ref aP, .int (iI tr), .int (iI rg), .int (iI ll), .int (iI p), .int (iI f), .int (iI ov), .int (iI sz), .ref aM, .int (iI tz), .ref aA, .int (iI dm), .ref aD, .ref aB, .ref aV, .ref aE])), (aK, .inl (cI, 120, .inl K)), (aS, .inl (cI, 120, .inl Ln)), (aU, .inl (cI, 120, .inl TL)), (aY, .inl (cI, 120, .inl TY))] (S := Unit) (fun z u => z = tAnM K Ln TL TY tn t w) (fun u => [(mM, .inr (6, [.int (iI tm), .ref aT, .int (iI om), .ref aO, .int (iI tn), .ref aK, .ref aS, .ref aC, .ref aU, .ref aG, .ref aY, .ref aX, .int (iI qn), .ref aP, .int (iI tr), .int (iI rg), .int (iI ll), .int (iI p), .int (iI f), .int (iI ov), .int (iI sz), .ref aM, .int (iI tz), .ref aA, .int (iI dm), .ref aD, .ref aB, .ref aV, .ref aE])), (aK, .inl (cI, 120, .inl K)), (aS, .inl (cI, 120, .inl Ln)), (aU, .inl (cI, 120, .inl TL)), (aY, .inl (cI, 120, .inl TY))]) := by
  refine CtI.walk (fun _ => True) (fun z _ => vp_nar_int _) (by decide) (Nat.le_of_ble_eq_true rfl) ?_
  intro xp xe0 xs xm xar xbelow xmeth xc xA0 xQ xe xb xml xo xt xP xK xD xA xret ls xl xS
  have xl : lv_has ls 3 [(0, .ref mM), (1, .int (iI t)), (2, .int (iI w))] := xl
  have xo : xs.vm.findClass R_TripleLinesModel = some xm.cls := xo
  refine lv_aload_n xe xb d_TripleLinesModel_term_0 rfl (lv_at xl 0 rfl) ?_
  refine lv_iload_n xe xb d_TripleLinesModel_term_1 rfl (lv_at xl 1 rfl) ?_
  refine tk_callVi (As := [.int (iI t)]) (rest := []) (wr := [(aK, .inl (cI, 120, .inl K)), (aS, .inl (cI, 120, .inl Ln)), (aU, .inl (cI, 120, .inl TL)), (aY, .inl (cI, 120, .inl TY))]) (wn := fun u => [(mM, .inr (6, [.int (iI tm), .ref aT, .int (iI om), .ref aO, .int (iI tn), .ref aK, .ref aS, .ref aC, .ref aU, .ref aG, .ref aY, .ref aX, .int (iI qn), .ref aP, .int (iI tr), .int (iI rg), .int (iI ll), .int (iI p), .int (iI f), .int (iI ov), .int (iI sz), .ref aM, .int (iI tz), .ref aA, .int (iI dm), .ref aD, .ref aB, .ref aV, .ref aE])), (aK, .inl (cI, 120, .inl K)), (aS, .inl (cI, 120, .inl Ln)), (aU, .inl (cI, 120, .inl TL)), (aY, .inl (cI, 120, .inl TY))]) ⟨xe, xb, xml, xo, xt⟩ (c_TripleLinesModel_isTerm l D cI mM tm aT om aO tn aK aS aC aU aG aY aX qn aP tr rg ll p f ov sz aM tz aA dm aD aB aV aE t (by first | assumption | omega) (by first | assumption | omega)) k_TripleLinesModel_isTerm mw_TripleLinesModel_223 ⟨Nat.le_of_ble_eq_true rfl, Nat.le_of_ble_eq_true rfl⟩ xK xP xD xS xA rfl xl.1 rfl (Nat.le_of_ble_eq_true rfl) d_TripleLinesModel_term_2 ⟨Nat.zero_le _, Nat.zero_le _⟩ [0] [1, 2, 3, 4] [4, 0, 1, 2, 3] rfl rfl (by decide) (by decide) (by decide) (by decide) (fun _ => rfl) rfl rfl rfl ?_
  clear xP xD xS
  intro z_2 u H locs hr_3 hw_1 xP xD xS
  try dsimp only at hw_1
  replace xP : va_P D classes [(mM, .inr (6, [.int (iI tm), .ref aT, .int (iI om), .ref aO, .int (iI tn), .ref aK, .ref aS, .ref aC, .ref aU, .ref aG, .ref aY, .ref aX, .int (iI qn), .ref aP, .int (iI tr), .int (iI rg), .int (iI ll), .int (iI p), .int (iI f), .int (iI ov), .int (iI sz), .ref aM, .int (iI tz), .ref aA, .int (iI dm), .ref aD, .ref aB, .ref aV, .ref aE])), (aK, .inl (cI, 120, .inl K)), (aS, .inl (cI, 120, .inl Ln)), (aU, .inl (cI, 120, .inl TL)), (aY, .inl (cI, 120, .inl TY))] H := xP
  replace xD : va_D xA0 [(mM, .inr (6, [.int (iI tm), .ref aT, .int (iI om), .ref aO, .int (iI tn), .ref aK, .ref aS, .ref aC, .ref aU, .ref aG, .ref aY, .ref aX, .int (iI qn), .ref aP, .int (iI tr), .int (iI rg), .int (iI ll), .int (iI p), .int (iI f), .int (iI ov), .int (iI sz), .ref aM, .int (iI tz), .ref aA, .int (iI dm), .ref aD, .ref aB, .ref aV, .ref aE])), (aK, .inl (cI, 120, .inl K)), (aS, .inl (cI, 120, .inl Ln)), (aU, .inl (cI, 120, .inl TL)), (aY, .inl (cI, 120, .inl TY))] := xD
  rcases hw_1 with ⟨rfl, hb_4⟩ | ⟨rfl, hb_5⟩
  · refine tk_if_ne (tgt := 10) xe xb d_TripleLinesModel_term_5 (by decide) (by omega) (fun c_6 => ?_) (fun c_6 => absurd c_6 (by omega))
    refine lv_iload_n xe xb d_TripleLinesModel_term_10 rfl (lv_at xl 2 rfl) ?_
    by_cases c_7 : w < 0 ∨ 4 < w
    · refine tk_tabOut (tgt := 114) xe xb d_TripleLinesModel_term_11 (by omega) c_7 (by decide) ?_
      refine lv_iconst (v := iI (-1)) xe xb d_TripleLinesModel_term_114 rfl ?_
      exact xret _ _ _ _ (-1) () d_TripleLinesModel_term_115 trivial (by omega) (by unfold tAnM; rw [if_pos (by omega)]; (repeat' split) <;> omega) xP xD xS
    by_cases c_8 : w = 0
    · refine tk_tabIn (off := 33) (tgt := 44) xe xb d_TripleLinesModel_term_11 (by omega) 0 c_8 (by decide) (by decide) rfl (by decide) ?_
      refine lv_aload_n xe xb d_TripleLinesModel_term_44 rfl (lv_at xl 0 rfl) ?_
      refine va_get (D := D) (ci := 6) (v := .ref aK) (C := R_TripleLinesModel) (T := F_TripleLinesModel) (N := 29) xe xb xt i_TripleLinesModel xo xK xP 0 rfl rfl 5 (by decide) (xt _ mw_TripleLinesModel_16) (fun _ h9 => h9) rfl d_TripleLinesModel_term_45 ?_
      refine lv_iload_n xe xb d_TripleLinesModel_term_48 rfl (lv_at xl 1 rfl) ?_
      refine tk_iald xe xb xK xP 1 0 rfl rfl (by omega) d_TripleLinesModel_term_49 ?_
      have hr_9 := tI_rg K t
      exact xret _ _ _ _ (tI K t) () d_TripleLinesModel_term_50 trivial (by omega) (by unfold tAnM; rw [if_pos (by omega)]; (repeat' split) <;> omega) xP xD xS
    by_cases c_10 : w = 1
    · refine tk_tabIn (off := 40) (tgt := 51) xe xb d_TripleLinesModel_term_11 (by omega) 1 c_10 (by decide) (by decide) rfl (by decide) ?_
      refine lv_aload_n xe xb d_TripleLinesModel_term_51 rfl (lv_at xl 0 rfl) ?_
      refine va_get (D := D) (ci := 6) (v := .ref aU) (C := R_TripleLinesModel) (T := F_TripleLinesModel) (N := 29) xe xb xt i_TripleLinesModel xo xK xP 0 rfl rfl 8 (by decide) (xt _ mw_TripleLinesModel_25) (fun _ h9 => h9) rfl d_TripleLinesModel_term_52 ?_
      refine lv_iload_n xe xb d_TripleLinesModel_term_55 rfl (lv_at xl 1 rfl) ?_
      refine tk_iald xe xb xK xP 3 0 rfl rfl (by omega) d_TripleLinesModel_term_56 ?_
      have hr_11 := tI_rg TL t
      refine tk_if_le (tgt := 64) xe xb d_TripleLinesModel_term_57 (by decide) (by omega) (fun c_12 => ?_) (fun c_12 => ?_)
      · refine lv_aload_n xe xb d_TripleLinesModel_term_64 rfl (lv_at xl 0 rfl) ?_
        refine va_get (D := D) (ci := 6) (v := .ref aY) (C := R_TripleLinesModel) (T := F_TripleLinesModel) (N := 29) xe xb xt i_TripleLinesModel xo xK xP 0 rfl rfl 10 (by decide) (xt _ mw_TripleLinesModel_31) (fun _ h9 => h9) rfl d_TripleLinesModel_term_65 ?_
        refine lv_iload_n xe xb d_TripleLinesModel_term_68 rfl (lv_at xl 1 rfl) ?_
        refine tk_iald xe xb xK xP 4 0 rfl rfl (by omega) d_TripleLinesModel_term_69 ?_
        have hr_13 := tI_rg TY t
        refine tk_if_lt (tgt := 77) xe xb d_TripleLinesModel_term_70 (by decide) (by omega) (fun c_14 => ?_) (fun c_14 => ?_)
        · refine lv_iconst (v := iI (0)) xe xb d_TripleLinesModel_term_77 rfl ?_
          exact xret _ _ _ _ 0 () d_TripleLinesModel_term_78 trivial (by omega) (by unfold tAnM; rw [if_pos (by omega)]; (repeat' split) <;> omega) xP xD xS
        · refine lv_iconst (v := iI (2)) xe xb d_TripleLinesModel_term_73 rfl ?_
          refine lv_goto (tgt := 78) xe xb d_TripleLinesModel_term_74 (by decide) ?_
          exact xret _ _ _ _ 2 () d_TripleLinesModel_term_78 trivial (by omega) (by unfold tAnM; rw [if_pos (by omega)]; (repeat' split) <;> omega) xP xD xS
      · refine lv_iconst (v := iI (1)) xe xb d_TripleLinesModel_term_60 rfl ?_
        refine lv_goto (tgt := 78) xe xb d_TripleLinesModel_term_61 (by decide) ?_
        exact xret _ _ _ _ 1 () d_TripleLinesModel_term_78 trivial (by omega) (by unfold tAnM; rw [if_pos (by omega)]; (repeat' split) <;> omega) xP xD xS
    by_cases c_15 : w = 2
    · refine tk_tabIn (off := 68) (tgt := 79) xe xb d_TripleLinesModel_term_11 (by omega) 2 c_15 (by decide) (by decide) rfl (by decide) ?_
      refine lv_aload_n xe xb d_TripleLinesModel_term_79 rfl (lv_at xl 0 rfl) ?_
      refine va_get (D := D) (ci := 6) (v := .ref aS) (C := R_TripleLinesModel) (T := F_TripleLinesModel) (N := 29) xe xb xt i_TripleLinesModel xo xK xP 0 rfl rfl 6 (by decide) (xt _ mw_TripleLinesModel_19) (fun _ h9 => h9) rfl d_TripleLinesModel_term_80 ?_
      refine lv_iload_n xe xb d_TripleLinesModel_term_83 rfl (lv_at xl 1 rfl) ?_
      refine tk_iald xe xb xK xP 2 0 rfl rfl (by omega) d_TripleLinesModel_term_84 ?_
      have hr_16 := tI_rg Ln t
      exact xret _ _ _ _ (tI Ln t) () d_TripleLinesModel_term_85 trivial (by omega) (by unfold tAnM; rw [if_pos (by omega)]; (repeat' split) <;> omega) xP xD xS
    by_cases c_17 : w = 3
    · refine tk_tabIn (off := 75) (tgt := 86) xe xb d_TripleLinesModel_term_11 (by omega) 3 c_17 (by decide) (by decide) rfl (by decide) ?_
      refine lv_aload_n xe xb d_TripleLinesModel_term_86 rfl (lv_at xl 0 rfl) ?_
      refine va_get (D := D) (ci := 6) (v := .ref aU) (C := R_TripleLinesModel) (T := F_TripleLinesModel) (N := 29) xe xb xt i_TripleLinesModel xo xK xP 0 rfl rfl 8 (by decide) (xt _ mw_TripleLinesModel_25) (fun _ h9 => h9) rfl d_TripleLinesModel_term_87 ?_
      refine lv_iload_n xe xb d_TripleLinesModel_term_90 rfl (lv_at xl 1 rfl) ?_
      refine tk_iald xe xb xK xP 3 0 rfl rfl (by omega) d_TripleLinesModel_term_91 ?_
      have hr_18 := tI_rg TL t
      exact xret _ _ _ _ (tI TL t) () d_TripleLinesModel_term_92 trivial (by omega) (by unfold tAnM; rw [if_pos (by omega)]; (repeat' split) <;> omega) xP xD xS
    have c_19 : w = 4 := by omega
    refine tk_tabIn (off := 82) (tgt := 93) xe xb d_TripleLinesModel_term_11 (by omega) 4 c_19 (by decide) (by decide) rfl (by decide) ?_
    refine lv_aload_n xe xb d_TripleLinesModel_term_93 rfl (lv_at xl 0 rfl) ?_
    refine va_get (D := D) (ci := 6) (v := .ref aY) (C := R_TripleLinesModel) (T := F_TripleLinesModel) (N := 29) xe xb xt i_TripleLinesModel xo xK xP 0 rfl rfl 10 (by decide) (xt _ mw_TripleLinesModel_31) (fun _ h9 => h9) rfl d_TripleLinesModel_term_94 ?_
    refine lv_iload_n xe xb d_TripleLinesModel_term_97 rfl (lv_at xl 1 rfl) ?_
    refine tk_iald xe xb xK xP 4 0 rfl rfl (by omega) d_TripleLinesModel_term_98 ?_
    have hr_20 := tI_rg TY t
    refine tk_if_ge (tgt := 107) xe xb d_TripleLinesModel_term_99 (by decide) (by omega) (fun c_21 => ?_) (fun c_21 => ?_)
    · refine lv_aload_n xe xb d_TripleLinesModel_term_107 rfl (lv_at xl 0 rfl) ?_
      refine va_get (D := D) (ci := 6) (v := .ref aY) (C := R_TripleLinesModel) (T := F_TripleLinesModel) (N := 29) xe xb xt i_TripleLinesModel xo xK xP 0 rfl rfl 10 (by decide) (xt _ mw_TripleLinesModel_31) (fun _ h9 => h9) rfl d_TripleLinesModel_term_108 ?_
      refine lv_iload_n xe xb d_TripleLinesModel_term_111 rfl (lv_at xl 1 rfl) ?_
      refine tk_iald xe xb xK xP 4 0 rfl rfl (by omega) d_TripleLinesModel_term_112 ?_
      have hr_22 := tI_rg TY t
      exact xret _ _ _ _ (tI TY t) () d_TripleLinesModel_term_113 trivial (by omega) (by unfold tAnM; rw [if_pos (by omega)]; (repeat' split) <;> omega) xP xD xS
    · refine lv_bipush (v := iI (-2)) xe xb d_TripleLinesModel_term_102 (by decide) ?_
      refine lv_goto (tgt := 113) xe xb d_TripleLinesModel_term_104 (by decide) ?_
      exact xret _ _ _ _ (-2) () d_TripleLinesModel_term_113 trivial (by omega) (by unfold tAnM; rw [if_pos (by omega)]; (repeat' split) <;> omega) xP xD xS
  · refine tk_if_ne (tgt := 10) xe xb d_TripleLinesModel_term_5 (by decide) (by omega) (fun c_23 => absurd c_23 (by omega)) (fun c_23 => ?_)
    refine lv_iconst (v := iI (-1)) xe xb d_TripleLinesModel_term_8 rfl ?_
    exact xret _ _ _ _ (-1) () d_TripleLinesModel_term_9 trivial (by omega) (by unfold tAnM; rw [if_neg (by omega)]) xP xD xS
set_option maxHeartbeats 4000000 in
set_option maxRecDepth 100000 in
theorem c_TripleLinesModel_code (l : Launch) (D : va_G) (cI : ClassId) (mM : Nat) (tm : Int) (aT : Nat) (om : Int) (aO : Nat) (tn : Int) (aK : Nat) (aS : Nat) (aC : Nat) (aU : Nat) (aG : Nat) (aY : Nat) (aX : Nat) (qn : Int) (aP : Nat) (tr : Int) (rg : Int) (ll : Int) (p : Int) (f : Int) (ov : Int) (sz : Int) (aM : Nat) (tz : Int) (aA : Nat) (dm : Int) (aD : Nat) (aB : Nat) (aV : Nat) (aE : Nat) (Ln : Nat → Int32) (C : Nat → Int32) (t : Int) (i : Int) (TL : Nat → Int32) (hs : tOk Ln TL tn) (ht9 : -2147483648 ≤ t ∧ t < 2147483648) (hi9 : -2147483648 ≤ i ∧ i < 2147483648) : CtI l D [(cI, .int)] y_TripleLinesModel_code b_TripleLinesModel_code 3 (some .int) 2 [.ref mM, .int (iI t), .int (iI i)] [(mM, .inr (6, [.int (iI tm), .ref aT, .int (iI om), .ref aO, .int (iI tn), .ref aK, .ref aS, .ref aC, .ref aU, .ref aG, .ref aY, .ref aX, .int (iI qn), .ref aP, .int (iI tr), .int (iI rg), .int (iI ll), .int (iI p), .int (iI f), .int (iI ov), .int (iI sz), .ref aM, .int (iI tz), .ref aA, .int (iI dm), .ref aD, .ref aB, .ref aV, .ref aE])), (aS, .inl (cI, 120, .inl Ln)), (aC, .inl (cI, 4800, .inl C))] (S := Unit) (fun z u => z = cAnM Ln C tn t i) (fun u => [(mM, .inr (6, [.int (iI tm), .ref aT, .int (iI om), .ref aO, .int (iI tn), .ref aK, .ref aS, .ref aC, .ref aU, .ref aG, .ref aY, .ref aX, .int (iI qn), .ref aP, .int (iI tr), .int (iI rg), .int (iI ll), .int (iI p), .int (iI f), .int (iI ov), .int (iI sz), .ref aM, .int (iI tz), .ref aA, .int (iI dm), .ref aD, .ref aB, .ref aV, .ref aE])), (aS, .inl (cI, 120, .inl Ln)), (aC, .inl (cI, 4800, .inl C))]) := by
  refine CtI.walk (fun _ => True) (fun z _ => vp_nar_int _) (by decide) (Nat.le_of_ble_eq_true rfl) ?_
  intro xp xe0 xs xm xar xbelow xmeth xc xA0 xQ xe xb xml xo xt xP xK xD xA xret ls xl xS
  have xl : lv_has ls 3 [(0, .ref mM), (1, .int (iI t)), (2, .int (iI i))] := xl
  have xo : xs.vm.findClass R_TripleLinesModel = some xm.cls := xo
  have hz : 0 ≤ tn ∧ tn ≤ 120 := ⟨hs.1, hs.2.1⟩
  refine lv_aload_n xe xb d_TripleLinesModel_code_0 rfl (lv_at xl 0 rfl) ?_
  refine lv_iload_n xe xb d_TripleLinesModel_code_1 rfl (lv_at xl 1 rfl) ?_
  refine tk_callVi (As := [.int (iI t)]) (rest := []) (wr := [(aS, .inl (cI, 120, .inl Ln)), (aC, .inl (cI, 4800, .inl C))]) (wn := fun u => [(mM, .inr (6, [.int (iI tm), .ref aT, .int (iI om), .ref aO, .int (iI tn), .ref aK, .ref aS, .ref aC, .ref aU, .ref aG, .ref aY, .ref aX, .int (iI qn), .ref aP, .int (iI tr), .int (iI rg), .int (iI ll), .int (iI p), .int (iI f), .int (iI ov), .int (iI sz), .ref aM, .int (iI tz), .ref aA, .int (iI dm), .ref aD, .ref aB, .ref aV, .ref aE])), (aS, .inl (cI, 120, .inl Ln)), (aC, .inl (cI, 4800, .inl C))]) ⟨xe, xb, xml, xo, xt⟩ (c_TripleLinesModel_isTerm l D cI mM tm aT om aO tn aK aS aC aU aG aY aX qn aP tr rg ll p f ov sz aM tz aA dm aD aB aV aE t (by first | assumption | omega) (by first | assumption | omega)) k_TripleLinesModel_isTerm mw_TripleLinesModel_223 ⟨Nat.le_of_ble_eq_true rfl, Nat.le_of_ble_eq_true rfl⟩ xK xP xD xS xA rfl xl.1 rfl (Nat.le_of_ble_eq_true rfl) d_TripleLinesModel_code_2 ⟨Nat.zero_le _, Nat.zero_le _⟩ [0] [1, 2] [2, 0, 1] rfl rfl (by decide) (by decide) (by decide) (by decide) (fun _ => rfl) rfl rfl rfl ?_
  clear xP xD xS
  intro z_2 u H locs hr_3 hw_1 xP xD xS
  try dsimp only at hw_1
  replace xP : va_P D classes [(mM, .inr (6, [.int (iI tm), .ref aT, .int (iI om), .ref aO, .int (iI tn), .ref aK, .ref aS, .ref aC, .ref aU, .ref aG, .ref aY, .ref aX, .int (iI qn), .ref aP, .int (iI tr), .int (iI rg), .int (iI ll), .int (iI p), .int (iI f), .int (iI ov), .int (iI sz), .ref aM, .int (iI tz), .ref aA, .int (iI dm), .ref aD, .ref aB, .ref aV, .ref aE])), (aS, .inl (cI, 120, .inl Ln)), (aC, .inl (cI, 4800, .inl C))] H := xP
  replace xD : va_D xA0 [(mM, .inr (6, [.int (iI tm), .ref aT, .int (iI om), .ref aO, .int (iI tn), .ref aK, .ref aS, .ref aC, .ref aU, .ref aG, .ref aY, .ref aX, .int (iI qn), .ref aP, .int (iI tr), .int (iI rg), .int (iI ll), .int (iI p), .int (iI f), .int (iI ov), .int (iI sz), .ref aM, .int (iI tz), .ref aA, .int (iI dm), .ref aD, .ref aB, .ref aV, .ref aE])), (aS, .inl (cI, 120, .inl Ln)), (aC, .inl (cI, 4800, .inl C))] := xD
  rcases hw_1 with ⟨rfl, Ht⟩ | ⟨rfl, Ht⟩
  · refine tk_if_eq (tgt := 38) xe xb d_TripleLinesModel_code_5 (by decide) (by omega) (fun c_4 => absurd c_4 (by omega)) (fun c_4 => ?_)
    have htt := hs.2.2 t Ht.1 Ht.2
    refine lv_iload_n xe xb d_TripleLinesModel_code_8 rfl (lv_at xl 2 rfl) ?_
    refine lv_iconst (v := iI (0)) xe xb d_TripleLinesModel_code_9 rfl ?_
    refine lv_aload_n xe xb d_TripleLinesModel_code_10 rfl (lv_at xl 0 rfl) ?_
    refine va_get (D := D) (ci := 6) (v := .ref aS) (C := R_TripleLinesModel) (T := F_TripleLinesModel) (N := 29) xe xb xt i_TripleLinesModel xo xK xP 0 rfl rfl 6 (by decide) (xt _ mw_TripleLinesModel_19) (fun _ h9 => h9) rfl d_TripleLinesModel_code_11 ?_
    refine lv_iload_n xe xb d_TripleLinesModel_code_14 rfl (lv_at xl 1 rfl) ?_
    refine tk_iald xe xb xK xP 1 0 rfl rfl (by omega) d_TripleLinesModel_code_15 ?_
    have hr_5 := tI_rg Ln t
    refine lv_iconst (v := iI (1)) xe xb d_TripleLinesModel_code_16 rfl ?_
    refine tk_isub xe xb d_TripleLinesModel_code_17 ?_
    refine tk_callSi (As := [.int (iI i), .int (iI 0), .int (iI ((tI Ln t) - 1))]) (rest := []) (wr := [(mM, .inr (6, [.int (iI tm), .ref aT, .int (iI om), .ref aO, .int (iI tn), .ref aK, .ref aS, .ref aC, .ref aU, .ref aG, .ref aY, .ref aX, .int (iI qn), .ref aP, .int (iI tr), .int (iI rg), .int (iI ll), .int (iI p), .int (iI f), .int (iI ov), .int (iI sz), .ref aM, .int (iI tz), .ref aA, .int (iI dm), .ref aD, .ref aB, .ref aV, .ref aE])), (aS, .inl (cI, 120, .inl Ln)), (aC, .inl (cI, 4800, .inl C))]) (wn := fun u => [(mM, .inr (6, [.int (iI tm), .ref aT, .int (iI om), .ref aO, .int (iI tn), .ref aK, .ref aS, .ref aC, .ref aU, .ref aG, .ref aY, .ref aX, .int (iI qn), .ref aP, .int (iI tr), .int (iI rg), .int (iI ll), .int (iI p), .int (iI f), .int (iI ov), .int (iI sz), .ref aM, .int (iI tz), .ref aA, .int (iI dm), .ref aD, .ref aB, .ref aV, .ref aE])), (aS, .inl (cI, 120, .inl Ln)), (aC, .inl (cI, 4800, .inl C))]) ⟨xe, xb, xml, xo, xt⟩ (c_TripleLinesModel_in l D cI i 0 ((tI Ln t) - 1) (by first | assumption | omega) (by first | assumption | omega) (by first | assumption | omega)) k_TripleLinesModel_in mw_TripleLinesModel_63 ⟨Nat.le_of_ble_eq_true rfl, Nat.le_of_ble_eq_true rfl⟩ xK xP xD xS xA rfl xl.1 rfl (Nat.le_of_ble_eq_true rfl) d_TripleLinesModel_code_18 ⟨Nat.zero_le _, Nat.zero_le _⟩ [] [0, 1, 2] [0, 1, 2] rfl rfl (by decide) (by decide) (by decide) (by decide) (fun _ => rfl) ?_
    clear xP xD xS
    intro z_7 u H locs hr_8 hw_6 xP xD xS
    try dsimp only at hw_6
    replace xP : va_P D classes [(mM, .inr (6, [.int (iI tm), .ref aT, .int (iI om), .ref aO, .int (iI tn), .ref aK, .ref aS, .ref aC, .ref aU, .ref aG, .ref aY, .ref aX, .int (iI qn), .ref aP, .int (iI tr), .int (iI rg), .int (iI ll), .int (iI p), .int (iI f), .int (iI ov), .int (iI sz), .ref aM, .int (iI tz), .ref aA, .int (iI dm), .ref aD, .ref aB, .ref aV, .ref aE])), (aS, .inl (cI, 120, .inl Ln)), (aC, .inl (cI, 4800, .inl C))] H := xP
    replace xD : va_D xA0 [(mM, .inr (6, [.int (iI tm), .ref aT, .int (iI om), .ref aO, .int (iI tn), .ref aK, .ref aS, .ref aC, .ref aU, .ref aG, .ref aY, .ref aX, .int (iI qn), .ref aP, .int (iI tr), .int (iI rg), .int (iI ll), .int (iI p), .int (iI f), .int (iI ov), .int (iI sz), .ref aM, .int (iI tz), .ref aA, .int (iI dm), .ref aD, .ref aB, .ref aV, .ref aE])), (aS, .inl (cI, 120, .inl Ln)), (aC, .inl (cI, 4800, .inl C))] := xD
    rcases hw_6 with ⟨rfl, hb_9⟩ | ⟨rfl, hb_10⟩
    · refine tk_if_eq (tgt := 38) xe xb d_TripleLinesModel_code_21 (by decide) (by omega) (fun c_11 => absurd c_11 (by omega)) (fun c_11 => ?_)
      refine lv_aload_n xe xb d_TripleLinesModel_code_24 rfl (lv_at xl 0 rfl) ?_
      refine va_get (D := D) (ci := 6) (v := .ref aC) (C := R_TripleLinesModel) (T := F_TripleLinesModel) (N := 29) xe xb xt i_TripleLinesModel xo xK xP 0 rfl rfl 7 (by decide) (xt _ mw_TripleLinesModel_22) (fun _ h9 => h9) rfl d_TripleLinesModel_code_25 ?_
      refine lv_bipush (v := iI (40)) xe xb d_TripleLinesModel_code_28 (by decide) ?_
      refine lv_iload_n xe xb d_TripleLinesModel_code_30 rfl (lv_at xl 1 rfl) ?_
      refine tk_imul xe xb d_TripleLinesModel_code_31 ?_
      refine lv_iload_n xe xb d_TripleLinesModel_code_32 rfl (lv_at xl 2 rfl) ?_
      refine tk_iadd xe xb d_TripleLinesModel_code_33 ?_
      refine tk_iald xe xb xK xP 2 0 rfl rfl (by omega) d_TripleLinesModel_code_34 ?_
      have hr_12 := tI_rg C ((40 * t) + i)
      refine lv_goto (tgt := 39) xe xb d_TripleLinesModel_code_35 (by decide) ?_
      exact xret _ _ _ _ (tI C ((40 * t) + i)) () d_TripleLinesModel_code_39 trivial (by omega) (by unfold cAnM; first | (rw [if_neg (by omega)]) | (rw [if_pos (by omega)])) xP xD xS
    · refine tk_if_eq (tgt := 38) xe xb d_TripleLinesModel_code_21 (by decide) (by omega) (fun c_13 => ?_) (fun c_13 => absurd c_13 (by omega))
      refine lv_iconst (v := iI (-1)) xe xb d_TripleLinesModel_code_38 rfl ?_
      exact xret _ _ _ _ (-1) () d_TripleLinesModel_code_39 trivial (by omega) (by unfold cAnM; first | (rw [if_neg (by omega)]) | (rw [if_pos (by omega)])) xP xD xS
  · refine tk_if_eq (tgt := 38) xe xb d_TripleLinesModel_code_5 (by decide) (by omega) (fun c_14 => ?_) (fun c_14 => absurd c_14 (by omega))
    refine lv_iconst (v := iI (-1)) xe xb d_TripleLinesModel_code_38 rfl ?_
    exact xret _ _ _ _ (-1) () d_TripleLinesModel_code_39 trivial (by omega) (by unfold cAnM; first | (rw [if_neg (by omega)]) | (rw [if_pos (by omega)])) xP xD xS
set_option maxHeartbeats 4000000 in
set_option maxRecDepth 100000 in
theorem c_TripleLinesModel_find (l : Launch) (D : va_G) (cI : ClassId) (mM : Nat) (tm : Int) (aT : Nat) (om : Int) (aO : Nat) (tn : Int) (aK : Nat) (aS : Nat) (aC : Nat) (aU : Nat) (aG : Nat) (aY : Nat) (aX : Nat) (qn : Int) (aP : Nat) (tr : Int) (rg : Int) (ll : Int) (p : Int) (f : Int) (ov : Int) (sz : Int) (aM : Nat) (tz : Int) (aA : Nat) (dm : Int) (aD : Nat) (aB : Nat) (aV : Nat) (aE : Nat) (P : Nat → Int32) (a : Int) (b : Int) (c : Int) (d : Int) (hqz : 0 ≤ qn ∧ qn ≤ 80) (ha9 : -2147483648 ≤ a ∧ a < 2147483648) (hb9 : -2147483648 ≤ b ∧ b < 2147483648) (hc9 : -2147483648 ≤ c ∧ c < 2147483648) (hd9 : -2147483648 ≤ d ∧ d < 2147483648) : CtI l D [(cI, .int)] y_TripleLinesModel_find b_TripleLinesModel_find 6 (some .int) 0 [.ref mM, .int (iI a), .int (iI b), .int (iI c), .int (iI d)] [(mM, .inr (6, [.int (iI tm), .ref aT, .int (iI om), .ref aO, .int (iI tn), .ref aK, .ref aS, .ref aC, .ref aU, .ref aG, .ref aY, .ref aX, .int (iI qn), .ref aP, .int (iI tr), .int (iI rg), .int (iI ll), .int (iI p), .int (iI f), .int (iI ov), .int (iI sz), .ref aM, .int (iI tz), .ref aA, .int (iI dm), .ref aD, .ref aB, .ref aV, .ref aE])), (aP, .inl (cI, 320, .inl P))] (S := Unit) (fun z u => z = if idxF (lst (qdAt P) qn) 0 (a, b, c, d) = -1 then -2 else idxF (lst (qdAt P) qn) 0 (a, b, c, d)) (fun u => [(mM, .inr (6, [.int (iI tm), .ref aT, .int (iI om), .ref aO, .int (iI tn), .ref aK, .ref aS, .ref aC, .ref aU, .ref aG, .ref aY, .ref aX, .int (iI qn), .ref aP, .int (iI tr), .int (iI rg), .int (iI ll), .int (iI p), .int (iI f), .int (iI ov), .int (iI sz), .ref aM, .int (iI tz), .ref aA, .int (iI dm), .ref aD, .ref aB, .ref aV, .ref aE])), (aP, .inl (cI, 320, .inl P))]) := by
  refine CtI.walk (fun _ => True) (fun z _ => vp_nar_int _) (by decide) (Nat.le_of_ble_eq_true rfl) ?_
  intro xp xe0 xs xm xar xbelow xmeth xc xA0 xQ xe xb xml xo xt xP xK xD xA xret ls xl xS
  have xl : lv_has ls 6 [(0, .ref mM), (1, .int (iI a)), (2, .int (iI b)), (3, .int (iI c)), (4, .int (iI d))] := xl
  have xo : xs.vm.findClass R_TripleLinesModel = some xm.cls := xo
  refine lv_iconst (v := iI (0)) xe xb d_TripleLinesModel_find_0 rfl ?_
  refine lv_istore (lv' := [(5, .int (iI 0)), (0, .ref mM), (1, .int (iI a)), (2, .int (iI b)), (3, .int (iI c)), (4, .int (iI d))]) xe xb d_TripleLinesModel_find_1 xl (by decide) rfl ?_
  clear xl
  intro ls xl
  have loop_3 : ∀ (n9 : Nat) (i : Int), (qn - i).toNat < n9 → (0 ≤ i ∧ i ≤ qn) → (idxF ((lst (qdAt P) qn).drop i.toNat) i (a, b, c, d) = idxF (lst (qdAt P) qn) 0 (a, b, c, d)) → ∀ (H : Heap) (locs : List Loc), va_P D classes [(mM, .inr (6, [.int (iI tm), .ref aT, .int (iI om), .ref aO, .int (iI tn), .ref aK, .ref aS, .ref aC, .ref aU, .ref aG, .ref aY, .ref aX, .int (iI qn), .ref aP, .int (iI tr), .int (iI rg), .int (iI ll), .int (iI p), .int (iI f), .int (iI ov), .int (iI sz), .ref aM, .int (iI tz), .ref aA, .int (iI dm), .ref aD, .ref aB, .ref aV, .ref aE])), (aP, .inl (cI, 320, .inl P))] H → va_D xA0 [(mM, .inr (6, [.int (iI tm), .ref aT, .int (iI om), .ref aO, .int (iI tn), .ref aK, .ref aS, .ref aC, .ref aU, .ref aG, .ref aY, .ref aX, .int (iI qn), .ref aP, .int (iI tr), .int (iI rg), .int (iI ll), .int (iI p), .int (iI f), .int (iI ov), .int (iI sz), .ref aM, .int (iI tz), .ref aA, .int (iI dm), .ref aD, .ref aB, .ref aV, .ref aE])), (aP, .inl (cI, 320, .inl P))] → va_S xA0 xs.heap H locs → ∀ ls : Array Slot, lv_has ls 6 [(0, .ref mM), (1, .int (iI a)), (2, .int (iI b)), (3, .int (iI c)), (4, .int (iI d)), (5, .int (iI i))] → W xp l xe0 (tk_rm 0) xs xm xar xbelow xmeth xc H locs 0 0 xQ (F0 xm 3 ls []) := by
    intro n9
    induction n9 with
    | zero => intro i h9; exact absurd h9 (Nat.not_lt_zero _)
    | succ n9 ih9 =>
      intro i hm9 hi h1 H locs xP xD xS ls xl
      have ih_3 := ih9
      have hm_3 := hm9
      refine lv_iload xe xb d_TripleLinesModel_find_3 (lv_at xl 5 rfl) ?_
      refine lv_aload_n xe xb d_TripleLinesModel_find_5 rfl (lv_at xl 0 rfl) ?_
      refine va_get (D := D) (ci := 6) (v := .int (iI qn)) (C := R_TripleLinesModel) (T := F_TripleLinesModel) (N := 29) xe xb xt i_TripleLinesModel xo xK xP 0 rfl rfl 12 (by decide) (xt _ mw_TripleLinesModel_211) (fun _ h9 => h9) rfl d_TripleLinesModel_find_6 ?_
      refine tk_icmp_ge (tgt := 80) xe xb d_TripleLinesModel_find_9 (by decide) (by omega) (fun C9 => ?_) (fun C9 => ?_)
      · refine lv_bipush (v := iI (-2)) xe xb d_TripleLinesModel_find_80 (by decide) ?_
        exact xret _ _ _ _ (-2) () d_TripleLinesModel_find_82 trivial (by omega) (by rw [← h1, idx_end C9, if_pos rfl]) xP xD xS
      · refine lv_aload_n xe xb d_TripleLinesModel_find_12 rfl (lv_at xl 0 rfl) ?_
        refine va_get (D := D) (ci := 6) (v := .ref aP) (C := R_TripleLinesModel) (T := F_TripleLinesModel) (N := 29) xe xb xt i_TripleLinesModel xo xK xP 0 rfl rfl 13 (by decide) (xt _ mw_TripleLinesModel_37) (fun _ h9 => h9) rfl d_TripleLinesModel_find_13 ?_
        refine lv_iconst (v := iI (4)) xe xb d_TripleLinesModel_find_16 rfl ?_
        refine lv_iload xe xb d_TripleLinesModel_find_17 (lv_at xl 5 rfl) ?_
        refine tk_imul xe xb d_TripleLinesModel_find_19 ?_
        refine tk_iald xe xb xK xP 1 0 rfl rfl (by omega) d_TripleLinesModel_find_20 ?_
        have hr_1 := tI_rg P (4 * i)
        refine lv_iload_n xe xb d_TripleLinesModel_find_21 rfl (lv_at xl 1 rfl) ?_
        refine tk_icmp_ne (tgt := 74) xe xb d_TripleLinesModel_find_22 (by decide) (by omega) (fun C22 => ?_) (fun C22 => ?_)
        · refine tk_iinc (v := (i + 1)) (lv' := [(5, .int (iI (i + 1))), (0, .ref mM), (1, .int (iI a)), (2, .int (iI b)), (3, .int (iI c)), (4, .int (iI d))]) xe xb d_TripleLinesModel_find_74 xl (k := 5) rfl rfl (by decide) rfl ?_
          clear xl
          intro ls xl
          refine lv_goto (tgt := 3) xe xb d_TripleLinesModel_find_77 (by decide) ?_
          exact ih_3 (i + 1) (by omega) (by first | assumption | omega) (by rw [← h1, idx_miss hi.1 (by omega) (fun h9 => by simp only [qdAt, Prod.mk.injEq, Int.mul_comm i 4] at h9; omega)]) _ _ xP xD xS ls (lv_sub xl [1, 2, 3, 4, 5, 0] rfl)
        · refine lv_aload_n xe xb d_TripleLinesModel_find_25 rfl (lv_at xl 0 rfl) ?_
          refine va_get (D := D) (ci := 6) (v := .ref aP) (C := R_TripleLinesModel) (T := F_TripleLinesModel) (N := 29) xe xb xt i_TripleLinesModel xo xK xP 0 rfl rfl 13 (by decide) (xt _ mw_TripleLinesModel_37) (fun _ h9 => h9) rfl d_TripleLinesModel_find_26 ?_
          refine lv_iconst (v := iI (4)) xe xb d_TripleLinesModel_find_29 rfl ?_
          refine lv_iload xe xb d_TripleLinesModel_find_30 (lv_at xl 5 rfl) ?_
          refine tk_imul xe xb d_TripleLinesModel_find_32 ?_
          refine lv_iconst (v := iI (1)) xe xb d_TripleLinesModel_find_33 rfl ?_
          refine tk_iadd xe xb d_TripleLinesModel_find_34 ?_
          refine tk_iald xe xb xK xP 1 0 rfl rfl (by omega) d_TripleLinesModel_find_35 ?_
          have hr_2 := tI_rg P ((4 * i) + 1)
          refine lv_iload_n xe xb d_TripleLinesModel_find_36 rfl (lv_at xl 2 rfl) ?_
          refine tk_icmp_ne (tgt := 74) xe xb d_TripleLinesModel_find_37 (by decide) (by omega) (fun C37 => ?_) (fun C37 => ?_)
          · refine tk_iinc (v := (i + 1)) (lv' := [(5, .int (iI (i + 1))), (0, .ref mM), (1, .int (iI a)), (2, .int (iI b)), (3, .int (iI c)), (4, .int (iI d))]) xe xb d_TripleLinesModel_find_74 xl (k := 5) rfl rfl (by decide) rfl ?_
            clear xl
            intro ls xl
            refine lv_goto (tgt := 3) xe xb d_TripleLinesModel_find_77 (by decide) ?_
            exact ih_3 (i + 1) (by omega) (by first | assumption | omega) (by rw [← h1, idx_miss hi.1 (by omega) (fun h9 => by simp only [qdAt, Prod.mk.injEq, Int.mul_comm i 4] at h9; omega)]) _ _ xP xD xS ls (lv_sub xl [1, 2, 3, 4, 5, 0] rfl)
          · refine lv_aload_n xe xb d_TripleLinesModel_find_40 rfl (lv_at xl 0 rfl) ?_
            refine va_get (D := D) (ci := 6) (v := .ref aP) (C := R_TripleLinesModel) (T := F_TripleLinesModel) (N := 29) xe xb xt i_TripleLinesModel xo xK xP 0 rfl rfl 13 (by decide) (xt _ mw_TripleLinesModel_37) (fun _ h9 => h9) rfl d_TripleLinesModel_find_41 ?_
            refine lv_iconst (v := iI (4)) xe xb d_TripleLinesModel_find_44 rfl ?_
            refine lv_iload xe xb d_TripleLinesModel_find_45 (lv_at xl 5 rfl) ?_
            refine tk_imul xe xb d_TripleLinesModel_find_47 ?_
            refine lv_iconst (v := iI (2)) xe xb d_TripleLinesModel_find_48 rfl ?_
            refine tk_iadd xe xb d_TripleLinesModel_find_49 ?_
            refine tk_iald xe xb xK xP 1 0 rfl rfl (by omega) d_TripleLinesModel_find_50 ?_
            have hr_3 := tI_rg P ((4 * i) + 2)
            refine lv_iload_n xe xb d_TripleLinesModel_find_51 rfl (lv_at xl 3 rfl) ?_
            refine tk_icmp_ne (tgt := 74) xe xb d_TripleLinesModel_find_52 (by decide) (by omega) (fun C52 => ?_) (fun C52 => ?_)
            · refine tk_iinc (v := (i + 1)) (lv' := [(5, .int (iI (i + 1))), (0, .ref mM), (1, .int (iI a)), (2, .int (iI b)), (3, .int (iI c)), (4, .int (iI d))]) xe xb d_TripleLinesModel_find_74 xl (k := 5) rfl rfl (by decide) rfl ?_
              clear xl
              intro ls xl
              refine lv_goto (tgt := 3) xe xb d_TripleLinesModel_find_77 (by decide) ?_
              exact ih_3 (i + 1) (by omega) (by first | assumption | omega) (by rw [← h1, idx_miss hi.1 (by omega) (fun h9 => by simp only [qdAt, Prod.mk.injEq, Int.mul_comm i 4] at h9; omega)]) _ _ xP xD xS ls (lv_sub xl [1, 2, 3, 4, 5, 0] rfl)
            · refine lv_aload_n xe xb d_TripleLinesModel_find_55 rfl (lv_at xl 0 rfl) ?_
              refine va_get (D := D) (ci := 6) (v := .ref aP) (C := R_TripleLinesModel) (T := F_TripleLinesModel) (N := 29) xe xb xt i_TripleLinesModel xo xK xP 0 rfl rfl 13 (by decide) (xt _ mw_TripleLinesModel_37) (fun _ h9 => h9) rfl d_TripleLinesModel_find_56 ?_
              refine lv_iconst (v := iI (4)) xe xb d_TripleLinesModel_find_59 rfl ?_
              refine lv_iload xe xb d_TripleLinesModel_find_60 (lv_at xl 5 rfl) ?_
              refine tk_imul xe xb d_TripleLinesModel_find_62 ?_
              refine lv_iconst (v := iI (3)) xe xb d_TripleLinesModel_find_63 rfl ?_
              refine tk_iadd xe xb d_TripleLinesModel_find_64 ?_
              refine tk_iald xe xb xK xP 1 0 rfl rfl (by omega) d_TripleLinesModel_find_65 ?_
              have hr_4 := tI_rg P ((4 * i) + 3)
              refine lv_iload xe xb d_TripleLinesModel_find_66 (lv_at xl 4 rfl) ?_
              refine tk_icmp_ne (tgt := 74) xe xb d_TripleLinesModel_find_68 (by decide) (by omega) (fun C68 => ?_) (fun C68 => ?_)
              · refine tk_iinc (v := (i + 1)) (lv' := [(5, .int (iI (i + 1))), (0, .ref mM), (1, .int (iI a)), (2, .int (iI b)), (3, .int (iI c)), (4, .int (iI d))]) xe xb d_TripleLinesModel_find_74 xl (k := 5) rfl rfl (by decide) rfl ?_
                clear xl
                intro ls xl
                refine lv_goto (tgt := 3) xe xb d_TripleLinesModel_find_77 (by decide) ?_
                exact ih_3 (i + 1) (by omega) (by first | assumption | omega) (by rw [← h1, idx_miss hi.1 (by omega) (fun h9 => by simp only [qdAt, Prod.mk.injEq, Int.mul_comm i 4] at h9; omega)]) _ _ xP xD xS ls (lv_sub xl [1, 2, 3, 4, 5, 0] rfl)
              · refine lv_iload xe xb d_TripleLinesModel_find_71 (lv_at xl 5 rfl) ?_
                exact xret _ _ _ _ i () d_TripleLinesModel_find_73 trivial (by omega) (by rw [← h1, idx_hit hi.1 C9 (by unfold qdAt; rw [Int.mul_comm i 4, C22, C37, C52, C68]), if_neg (by omega)]) xP xD xS
  exact loop_3 _ 0 (Nat.lt_succ_self _) (by first | assumption | omega) rfl _ _ xP xD xS ls (lv_sub xl [1, 2, 3, 4, 5, 0] rfl)
set_option maxHeartbeats 4000000 in
set_option maxRecDepth 100000 in
theorem c_TripleLinesModel_drop (l : Launch) (D : va_G) (cI : ClassId) (mM : Nat) (tm : Int) (aT : Nat) (om : Int) (aO : Nat) (tn : Int) (aK : Nat) (aS : Nat) (aC : Nat) (aU : Nat) (aG : Nat) (aY : Nat) (aX : Nat) (qn : Int) (aP : Nat) (tr : Int) (rg : Int) (ll : Int) (p : Int) (f : Int) (ov : Int) (sz : Int) (aM : Nat) (tz : Int) (aA : Nat) (dm : Int) (aD : Nat) (aB : Nat) (aV : Nat) (aE : Nat) (P : Nat → Int32) (i : Int) (hqz : 0 ≤ qn ∧ qn ≤ 80) (hi9 : -2147483648 ≤ i ∧ i < 2147483648) : CtI l D [(cI, .int)] y_TripleLinesModel_drop b_TripleLinesModel_drop 3 (some .int) 1 [.ref mM, .int (iI i)] [(mM, .inr (6, [.int (iI tm), .ref aT, .int (iI om), .ref aO, .int (iI tn), .ref aK, .ref aS, .ref aC, .ref aU, .ref aG, .ref aY, .ref aX, .int (iI qn), .ref aP, .int (iI tr), .int (iI rg), .int (iI ll), .int (iI p), .int (iI f), .int (iI ov), .int (iI sz), .ref aM, .int (iI tz), .ref aA, .int (iI dm), .ref aD, .ref aB, .ref aV, .ref aE])), (aP, .inl (cI, 320, .inl P))] (S := Int × (Nat → Int32)) (fun z u => ((0 ≤ i ∧ i < qn) ∧ z = qn - 1 ∧ u.1 = qn - 1 ∧ lst (qdAt u.2) u.1 = (lst (qdAt P) qn).eraseIdx i.toNat) ∨ (¬ (0 ≤ i ∧ i < qn) ∧ z = -1 ∧ u.1 = qn ∧ u.2 = P)) (fun u => [(mM, .inr (6, [.int (iI tm), .ref aT, .int (iI om), .ref aO, .int (iI tn), .ref aK, .ref aS, .ref aC, .ref aU, .ref aG, .ref aY, .ref aX, .int (iI u.1), .ref aP, .int (iI tr), .int (iI rg), .int (iI ll), .int (iI p), .int (iI f), .int (iI ov), .int (iI sz), .ref aM, .int (iI tz), .ref aA, .int (iI dm), .ref aD, .ref aB, .ref aV, .ref aE])), (aP, .inl (cI, 320, .inl u.2))]) := by
  refine CtI.walk (fun _ => True) (fun z _ => vp_nar_int _) (by decide) (Nat.le_of_ble_eq_true rfl) ?_
  intro xp xe0 xs xm xar xbelow xmeth xc xA0 xQ xe xb xml xo xt xP xK xD xA xret ls xl xS
  have xl : lv_has ls 3 [(0, .ref mM), (1, .int (iI i))] := xl
  have xo : xs.vm.findClass R_TripleLinesModel = some xm.cls := xo
  refine lv_iload_n xe xb d_TripleLinesModel_drop_0 rfl (lv_at xl 1 rfl) ?_
  refine lv_iconst (v := iI (0)) xe xb d_TripleLinesModel_drop_1 rfl ?_
  refine lv_aload_n xe xb d_TripleLinesModel_drop_2 rfl (lv_at xl 0 rfl) ?_
  refine va_get (D := D) (ci := 6) (v := .int (iI qn)) (C := R_TripleLinesModel) (T := F_TripleLinesModel) (N := 29) xe xb xt i_TripleLinesModel xo xK xP 0 rfl rfl 12 (by decide) (xt _ mw_TripleLinesModel_211) (fun _ h9 => h9) rfl d_TripleLinesModel_drop_3 ?_
  refine lv_iconst (v := iI (1)) xe xb d_TripleLinesModel_drop_6 rfl ?_
  refine tk_isub xe xb d_TripleLinesModel_drop_7 ?_
  refine tk_callSi (As := [.int (iI i), .int (iI 0), .int (iI (qn - 1))]) (rest := []) (wr := [(mM, .inr (6, [.int (iI tm), .ref aT, .int (iI om), .ref aO, .int (iI tn), .ref aK, .ref aS, .ref aC, .ref aU, .ref aG, .ref aY, .ref aX, .int (iI qn), .ref aP, .int (iI tr), .int (iI rg), .int (iI ll), .int (iI p), .int (iI f), .int (iI ov), .int (iI sz), .ref aM, .int (iI tz), .ref aA, .int (iI dm), .ref aD, .ref aB, .ref aV, .ref aE])), (aP, .inl (cI, 320, .inl P))]) (wn := fun u => [(mM, .inr (6, [.int (iI tm), .ref aT, .int (iI om), .ref aO, .int (iI tn), .ref aK, .ref aS, .ref aC, .ref aU, .ref aG, .ref aY, .ref aX, .int (iI qn), .ref aP, .int (iI tr), .int (iI rg), .int (iI ll), .int (iI p), .int (iI f), .int (iI ov), .int (iI sz), .ref aM, .int (iI tz), .ref aA, .int (iI dm), .ref aD, .ref aB, .ref aV, .ref aE])), (aP, .inl (cI, 320, .inl P))]) ⟨xe, xb, xml, xo, xt⟩ (c_TripleLinesModel_in l D cI i 0 (qn - 1) (by first | assumption | omega) (by first | assumption | omega) (by first | assumption | omega)) k_TripleLinesModel_in mw_TripleLinesModel_63 ⟨Nat.le_of_ble_eq_true rfl, Nat.le_of_ble_eq_true rfl⟩ xK xP xD xS xA rfl xl.1 rfl (Nat.le_of_ble_eq_true rfl) d_TripleLinesModel_drop_8 ⟨Nat.zero_le _, Nat.zero_le _⟩ [] [0, 1] [0, 1] rfl rfl (by decide) (by decide) (by decide) (by decide) (fun _ => rfl) ?_
  clear xP xD xS
  intro z_2 u H locs hr_3 hw_1 xP xD xS
  try dsimp only at hw_1
  replace xP : va_P D classes [(mM, .inr (6, [.int (iI tm), .ref aT, .int (iI om), .ref aO, .int (iI tn), .ref aK, .ref aS, .ref aC, .ref aU, .ref aG, .ref aY, .ref aX, .int (iI qn), .ref aP, .int (iI tr), .int (iI rg), .int (iI ll), .int (iI p), .int (iI f), .int (iI ov), .int (iI sz), .ref aM, .int (iI tz), .ref aA, .int (iI dm), .ref aD, .ref aB, .ref aV, .ref aE])), (aP, .inl (cI, 320, .inl P))] H := xP
  replace xD : va_D xA0 [(mM, .inr (6, [.int (iI tm), .ref aT, .int (iI om), .ref aO, .int (iI tn), .ref aK, .ref aS, .ref aC, .ref aU, .ref aG, .ref aY, .ref aX, .int (iI qn), .ref aP, .int (iI tr), .int (iI rg), .int (iI ll), .int (iI p), .int (iI f), .int (iI ov), .int (iI sz), .ref aM, .int (iI tz), .ref aA, .int (iI dm), .ref aD, .ref aB, .ref aV, .ref aE])), (aP, .inl (cI, 320, .inl P))] := xD
  rcases hw_1 with ⟨rfl, hb_4⟩ | ⟨rfl, hb_5⟩
  · refine tk_if_ne (tgt := 16) xe xb d_TripleLinesModel_drop_11 (by decide) (by omega) (fun c_6 => ?_) (fun c_6 => absurd c_6 (by omega))
    refine lv_aload_n xe xb d_TripleLinesModel_drop_16 rfl (lv_at xl 0 rfl) ?_
    refine lv_dup xe xb d_TripleLinesModel_drop_17 rfl ?_
    refine va_get (D := D) (ci := 6) (v := .int (iI qn)) (C := R_TripleLinesModel) (T := F_TripleLinesModel) (N := 29) xe xb xt i_TripleLinesModel xo xK xP 0 rfl rfl 12 (by decide) (xt _ mw_TripleLinesModel_211) (fun _ h9 => h9) rfl d_TripleLinesModel_drop_18 ?_
    refine lv_iconst (v := iI (1)) xe xb d_TripleLinesModel_drop_21 rfl ?_
    refine tk_isub xe xb d_TripleLinesModel_drop_22 ?_
    refine va_put (D := D) (ci := 6) (v := .int (iI (qn - 1))) (ty := .int) (C := R_TripleLinesModel) (T := F_TripleLinesModel) (N := 29) xe xb xt i_TripleLinesModel t_TripleLinesModel t_TripleLinesModel_ok n_TripleLinesModel xo xK xP xD xS 0 rfl rfl 12 (by decide) (xt _ mw_TripleLinesModel_211) (fun _ h9 => h9) rfl (by decide +kernel) rfl rfl (Nat.le_of_ble_eq_true rfl) d_TripleLinesModel_drop_23 ?_
    clear xP xD xS
    intro H locs xP xD xS
    replace xP : va_P D classes [(mM, .inr (6, [.int (iI tm), .ref aT, .int (iI om), .ref aO, .int (iI tn), .ref aK, .ref aS, .ref aC, .ref aU, .ref aG, .ref aY, .ref aX, .int (iI (qn - 1)), .ref aP, .int (iI tr), .int (iI rg), .int (iI ll), .int (iI p), .int (iI f), .int (iI ov), .int (iI sz), .ref aM, .int (iI tz), .ref aA, .int (iI dm), .ref aD, .ref aB, .ref aV, .ref aE])), (aP, .inl (cI, 320, .inl P))] H := xP
    replace xD : va_D xA0 [(mM, .inr (6, [.int (iI tm), .ref aT, .int (iI om), .ref aO, .int (iI tn), .ref aK, .ref aS, .ref aC, .ref aU, .ref aG, .ref aY, .ref aX, .int (iI (qn - 1)), .ref aP, .int (iI tr), .int (iI rg), .int (iI ll), .int (iI p), .int (iI f), .int (iI ov), .int (iI sz), .ref aM, .int (iI tz), .ref aA, .int (iI dm), .ref aD, .ref aB, .ref aV, .ref aE])), (aP, .inl (cI, 320, .inl P))] := xD
    refine lv_iconst (v := iI (4)) xe xb d_TripleLinesModel_drop_26 rfl ?_
    refine lv_iload_n xe xb d_TripleLinesModel_drop_27 rfl (lv_at xl 1 rfl) ?_
    refine tk_imul xe xb d_TripleLinesModel_drop_28 ?_
    refine lv_istore_n (lv' := [(2, .int (iI (4 * i))), (0, .ref mM), (1, .int (iI i))]) xe xb d_TripleLinesModel_drop_29 rfl xl (by decide) rfl ?_
    clear xl
    intro ls xl
    have loop_30 : ∀ (n9 : Nat) (k : Int) (Pv : Nat → Int32), (320 - k).toNat < n9 → (4 * i ≤ k ∧ k ≤ 4 * (qn - 1) ∧ 0 ≤ i ∧ i < qn) → (∀ j, 0 ≤ j → j < k → tI Pv j = if j < 4 * i then tI P j else tI P (j + 4)) → (∀ j, k ≤ j → tI Pv j = tI P j) → ∀ (H : Heap) (locs : List Loc), va_P D classes [(mM, .inr (6, [.int (iI tm), .ref aT, .int (iI om), .ref aO, .int (iI tn), .ref aK, .ref aS, .ref aC, .ref aU, .ref aG, .ref aY, .ref aX, .int (iI (qn - 1)), .ref aP, .int (iI tr), .int (iI rg), .int (iI ll), .int (iI p), .int (iI f), .int (iI ov), .int (iI sz), .ref aM, .int (iI tz), .ref aA, .int (iI dm), .ref aD, .ref aB, .ref aV, .ref aE])), (aP, .inl (cI, 320, .inl Pv))] H → va_D xA0 [(mM, .inr (6, [.int (iI tm), .ref aT, .int (iI om), .ref aO, .int (iI tn), .ref aK, .ref aS, .ref aC, .ref aU, .ref aG, .ref aY, .ref aX, .int (iI (qn - 1)), .ref aP, .int (iI tr), .int (iI rg), .int (iI ll), .int (iI p), .int (iI f), .int (iI ov), .int (iI sz), .ref aM, .int (iI tz), .ref aA, .int (iI dm), .ref aD, .ref aB, .ref aV, .ref aE])), (aP, .inl (cI, 320, .inl Pv))] → va_S xA0 xs.heap H locs → ∀ ls : Array Slot, lv_has ls 3 [(0, .ref mM), (1, .int (iI i)), (2, .int (iI k))] → W xp l xe0 (tk_rm 1) xs xm xar xbelow xmeth xc H locs 0 0 xQ (F0 xm 30 ls []) := by
      intro n9
      induction n9 with
      | zero => intro k Pv h9; exact absurd h9 (Nat.not_lt_zero _)
      | succ n9 ih9 =>
        intro k Pv hm9 hk h1 h2 H locs xP xD xS ls xl
        have ih_30 := ih9
        have hm_30 := hm9
        refine lv_iload_n xe xb d_TripleLinesModel_drop_30 rfl (lv_at xl 2 rfl) ?_
        refine lv_iconst (v := iI (4)) xe xb d_TripleLinesModel_drop_31 rfl ?_
        refine lv_aload_n xe xb d_TripleLinesModel_drop_32 rfl (lv_at xl 0 rfl) ?_
        refine va_get (D := D) (ci := 6) (v := .int (iI (qn - 1))) (C := R_TripleLinesModel) (T := F_TripleLinesModel) (N := 29) xe xb xt i_TripleLinesModel xo xK xP 0 rfl rfl 12 (by decide) (xt _ mw_TripleLinesModel_211) (fun _ h9 => h9) rfl d_TripleLinesModel_drop_33 ?_
        refine tk_imul xe xb d_TripleLinesModel_drop_36 ?_
        refine tk_icmp_ge (tgt := 60) xe xb d_TripleLinesModel_drop_37 (by decide) (by omega) (fun c_7 => ?_) (fun c_7 => ?_)
        · refine lv_aload_n xe xb d_TripleLinesModel_drop_60 rfl (lv_at xl 0 rfl) ?_
          refine va_get (D := D) (ci := 6) (v := .int (iI (qn - 1))) (C := R_TripleLinesModel) (T := F_TripleLinesModel) (N := 29) xe xb xt i_TripleLinesModel xo xK xP 0 rfl rfl 12 (by decide) (xt _ mw_TripleLinesModel_211) (fun _ h9 => h9) rfl d_TripleLinesModel_drop_61 ?_
          exact xret _ _ _ _ (qn - 1) ((qn - 1), Pv) d_TripleLinesModel_drop_64 trivial (by omega) (by first | exact (Or.inl ⟨by omega, rfl, rfl, dr_end (by omega) hk.1 (by omega) h1⟩) | (dsimp only; exact (Or.inl ⟨by omega, rfl, rfl, dr_end (by omega) hk.1 (by omega) h1⟩))) xP xD xS
        · refine lv_aload_n xe xb d_TripleLinesModel_drop_40 rfl (lv_at xl 0 rfl) ?_
          refine va_get (D := D) (ci := 6) (v := .ref aP) (C := R_TripleLinesModel) (T := F_TripleLinesModel) (N := 29) xe xb xt i_TripleLinesModel xo xK xP 0 rfl rfl 13 (by decide) (xt _ mw_TripleLinesModel_37) (fun _ h9 => h9) rfl d_TripleLinesModel_drop_41 ?_
          refine lv_iload_n xe xb d_TripleLinesModel_drop_44 rfl (lv_at xl 2 rfl) ?_
          refine lv_aload_n xe xb d_TripleLinesModel_drop_45 rfl (lv_at xl 0 rfl) ?_
          refine va_get (D := D) (ci := 6) (v := .ref aP) (C := R_TripleLinesModel) (T := F_TripleLinesModel) (N := 29) xe xb xt i_TripleLinesModel xo xK xP 0 rfl rfl 13 (by decide) (xt _ mw_TripleLinesModel_37) (fun _ h9 => h9) rfl d_TripleLinesModel_drop_46 ?_
          refine lv_iload_n xe xb d_TripleLinesModel_drop_49 rfl (lv_at xl 2 rfl) ?_
          refine lv_iconst (v := iI (4)) xe xb d_TripleLinesModel_drop_50 rfl ?_
          refine tk_iadd xe xb d_TripleLinesModel_drop_51 ?_
          refine tk_iald xe xb xK xP 1 0 rfl rfl (by omega) d_TripleLinesModel_drop_52 ?_
          have hr_8 := tI_rg Pv (k + 4)
          refine tk_iast xe xb xK xP xD xS 1 0 rfl rfl (by omega) d_TripleLinesModel_drop_53 ?_
          clear xP xD xS
          intro H locs xP xD xS
          replace xP : va_P D classes [(mM, .inr (6, [.int (iI tm), .ref aT, .int (iI om), .ref aO, .int (iI tn), .ref aK, .ref aS, .ref aC, .ref aU, .ref aG, .ref aY, .ref aX, .int (iI (qn - 1)), .ref aP, .int (iI tr), .int (iI rg), .int (iI ll), .int (iI p), .int (iI f), .int (iI ov), .int (iI sz), .ref aM, .int (iI tz), .ref aA, .int (iI dm), .ref aD, .ref aB, .ref aV, .ref aE])), (aP, .inl (cI, 320, .inl (fu Pv k (tI Pv (k + 4)))))] H := xP
          replace xD : va_D xA0 [(mM, .inr (6, [.int (iI tm), .ref aT, .int (iI om), .ref aO, .int (iI tn), .ref aK, .ref aS, .ref aC, .ref aU, .ref aG, .ref aY, .ref aX, .int (iI (qn - 1)), .ref aP, .int (iI tr), .int (iI rg), .int (iI ll), .int (iI p), .int (iI f), .int (iI ov), .int (iI sz), .ref aM, .int (iI tz), .ref aA, .int (iI dm), .ref aD, .ref aB, .ref aV, .ref aE])), (aP, .inl (cI, 320, .inl (fu Pv k (tI Pv (k + 4)))))] := xD
          refine tk_iinc (v := (k + 1)) (lv' := [(2, .int (iI (k + 1))), (0, .ref mM), (1, .int (iI i))]) xe xb d_TripleLinesModel_drop_54 xl (k := 2) rfl rfl (by decide) rfl ?_
          clear xl
          intro ls xl
          refine lv_goto (tgt := 30) xe xb d_TripleLinesModel_drop_57 (by decide) ?_
          exact ih_30 (k + 1) (fu Pv k (tI Pv (k + 4))) (by omega) (by first | assumption | omega) (dr_step hk.2.2.1 hk.1 h1 h2).1 (dr_step hk.2.2.1 hk.1 h1 h2).2 _ _ xP xD xS ls (lv_sub xl [1, 2, 0] rfl)
    exact loop_30 _ (4 * i) P (Nat.lt_succ_self _) (by first | assumption | omega) (fun j h0 h1 => (if_pos h1).symm) (fun j _ => rfl) _ _ xP xD xS ls (lv_sub xl [1, 2, 0] rfl)
  · refine tk_if_ne (tgt := 16) xe xb d_TripleLinesModel_drop_11 (by decide) (by omega) (fun c_9 => absurd c_9 (by omega)) (fun c_9 => ?_)
    refine lv_iconst (v := iI (-1)) xe xb d_TripleLinesModel_drop_14 rfl ?_
    exact xret _ _ _ _ (-1) (qn, P) d_TripleLinesModel_drop_15 trivial (by omega) (by first | exact (Or.inr ⟨by omega, rfl, rfl, rfl⟩) | (dsimp only; exact (Or.inr ⟨by omega, rfl, rfl, rfl⟩))) xP xD xS
set_option maxHeartbeats 4000000 in
set_option maxRecDepth 100000 in
theorem c_TripleLinesModel_at (l : Launch) (D : va_G) (cI : ClassId) (mM : Nat) (tm : Int) (aT : Nat) (om : Int) (aO : Nat) (tn : Int) (aK : Nat) (aS : Nat) (aC : Nat) (aU : Nat) (aG : Nat) (aY : Nat) (aX : Nat) (qn : Int) (aP : Nat) (tr : Int) (rg : Int) (ll : Int) (p : Int) (f : Int) (ov : Int) (sz : Int) (aM : Nat) (tz : Int) (aA : Nat) (dm : Int) (aD : Nat) (aB : Nat) (aV : Nat) (aE : Nat) (fO : Nat → Int32) (i : Int) (hn : 0 ≤ om ∧ om ≤ 3000) (hi9 : -2147483648 ≤ i ∧ i < 2147483648) : CtI l D [(cI, .int)] y_TripleLinesModel_at b_TripleLinesModel_at 2 (some .int) 1 [.ref mM, .int (iI i)] [(mM, .inr (6, [.int (iI tm), .ref aT, .int (iI om), .ref aO, .int (iI tn), .ref aK, .ref aS, .ref aC, .ref aU, .ref aG, .ref aY, .ref aX, .int (iI qn), .ref aP, .int (iI tr), .int (iI rg), .int (iI ll), .int (iI p), .int (iI f), .int (iI ov), .int (iI sz), .ref aM, .int (iI tz), .ref aA, .int (iI dm), .ref aD, .ref aB, .ref aV, .ref aE])), (aO, .inl (cI, 3000, .inl fO))] (S := Unit) (fun z u => z = rd (lst (tI fO) om) i) (fun u => [(mM, .inr (6, [.int (iI tm), .ref aT, .int (iI om), .ref aO, .int (iI tn), .ref aK, .ref aS, .ref aC, .ref aU, .ref aG, .ref aY, .ref aX, .int (iI qn), .ref aP, .int (iI tr), .int (iI rg), .int (iI ll), .int (iI p), .int (iI f), .int (iI ov), .int (iI sz), .ref aM, .int (iI tz), .ref aA, .int (iI dm), .ref aD, .ref aB, .ref aV, .ref aE])), (aO, .inl (cI, 3000, .inl fO))]) := by
  refine CtI.walk (fun _ => True) (fun z _ => vp_nar_int _) (by decide) (Nat.le_of_ble_eq_true rfl) ?_
  intro xp xe0 xs xm xar xbelow xmeth xc xA0 xQ xe xb xml xo xt xP xK xD xA xret ls xl xS
  have xl : lv_has ls 2 [(0, .ref mM), (1, .int (iI i))] := xl
  have xo : xs.vm.findClass R_TripleLinesModel = some xm.cls := xo
  refine lv_iload_n xe xb d_TripleLinesModel_at_0 rfl (lv_at xl 1 rfl) ?_
  refine lv_iconst (v := iI (0)) xe xb d_TripleLinesModel_at_1 rfl ?_
  refine lv_aload_n xe xb d_TripleLinesModel_at_2 rfl (lv_at xl 0 rfl) ?_
  refine va_get (D := D) (ci := 6) (v := .int (iI om)) (C := R_TripleLinesModel) (T := F_TripleLinesModel) (N := 29) xe xb xt i_TripleLinesModel xo xK xP 0 rfl rfl 2 (by decide) (xt _ mw_TripleLinesModel_76) (fun _ h9 => h9) rfl d_TripleLinesModel_at_3 ?_
  refine lv_iconst (v := iI (1)) xe xb d_TripleLinesModel_at_6 rfl ?_
  refine tk_isub xe xb d_TripleLinesModel_at_7 ?_
  refine tk_callSi (As := [.int (iI i), .int (iI 0), .int (iI (om - 1))]) (rest := []) (wr := [(mM, .inr (6, [.int (iI tm), .ref aT, .int (iI om), .ref aO, .int (iI tn), .ref aK, .ref aS, .ref aC, .ref aU, .ref aG, .ref aY, .ref aX, .int (iI qn), .ref aP, .int (iI tr), .int (iI rg), .int (iI ll), .int (iI p), .int (iI f), .int (iI ov), .int (iI sz), .ref aM, .int (iI tz), .ref aA, .int (iI dm), .ref aD, .ref aB, .ref aV, .ref aE])), (aO, .inl (cI, 3000, .inl fO))]) (wn := fun u => [(mM, .inr (6, [.int (iI tm), .ref aT, .int (iI om), .ref aO, .int (iI tn), .ref aK, .ref aS, .ref aC, .ref aU, .ref aG, .ref aY, .ref aX, .int (iI qn), .ref aP, .int (iI tr), .int (iI rg), .int (iI ll), .int (iI p), .int (iI f), .int (iI ov), .int (iI sz), .ref aM, .int (iI tz), .ref aA, .int (iI dm), .ref aD, .ref aB, .ref aV, .ref aE])), (aO, .inl (cI, 3000, .inl fO))]) ⟨xe, xb, xml, xo, xt⟩ (c_TripleLinesModel_in l D cI i 0 (om - 1) (by first | assumption | omega) (by first | assumption | omega) (by first | assumption | omega)) k_TripleLinesModel_in mw_TripleLinesModel_63 ⟨Nat.le_of_ble_eq_true rfl, Nat.le_of_ble_eq_true rfl⟩ xK xP xD xS xA rfl xl.1 rfl (Nat.le_of_ble_eq_true rfl) d_TripleLinesModel_at_8 ⟨Nat.zero_le _, Nat.zero_le _⟩ [] [0, 1] [0, 1] rfl rfl (by decide) (by decide) (by decide) (by decide) (fun _ => rfl) ?_
  clear xP xD xS
  intro z_2 u H locs hr_3 hw_1 xP xD xS
  try dsimp only at hw_1
  replace xP : va_P D classes [(mM, .inr (6, [.int (iI tm), .ref aT, .int (iI om), .ref aO, .int (iI tn), .ref aK, .ref aS, .ref aC, .ref aU, .ref aG, .ref aY, .ref aX, .int (iI qn), .ref aP, .int (iI tr), .int (iI rg), .int (iI ll), .int (iI p), .int (iI f), .int (iI ov), .int (iI sz), .ref aM, .int (iI tz), .ref aA, .int (iI dm), .ref aD, .ref aB, .ref aV, .ref aE])), (aO, .inl (cI, 3000, .inl fO))] H := xP
  replace xD : va_D xA0 [(mM, .inr (6, [.int (iI tm), .ref aT, .int (iI om), .ref aO, .int (iI tn), .ref aK, .ref aS, .ref aC, .ref aU, .ref aG, .ref aY, .ref aX, .int (iI qn), .ref aP, .int (iI tr), .int (iI rg), .int (iI ll), .int (iI p), .int (iI f), .int (iI ov), .int (iI sz), .ref aM, .int (iI tz), .ref aA, .int (iI dm), .ref aD, .ref aB, .ref aV, .ref aE])), (aO, .inl (cI, 3000, .inl fO))] := xD
  rcases hw_1 with ⟨rfl, hb_4⟩ | ⟨rfl, hb_5⟩
  · refine tk_if_eq (tgt := 23) xe xb d_TripleLinesModel_at_11 (by decide) (by omega) (fun c_6 => absurd c_6 (by omega)) (fun c_6 => ?_)
    refine lv_aload_n xe xb d_TripleLinesModel_at_14 rfl (lv_at xl 0 rfl) ?_
    refine va_get (D := D) (ci := 6) (v := .ref aO) (C := R_TripleLinesModel) (T := F_TripleLinesModel) (N := 29) xe xb xt i_TripleLinesModel xo xK xP 0 rfl rfl 3 (by decide) (xt _ mw_TripleLinesModel_13) (fun _ h9 => h9) rfl d_TripleLinesModel_at_15 ?_
    refine lv_iload_n xe xb d_TripleLinesModel_at_18 rfl (lv_at xl 1 rfl) ?_
    refine tk_iald xe xb xK xP 1 0 rfl rfl (by omega) d_TripleLinesModel_at_19 ?_
    have hr_7 := tI_rg fO i
    refine lv_goto (tgt := 24) xe xb d_TripleLinesModel_at_20 (by decide) ?_
    exact xret _ _ _ _ (tI fO i) () d_TripleLinesModel_at_24 trivial (by omega) (by first | exact (rd_in (by omega)).symm | exact (rd_out (by omega)).symm) xP xD xS
  · refine tk_if_eq (tgt := 23) xe xb d_TripleLinesModel_at_11 (by decide) (by omega) (fun c_8 => ?_) (fun c_8 => absurd c_8 (by omega))
    refine lv_iconst (v := iI (-1)) xe xb d_TripleLinesModel_at_23 rfl ?_
    exact xret _ _ _ _ (-1) () d_TripleLinesModel_at_24 trivial (by omega) (by first | exact (rd_in (by omega)).symm | exact (rd_out (by omega)).symm) xP xD xS
set_option maxHeartbeats 4000000 in
set_option maxRecDepth 100000 in
theorem c_TripleLinesModel_count (l : Launch) (D : va_G) (cI : ClassId) (mM : Nat) (tm : Int) (aT : Nat) (om : Int) (aO : Nat) (tn : Int) (aK : Nat) (aS : Nat) (aC : Nat) (aU : Nat) (aG : Nat) (aY : Nat) (aX : Nat) (qn : Int) (aP : Nat) (tr : Int) (rg : Int) (ll : Int) (p : Int) (f : Int) (ov : Int) (sz : Int) (aM : Nat) (tz : Int) (aA : Nat) (dm : Int) (aD : Nat) (aB : Nat) (aV : Nat) (aE : Nat) (w : Int) (hz : 0 ≤ tn ∧ tn ≤ 120) (hqz : 0 ≤ qn ∧ qn ≤ 80) (hn : 0 ≤ om ∧ om ≤ 3000) (hnt : 0 ≤ tm ∧ tm ≤ 3000) (hre : -2147483648 ≤ rg ∧ rg < 2147483648) (hw9 : -2147483648 ≤ w ∧ w < 2147483648) : CtI l D [(cI, .int)] y_TripleLinesModel_count b_TripleLinesModel_count 2 (some .int) 0 [.ref mM, .int (iI w)] [(mM, .inr (6, [.int (iI tm), .ref aT, .int (iI om), .ref aO, .int (iI tn), .ref aK, .ref aS, .ref aC, .ref aU, .ref aG, .ref aY, .ref aX, .int (iI qn), .ref aP, .int (iI tr), .int (iI rg), .int (iI ll), .int (iI p), .int (iI f), .int (iI ov), .int (iI sz), .ref aM, .int (iI tz), .ref aA, .int (iI dm), .ref aD, .ref aB, .ref aV, .ref aE]))] (S := Unit) (fun z u => z = nAns qn tn rg tm om w) (fun u => [(mM, .inr (6, [.int (iI tm), .ref aT, .int (iI om), .ref aO, .int (iI tn), .ref aK, .ref aS, .ref aC, .ref aU, .ref aG, .ref aY, .ref aX, .int (iI qn), .ref aP, .int (iI tr), .int (iI rg), .int (iI ll), .int (iI p), .int (iI f), .int (iI ov), .int (iI sz), .ref aM, .int (iI tz), .ref aA, .int (iI dm), .ref aD, .ref aB, .ref aV, .ref aE]))]) := by
  refine CtI.walk (fun _ => True) (fun z _ => vp_nar_int _) (by decide) (Nat.le_of_ble_eq_true rfl) ?_
  intro xp xe0 xs xm xar xbelow xmeth xc xA0 xQ xe xb xml xo xt xP xK xD xA xret ls xl xS
  have xl : lv_has ls 2 [(0, .ref mM), (1, .int (iI w))] := xl
  have xo : xs.vm.findClass R_TripleLinesModel = some xm.cls := xo
  refine lv_iload_n xe xb d_TripleLinesModel_count_0 rfl (lv_at xl 1 rfl) ?_
  by_cases c_1 : w < 0 ∨ 4 < w
  · refine tk_tabOut (tgt := 61) xe xb d_TripleLinesModel_count_1 (by omega) c_1 (by decide) ?_
    refine lv_iconst (v := iI (-1)) xe xb d_TripleLinesModel_count_61 rfl ?_
    exact xret _ _ _ _ (-1) () d_TripleLinesModel_count_62 trivial (by omega) (by unfold nAns; (repeat' split) <;> omega) xP xD xS
  by_cases c_2 : w = 0
  · refine tk_tabIn (off := 35) (tgt := 36) xe xb d_TripleLinesModel_count_1 (by omega) 0 c_2 (by decide) (by decide) rfl (by decide) ?_
    refine lv_aload_n xe xb d_TripleLinesModel_count_36 rfl (lv_at xl 0 rfl) ?_
    refine va_get (D := D) (ci := 6) (v := .int (iI qn)) (C := R_TripleLinesModel) (T := F_TripleLinesModel) (N := 29) xe xb xt i_TripleLinesModel xo xK xP 0 rfl rfl 12 (by decide) (xt _ mw_TripleLinesModel_211) (fun _ h9 => h9) rfl d_TripleLinesModel_count_37 ?_
    exact xret _ _ _ _ qn () d_TripleLinesModel_count_40 trivial (by omega) (by unfold nAns; (repeat' split) <;> omega) xP xD xS
  by_cases c_3 : w = 1
  · refine tk_tabIn (off := 40) (tgt := 41) xe xb d_TripleLinesModel_count_1 (by omega) 1 c_3 (by decide) (by decide) rfl (by decide) ?_
    refine lv_aload_n xe xb d_TripleLinesModel_count_41 rfl (lv_at xl 0 rfl) ?_
    refine va_get (D := D) (ci := 6) (v := .int (iI tn)) (C := R_TripleLinesModel) (T := F_TripleLinesModel) (N := 29) xe xb xt i_TripleLinesModel xo xK xP 0 rfl rfl 4 (by decide) (xt _ mw_TripleLinesModel_132) (fun _ h9 => h9) rfl d_TripleLinesModel_count_42 ?_
    exact xret _ _ _ _ tn () d_TripleLinesModel_count_45 trivial (by omega) (by unfold nAns; (repeat' split) <;> omega) xP xD xS
  by_cases c_4 : w = 2
  · refine tk_tabIn (off := 45) (tgt := 46) xe xb d_TripleLinesModel_count_1 (by omega) 2 c_4 (by decide) (by decide) rfl (by decide) ?_
    refine lv_aload_n xe xb d_TripleLinesModel_count_46 rfl (lv_at xl 0 rfl) ?_
    refine va_get (D := D) (ci := 6) (v := .int (iI rg)) (C := R_TripleLinesModel) (T := F_TripleLinesModel) (N := 29) xe xb xt i_TripleLinesModel xo xK xP 0 rfl rfl 15 (by decide) (xt _ mw_TripleLinesModel_220) (fun _ h9 => h9) rfl d_TripleLinesModel_count_47 ?_
    exact xret _ _ _ _ rg () d_TripleLinesModel_count_50 trivial (by omega) (by unfold nAns; (repeat' split) <;> omega) xP xD xS
  by_cases c_5 : w = 3
  · refine tk_tabIn (off := 50) (tgt := 51) xe xb d_TripleLinesModel_count_1 (by omega) 3 c_5 (by decide) (by decide) rfl (by decide) ?_
    refine lv_aload_n xe xb d_TripleLinesModel_count_51 rfl (lv_at xl 0 rfl) ?_
    refine va_get (D := D) (ci := 6) (v := .int (iI tm)) (C := R_TripleLinesModel) (T := F_TripleLinesModel) (N := 29) xe xb xt i_TripleLinesModel xo xK xP 0 rfl rfl 0 (by decide) (xt _ mw_TripleLinesModel_71) (fun _ h9 => h9) rfl d_TripleLinesModel_count_52 ?_
    exact xret _ _ _ _ tm () d_TripleLinesModel_count_55 trivial (by omega) (by unfold nAns; (repeat' split) <;> omega) xP xD xS
  have c_6 : w = 4 := by omega
  refine tk_tabIn (off := 55) (tgt := 56) xe xb d_TripleLinesModel_count_1 (by omega) 4 c_6 (by decide) (by decide) rfl (by decide) ?_
  refine lv_aload_n xe xb d_TripleLinesModel_count_56 rfl (lv_at xl 0 rfl) ?_
  refine va_get (D := D) (ci := 6) (v := .int (iI om)) (C := R_TripleLinesModel) (T := F_TripleLinesModel) (N := 29) xe xb xt i_TripleLinesModel xo xK xP 0 rfl rfl 2 (by decide) (xt _ mw_TripleLinesModel_76) (fun _ h9 => h9) rfl d_TripleLinesModel_count_57 ?_
  exact xret _ _ _ _ om () d_TripleLinesModel_count_60 trivial (by omega) (by unfold nAns; (repeat' split) <;> omega) xP xD xS
set_option maxHeartbeats 4000000 in
set_option maxRecDepth 100000 in
theorem c_TripleLinesModel_pass (l : Launch) (D : va_G) (cI : ClassId) (mM : Nat) (tm : Int) (aT : Nat) (om : Int) (aO : Nat) (tn : Int) (aK : Nat) (aS : Nat) (aC : Nat) (aU : Nat) (aG : Nat) (aY : Nat) (aX : Nat) (qn : Int) (aP : Nat) (tr : Int) (rg : Int) (ll : Int) (p : Int) (f : Int) (ov : Int) (sz : Int) (aM : Nat) (tz : Int) (aA : Nat) (dm : Int) (aD : Nat) (aB : Nat) (aV : Nat) (aE : Nat) (fT : Nat → Int32) (fO : Nat → Int32) (hnt : 0 ≤ tm ∧ tm ≤ 3000) (hn : 0 ≤ om ∧ om ≤ 3000) : CtI l D [(cI, .int)] y_TripleLinesModel_pass b_TripleLinesModel_pass 2 (some .int) 0 [.ref mM] [(mM, .inr (6, [.int (iI tm), .ref aT, .int (iI om), .ref aO, .int (iI tn), .ref aK, .ref aS, .ref aC, .ref aU, .ref aG, .ref aY, .ref aX, .int (iI qn), .ref aP, .int (iI tr), .int (iI rg), .int (iI ll), .int (iI p), .int (iI f), .int (iI ov), .int (iI sz), .ref aM, .int (iI tz), .ref aA, .int (iI dm), .ref aD, .ref aB, .ref aV, .ref aE])), (aT, .inl (cI, 3000, .inl fT)), (aO, .inl (cI, 3000, .inl fO))] (S := Int × (Nat → Int32)) (fun z u => 0 ≤ u.1 ∧ u.1 ≤ 3000 ∧ ((3000 < tm + om ∧ z = -3 ∧ lst (tI u.2) u.1 = lst (tI fT) tm) ∨ (tm + om ≤ 3000 ∧ z = tm + om ∧ lst (tI u.2) u.1 = lst (tI fT) tm ++ lst (tI fO) om))) (fun u => [(mM, .inr (6, [.int (iI u.1), .ref aT, .int (iI om), .ref aO, .int (iI tn), .ref aK, .ref aS, .ref aC, .ref aU, .ref aG, .ref aY, .ref aX, .int (iI qn), .ref aP, .int (iI tr), .int (iI rg), .int (iI ll), .int (iI p), .int (iI f), .int (iI ov), .int (iI sz), .ref aM, .int (iI tz), .ref aA, .int (iI dm), .ref aD, .ref aB, .ref aV, .ref aE])), (aT, .inl (cI, 3000, .inl u.2)), (aO, .inl (cI, 3000, .inl fO))]) := by
  refine CtI.walk (fun _ => True) (fun z _ => vp_nar_int _) (by decide) (Nat.le_of_ble_eq_true rfl) ?_
  intro xp xe0 xs xm xar xbelow xmeth xc xA0 xQ xe xb xml xo xt xP xK xD xA xret ls xl xS
  have xl : lv_has ls 2 [(0, .ref mM)] := xl
  have xo : xs.vm.findClass R_TripleLinesModel = some xm.cls := xo
  refine lv_aload_n xe xb d_TripleLinesModel_pass_0 rfl (lv_at xl 0 rfl) ?_
  refine va_get (D := D) (ci := 6) (v := .int (iI tm)) (C := R_TripleLinesModel) (T := F_TripleLinesModel) (N := 29) xe xb xt i_TripleLinesModel xo xK xP 0 rfl rfl 0 (by decide) (xt _ mw_TripleLinesModel_71) (fun _ h9 => h9) rfl d_TripleLinesModel_pass_1 ?_
  refine lv_aload_n xe xb d_TripleLinesModel_pass_4 rfl (lv_at xl 0 rfl) ?_
  refine va_get (D := D) (ci := 6) (v := .int (iI om)) (C := R_TripleLinesModel) (T := F_TripleLinesModel) (N := 29) xe xb xt i_TripleLinesModel xo xK xP 0 rfl rfl 2 (by decide) (xt _ mw_TripleLinesModel_76) (fun _ h9 => h9) rfl d_TripleLinesModel_pass_5 ?_
  refine tk_iadd xe xb d_TripleLinesModel_pass_8 ?_
  refine lv_sipush (v := iI (3000)) xe xb d_TripleLinesModel_pass_9 (by decide) ?_
  refine tk_icmp_le (tgt := 18) xe xb d_TripleLinesModel_pass_12 (by decide) (by omega) (fun c_1 => ?_) (fun c_1 => ?_)
  · refine lv_iconst (v := iI (0)) xe xb d_TripleLinesModel_pass_18 rfl ?_
    refine lv_istore_n (lv' := [(1, .int (iI 0)), (0, .ref mM)]) xe xb d_TripleLinesModel_pass_19 rfl xl (by decide) rfl ?_
    clear xl
    intro ls xl
    have loop_20 : ∀ (n9 : Nat) (k : Int) (gv : Nat → Int32), (om - k).toNat < n9 → (0 ≤ k ∧ k ≤ om ∧ tm + om ≤ 3000) → (lst (tI gv) (tm + k) = lst (tI fT) tm ++ lst (tI fO) k) → ∀ (H : Heap) (locs : List Loc), va_P D classes [(mM, .inr (6, [.int (iI tm), .ref aT, .int (iI om), .ref aO, .int (iI tn), .ref aK, .ref aS, .ref aC, .ref aU, .ref aG, .ref aY, .ref aX, .int (iI qn), .ref aP, .int (iI tr), .int (iI rg), .int (iI ll), .int (iI p), .int (iI f), .int (iI ov), .int (iI sz), .ref aM, .int (iI tz), .ref aA, .int (iI dm), .ref aD, .ref aB, .ref aV, .ref aE])), (aT, .inl (cI, 3000, .inl gv)), (aO, .inl (cI, 3000, .inl fO))] H → va_D xA0 [(mM, .inr (6, [.int (iI tm), .ref aT, .int (iI om), .ref aO, .int (iI tn), .ref aK, .ref aS, .ref aC, .ref aU, .ref aG, .ref aY, .ref aX, .int (iI qn), .ref aP, .int (iI tr), .int (iI rg), .int (iI ll), .int (iI p), .int (iI f), .int (iI ov), .int (iI sz), .ref aM, .int (iI tz), .ref aA, .int (iI dm), .ref aD, .ref aB, .ref aV, .ref aE])), (aT, .inl (cI, 3000, .inl gv)), (aO, .inl (cI, 3000, .inl fO))] → va_S xA0 xs.heap H locs → ∀ ls : Array Slot, lv_has ls 2 [(0, .ref mM), (1, .int (iI k))] → W xp l xe0 (tk_rm 0) xs xm xar xbelow xmeth xc H locs 0 0 xQ (F0 xm 20 ls []) := by
      intro n9
      induction n9 with
      | zero => intro k gv h9; exact absurd h9 (Nat.not_lt_zero _)
      | succ n9 ih9 =>
        intro k gv hm9 hk h1 H locs xP xD xS ls xl
        have ih_20 := ih9
        have hm_20 := hm9
        refine lv_iload_n xe xb d_TripleLinesModel_pass_20 rfl (lv_at xl 1 rfl) ?_
        refine lv_aload_n xe xb d_TripleLinesModel_pass_21 rfl (lv_at xl 0 rfl) ?_
        refine va_get (D := D) (ci := 6) (v := .int (iI om)) (C := R_TripleLinesModel) (T := F_TripleLinesModel) (N := 29) xe xb xt i_TripleLinesModel xo xK xP 0 rfl rfl 2 (by decide) (xt _ mw_TripleLinesModel_76) (fun _ h9 => h9) rfl d_TripleLinesModel_pass_22 ?_
        refine tk_icmp_ge (tgt := 51) xe xb d_TripleLinesModel_pass_25 (by decide) (by omega) (fun c_2 => ?_) (fun c_2 => ?_)
        · refine lv_aload_n xe xb d_TripleLinesModel_pass_51 rfl (lv_at xl 0 rfl) ?_
          refine lv_dup xe xb d_TripleLinesModel_pass_52 rfl ?_
          refine va_get (D := D) (ci := 6) (v := .int (iI tm)) (C := R_TripleLinesModel) (T := F_TripleLinesModel) (N := 29) xe xb xt i_TripleLinesModel xo xK xP 0 rfl rfl 0 (by decide) (xt _ mw_TripleLinesModel_71) (fun _ h9 => h9) rfl d_TripleLinesModel_pass_53 ?_
          refine lv_aload_n xe xb d_TripleLinesModel_pass_56 rfl (lv_at xl 0 rfl) ?_
          refine va_get (D := D) (ci := 6) (v := .int (iI om)) (C := R_TripleLinesModel) (T := F_TripleLinesModel) (N := 29) xe xb xt i_TripleLinesModel xo xK xP 0 rfl rfl 2 (by decide) (xt _ mw_TripleLinesModel_76) (fun _ h9 => h9) rfl d_TripleLinesModel_pass_57 ?_
          refine tk_iadd xe xb d_TripleLinesModel_pass_60 ?_
          refine va_put (D := D) (ci := 6) (v := .int (iI (tm + om))) (ty := .int) (C := R_TripleLinesModel) (T := F_TripleLinesModel) (N := 29) xe xb xt i_TripleLinesModel t_TripleLinesModel t_TripleLinesModel_ok n_TripleLinesModel xo xK xP xD xS 0 rfl rfl 0 (by decide) (xt _ mw_TripleLinesModel_71) (fun _ h9 => h9) rfl (by decide +kernel) rfl rfl (Nat.le_of_ble_eq_true rfl) d_TripleLinesModel_pass_61 ?_
          clear xP xD xS
          intro H locs xP xD xS
          replace xP : va_P D classes [(mM, .inr (6, [.int (iI (tm + om)), .ref aT, .int (iI om), .ref aO, .int (iI tn), .ref aK, .ref aS, .ref aC, .ref aU, .ref aG, .ref aY, .ref aX, .int (iI qn), .ref aP, .int (iI tr), .int (iI rg), .int (iI ll), .int (iI p), .int (iI f), .int (iI ov), .int (iI sz), .ref aM, .int (iI tz), .ref aA, .int (iI dm), .ref aD, .ref aB, .ref aV, .ref aE])), (aT, .inl (cI, 3000, .inl gv)), (aO, .inl (cI, 3000, .inl fO))] H := xP
          replace xD : va_D xA0 [(mM, .inr (6, [.int (iI (tm + om)), .ref aT, .int (iI om), .ref aO, .int (iI tn), .ref aK, .ref aS, .ref aC, .ref aU, .ref aG, .ref aY, .ref aX, .int (iI qn), .ref aP, .int (iI tr), .int (iI rg), .int (iI ll), .int (iI p), .int (iI f), .int (iI ov), .int (iI sz), .ref aM, .int (iI tz), .ref aA, .int (iI dm), .ref aD, .ref aB, .ref aV, .ref aE])), (aT, .inl (cI, 3000, .inl gv)), (aO, .inl (cI, 3000, .inl fO))] := xD
          refine lv_aload_n xe xb d_TripleLinesModel_pass_64 rfl (lv_at xl 0 rfl) ?_
          refine va_get (D := D) (ci := 6) (v := .int (iI (tm + om))) (C := R_TripleLinesModel) (T := F_TripleLinesModel) (N := 29) xe xb xt i_TripleLinesModel xo xK xP 0 rfl rfl 0 (by decide) (xt _ mw_TripleLinesModel_71) (fun _ h9 => h9) rfl d_TripleLinesModel_pass_65 ?_
          exact xret _ _ _ _ (tm + om) ((tm + om), gv) d_TripleLinesModel_pass_68 trivial (by omega) (by first | exact (⟨by omega, by omega, Or.inr ⟨by omega, rfl, by rw [show om = k by omega]; exact h1⟩⟩) | (dsimp only; exact (⟨by omega, by omega, Or.inr ⟨by omega, rfl, by rw [show om = k by omega]; exact h1⟩⟩))) xP xD xS
        · refine lv_aload_n xe xb d_TripleLinesModel_pass_28 rfl (lv_at xl 0 rfl) ?_
          refine va_get (D := D) (ci := 6) (v := .ref aT) (C := R_TripleLinesModel) (T := F_TripleLinesModel) (N := 29) xe xb xt i_TripleLinesModel xo xK xP 0 rfl rfl 1 (by decide) (xt _ mw_TripleLinesModel_7) (fun _ h9 => h9) rfl d_TripleLinesModel_pass_29 ?_
          refine lv_aload_n xe xb d_TripleLinesModel_pass_32 rfl (lv_at xl 0 rfl) ?_
          refine va_get (D := D) (ci := 6) (v := .int (iI tm)) (C := R_TripleLinesModel) (T := F_TripleLinesModel) (N := 29) xe xb xt i_TripleLinesModel xo xK xP 0 rfl rfl 0 (by decide) (xt _ mw_TripleLinesModel_71) (fun _ h9 => h9) rfl d_TripleLinesModel_pass_33 ?_
          refine lv_iload_n xe xb d_TripleLinesModel_pass_36 rfl (lv_at xl 1 rfl) ?_
          refine tk_iadd xe xb d_TripleLinesModel_pass_37 ?_
          refine lv_aload_n xe xb d_TripleLinesModel_pass_38 rfl (lv_at xl 0 rfl) ?_
          refine va_get (D := D) (ci := 6) (v := .ref aO) (C := R_TripleLinesModel) (T := F_TripleLinesModel) (N := 29) xe xb xt i_TripleLinesModel xo xK xP 0 rfl rfl 3 (by decide) (xt _ mw_TripleLinesModel_13) (fun _ h9 => h9) rfl d_TripleLinesModel_pass_39 ?_
          refine lv_iload_n xe xb d_TripleLinesModel_pass_42 rfl (lv_at xl 1 rfl) ?_
          refine tk_iald xe xb xK xP 2 0 rfl rfl (by omega) d_TripleLinesModel_pass_43 ?_
          have hr_3 := tI_rg fO k
          refine tk_iast xe xb xK xP xD xS 1 0 rfl rfl (by omega) d_TripleLinesModel_pass_44 ?_
          clear xP xD xS
          intro H locs xP xD xS
          replace xP : va_P D classes [(mM, .inr (6, [.int (iI tm), .ref aT, .int (iI om), .ref aO, .int (iI tn), .ref aK, .ref aS, .ref aC, .ref aU, .ref aG, .ref aY, .ref aX, .int (iI qn), .ref aP, .int (iI tr), .int (iI rg), .int (iI ll), .int (iI p), .int (iI f), .int (iI ov), .int (iI sz), .ref aM, .int (iI tz), .ref aA, .int (iI dm), .ref aD, .ref aB, .ref aV, .ref aE])), (aT, .inl (cI, 3000, .inl (fu gv (tm + k) (tI fO k)))), (aO, .inl (cI, 3000, .inl fO))] H := xP
          replace xD : va_D xA0 [(mM, .inr (6, [.int (iI tm), .ref aT, .int (iI om), .ref aO, .int (iI tn), .ref aK, .ref aS, .ref aC, .ref aU, .ref aG, .ref aY, .ref aX, .int (iI qn), .ref aP, .int (iI tr), .int (iI rg), .int (iI ll), .int (iI p), .int (iI f), .int (iI ov), .int (iI sz), .ref aM, .int (iI tz), .ref aA, .int (iI dm), .ref aD, .ref aB, .ref aV, .ref aE])), (aT, .inl (cI, 3000, .inl (fu gv (tm + k) (tI fO k)))), (aO, .inl (cI, 3000, .inl fO))] := xD
          refine tk_iinc (v := (k + 1)) (lv' := [(1, .int (iI (k + 1))), (0, .ref mM)]) xe xb d_TripleLinesModel_pass_45 xl (k := 1) rfl rfl (by decide) rfl ?_
          clear xl
          intro ls xl
          refine lv_goto (tgt := 20) xe xb d_TripleLinesModel_pass_48 (by decide) ?_
          exact ih_20 (k + 1) (fu gv (tm + k) (tI fO k)) (by omega) (by first | assumption | omega) (by rw [show tm + (k + 1) = tm + k + 1 by omega, lst_push gv (by omega) (tI_rg _ _), h1, lst_succ _ hk.1, List.append_assoc]) _ _ xP xD xS ls (lv_sub xl [1, 0] rfl)
    exact loop_20 _ 0 fT (Nat.lt_succ_self _) (by first | assumption | omega) (by rw [lst_neg (g := tI fO) (Int.le_refl 0), List.append_nil, Int.add_zero]) _ _ xP xD xS ls (lv_sub xl [1, 0] rfl)
  · refine lv_bipush (v := iI (-3)) xe xb d_TripleLinesModel_pass_15 (by decide) ?_
    exact xret _ _ _ _ (-3) (tm, fT) d_TripleLinesModel_pass_17 trivial (by omega) (by first | exact (⟨by omega, by omega, Or.inl ⟨by omega, rfl, rfl⟩⟩) | (dsimp only; exact (⟨by omega, by omega, Or.inl ⟨by omega, rfl, rfl⟩⟩))) xP xD xS
set_option maxHeartbeats 4000000 in
set_option maxRecDepth 100000 in
theorem c_TripleLinesModel_type (l : Launch) (D : va_G) (cI : ClassId) (mM : Nat) (tm : Int) (aT : Nat) (om : Int) (aO : Nat) (tn : Int) (aK : Nat) (aS : Nat) (aC : Nat) (aU : Nat) (aG : Nat) (aY : Nat) (aX : Nat) (qn : Int) (aP : Nat) (tr : Int) (rg : Int) (ll : Int) (p : Int) (f : Int) (ov : Int) (sz : Int) (aM : Nat) (tz : Int) (aA : Nat) (dm : Int) (aD : Nat) (aB : Nat) (aV : Nat) (aE : Nat) (fT : Nat → Int32) (b : Int) (n : Int) (hnt : 0 ≤ tm ∧ tm ≤ 3000) (hn9 : -2147483648 ≤ n ∧ n < 2147483648) : CtI l D [(cI, .int)] y_TripleLinesModel_type b_TripleLinesModel_type 5 (some .int) 1 [.ref mM, .long (jI b), .int (iI n)] [(mM, .inr (6, [.int (iI tm), .ref aT, .int (iI om), .ref aO, .int (iI tn), .ref aK, .ref aS, .ref aC, .ref aU, .ref aG, .ref aY, .ref aX, .int (iI qn), .ref aP, .int (iI tr), .int (iI rg), .int (iI ll), .int (iI p), .int (iI f), .int (iI ov), .int (iI sz), .ref aM, .int (iI tz), .ref aA, .int (iI dm), .ref aD, .ref aB, .ref aV, .ref aE])), (aT, .inl (cI, 3000, .inl fT))] (S := Int × (Nat → Int32)) (fun z u => (0 ≤ u.1 ∧ u.1 ≤ 3000) ∧ tyA b n z (lst (tI fT) tm) (lst (tI u.2) u.1)) (fun u => [(mM, .inr (6, [.int (iI u.1), .ref aT, .int (iI om), .ref aO, .int (iI tn), .ref aK, .ref aS, .ref aC, .ref aU, .ref aG, .ref aY, .ref aX, .int (iI qn), .ref aP, .int (iI tr), .int (iI rg), .int (iI ll), .int (iI p), .int (iI f), .int (iI ov), .int (iI sz), .ref aM, .int (iI tz), .ref aA, .int (iI dm), .ref aD, .ref aB, .ref aV, .ref aE])), (aT, .inl (cI, 3000, .inl u.2))]) := by
  refine CtI.walk (fun _ => True) (fun z _ => vp_nar_int _) (by decide) (Nat.le_of_ble_eq_true rfl) ?_
  intro xp xe0 xs xm xar xbelow xmeth xc xA0 xQ xe xb xml xo xt xP xK xD xA xret ls xl xS
  have xl : lv_has ls 5 [(0, .ref mM), (1, .long (jI b)), (3, .int (iI n))] := xl
  have xo : xs.vm.findClass R_TripleLinesModel = some xm.cls := xo
  have hL : ((lst (tI fT) tm).length : Int) = tm := by rw [lst_length]; omega
  refine lv_iload_n xe xb d_TripleLinesModel_type_0 rfl (lv_at xl 2 rfl) ?_
  refine lv_iconst (v := iI (1)) xe xb d_TripleLinesModel_type_1 rfl ?_
  refine lv_bipush (v := iI (8)) xe xb d_TripleLinesModel_type_2 (by decide) ?_
  refine tk_callSi (As := [.int (iI n), .int (iI 1), .int (iI 8)]) (rest := []) (wr := [(mM, .inr (6, [.int (iI tm), .ref aT, .int (iI om), .ref aO, .int (iI tn), .ref aK, .ref aS, .ref aC, .ref aU, .ref aG, .ref aY, .ref aX, .int (iI qn), .ref aP, .int (iI tr), .int (iI rg), .int (iI ll), .int (iI p), .int (iI f), .int (iI ov), .int (iI sz), .ref aM, .int (iI tz), .ref aA, .int (iI dm), .ref aD, .ref aB, .ref aV, .ref aE])), (aT, .inl (cI, 3000, .inl fT))]) (wn := fun u => [(mM, .inr (6, [.int (iI tm), .ref aT, .int (iI om), .ref aO, .int (iI tn), .ref aK, .ref aS, .ref aC, .ref aU, .ref aG, .ref aY, .ref aX, .int (iI qn), .ref aP, .int (iI tr), .int (iI rg), .int (iI ll), .int (iI p), .int (iI f), .int (iI ov), .int (iI sz), .ref aM, .int (iI tz), .ref aA, .int (iI dm), .ref aD, .ref aB, .ref aV, .ref aE])), (aT, .inl (cI, 3000, .inl fT))]) ⟨xe, xb, xml, xo, xt⟩ (c_TripleLinesModel_in l D cI n 1 8 (by first | assumption | omega) (by first | assumption | omega) (by first | assumption | omega)) k_TripleLinesModel_in mw_TripleLinesModel_63 ⟨Nat.le_of_ble_eq_true rfl, Nat.le_of_ble_eq_true rfl⟩ xK xP xD xS xA rfl xl.1 rfl (Nat.le_of_ble_eq_true rfl) d_TripleLinesModel_type_4 ⟨Nat.zero_le _, Nat.zero_le _⟩ [] [0, 1] [0, 1] rfl rfl (by decide) (by decide) (by decide) (by decide) (fun _ => rfl) ?_
  clear xP xD xS
  intro z_2 u H locs hr_3 hw_1 xP xD xS
  try dsimp only at hw_1
  replace xP : va_P D classes [(mM, .inr (6, [.int (iI tm), .ref aT, .int (iI om), .ref aO, .int (iI tn), .ref aK, .ref aS, .ref aC, .ref aU, .ref aG, .ref aY, .ref aX, .int (iI qn), .ref aP, .int (iI tr), .int (iI rg), .int (iI ll), .int (iI p), .int (iI f), .int (iI ov), .int (iI sz), .ref aM, .int (iI tz), .ref aA, .int (iI dm), .ref aD, .ref aB, .ref aV, .ref aE])), (aT, .inl (cI, 3000, .inl fT))] H := xP
  replace xD : va_D xA0 [(mM, .inr (6, [.int (iI tm), .ref aT, .int (iI om), .ref aO, .int (iI tn), .ref aK, .ref aS, .ref aC, .ref aU, .ref aG, .ref aY, .ref aX, .int (iI qn), .ref aP, .int (iI tr), .int (iI rg), .int (iI ll), .int (iI p), .int (iI f), .int (iI ov), .int (iI sz), .ref aM, .int (iI tz), .ref aA, .int (iI dm), .ref aD, .ref aB, .ref aV, .ref aE])), (aT, .inl (cI, 3000, .inl fT))] := xD
  rcases hw_1 with ⟨rfl, hb_4⟩ | ⟨rfl, hb_5⟩
  · refine tk_if_ne (tgt := 12) xe xb d_TripleLinesModel_type_7 (by decide) (by omega) (fun c_6 => ?_) (fun c_6 => absurd c_6 (by omega))
    refine lv_aload_n xe xb d_TripleLinesModel_type_12 rfl (lv_at xl 0 rfl) ?_
    refine va_get (D := D) (ci := 6) (v := .int (iI tm)) (C := R_TripleLinesModel) (T := F_TripleLinesModel) (N := 29) xe xb xt i_TripleLinesModel xo xK xP 0 rfl rfl 0 (by decide) (xt _ mw_TripleLinesModel_71) (fun _ h9 => h9) rfl d_TripleLinesModel_type_13 ?_
    refine lv_iload_n xe xb d_TripleLinesModel_type_16 rfl (lv_at xl 2 rfl) ?_
    refine tk_iadd xe xb d_TripleLinesModel_type_17 ?_
    refine lv_sipush (v := iI (3000)) xe xb d_TripleLinesModel_type_18 (by decide) ?_
    refine tk_icmp_le (tgt := 27) xe xb d_TripleLinesModel_type_21 (by decide) (by omega) (fun c_7 => ?_) (fun c_7 => ?_)
    · refine lv_iload_n xe xb d_TripleLinesModel_type_27 rfl (lv_at xl 2 rfl) ?_
      refine lv_iconst (v := iI (1)) xe xb d_TripleLinesModel_type_28 rfl ?_
      refine tk_isub xe xb d_TripleLinesModel_type_29 ?_
      refine lv_istore (lv' := [(4, .int (iI (n - 1))), (0, .ref mM), (1, .long (jI b)), (3, .int (iI n))]) xe xb d_TripleLinesModel_type_30 xl (by decide) rfl ?_
      clear xl
      intro ls xl
      have loop_32 : ∀ (n9 : Nat) (i : Int) (nv : Int) (gv : Nat → Int32), (i + 1).toNat < n9 → (-1 ≤ i ∧ i < n ∧ n ≤ 8 ∧ 1 ≤ n ∧ nv + i + 1 = tm + n ∧ tm + n ≤ 3000 ∧ tm ≤ nv) → (lst (tI gv) nv ++ tb b (i + 1).toNat = lst (tI fT) tm ++ tb b n.toNat) → ∀ (H : Heap) (locs : List Loc), va_P D classes [(mM, .inr (6, [.int (iI nv), .ref aT, .int (iI om), .ref aO, .int (iI tn), .ref aK, .ref aS, .ref aC, .ref aU, .ref aG, .ref aY, .ref aX, .int (iI qn), .ref aP, .int (iI tr), .int (iI rg), .int (iI ll), .int (iI p), .int (iI f), .int (iI ov), .int (iI sz), .ref aM, .int (iI tz), .ref aA, .int (iI dm), .ref aD, .ref aB, .ref aV, .ref aE])), (aT, .inl (cI, 3000, .inl gv))] H → va_D xA0 [(mM, .inr (6, [.int (iI nv), .ref aT, .int (iI om), .ref aO, .int (iI tn), .ref aK, .ref aS, .ref aC, .ref aU, .ref aG, .ref aY, .ref aX, .int (iI qn), .ref aP, .int (iI tr), .int (iI rg), .int (iI ll), .int (iI p), .int (iI f), .int (iI ov), .int (iI sz), .ref aM, .int (iI tz), .ref aA, .int (iI dm), .ref aD, .ref aB, .ref aV, .ref aE])), (aT, .inl (cI, 3000, .inl gv))] → va_S xA0 xs.heap H locs → ∀ ls : Array Slot, lv_has ls 5 [(0, .ref mM), (1, .long (jI b)), (4, .int (iI i))] → W xp l xe0 (tk_rm 1) xs xm xar xbelow xmeth xc H locs 0 0 xQ (F0 xm 32 ls []) := by
        intro n9
        induction n9 with
        | zero => intro i nv gv h9; exact absurd h9 (Nat.not_lt_zero _)
        | succ n9 ih9 =>
          intro i nv gv hm9 hi h1 H locs xP xD xS ls xl
          have ih_32 := ih9
          have hm_32 := hm9
          refine lv_iload xe xb d_TripleLinesModel_type_32 (lv_at xl 2 rfl) ?_
          refine tk_if_lt (tgt := 74) xe xb d_TripleLinesModel_type_34 (by decide) (by omega) (fun c_8 => ?_) (fun c_8 => ?_)
          · refine lv_aload_n xe xb d_TripleLinesModel_type_74 rfl (lv_at xl 0 rfl) ?_
            refine va_get (D := D) (ci := 6) (v := .int (iI nv)) (C := R_TripleLinesModel) (T := F_TripleLinesModel) (N := 29) xe xb xt i_TripleLinesModel xo xK xP 0 rfl rfl 0 (by decide) (xt _ mw_TripleLinesModel_71) (fun _ h9 => h9) rfl d_TripleLinesModel_type_75 ?_
            exact xret _ _ _ _ nv (nv, gv) d_TripleLinesModel_type_78 trivial (by omega) (by first | exact (⟨by omega, Or.inr (Or.inr ⟨by omega, by omega, by omega, by rw [← h1, show (i + 1).toNat = 0 by omega, tb, List.append_nil]⟩)⟩) | (dsimp only; exact (⟨by omega, Or.inr (Or.inr ⟨by omega, by omega, by omega, by rw [← h1, show (i + 1).toNat = 0 by omega, tb, List.append_nil]⟩)⟩))) xP xD xS
          · refine lv_aload_n xe xb d_TripleLinesModel_type_37 rfl (lv_at xl 0 rfl) ?_
            refine va_get (D := D) (ci := 6) (v := .ref aT) (C := R_TripleLinesModel) (T := F_TripleLinesModel) (N := 29) xe xb xt i_TripleLinesModel xo xK xP 0 rfl rfl 1 (by decide) (xt _ mw_TripleLinesModel_7) (fun _ h9 => h9) rfl d_TripleLinesModel_type_38 ?_
            refine lv_aload_n xe xb d_TripleLinesModel_type_41 rfl (lv_at xl 0 rfl) ?_
            refine va_get (D := D) (ci := 6) (v := .int (iI nv)) (C := R_TripleLinesModel) (T := F_TripleLinesModel) (N := 29) xe xb xt i_TripleLinesModel xo xK xP 0 rfl rfl 0 (by decide) (xt _ mw_TripleLinesModel_71) (fun _ h9 => h9) rfl d_TripleLinesModel_type_42 ?_
            refine lv_lload_n xe xb d_TripleLinesModel_type_45 rfl (lv_at xl 1 rfl) ?_
            refine lv_bipush (v := iI (8)) xe xb d_TripleLinesModel_type_46 (by decide) ?_
            refine lv_iload xe xb d_TripleLinesModel_type_48 (lv_at xl 2 rfl) ?_
            refine tk_imul xe xb d_TripleLinesModel_type_50 ?_
            refine tk_lshr xe xb d_TripleLinesModel_type_51 ?_
            refine lv_ldc2 (v := jI 255) xe xb xo (by have h9 := xt _ mw_TripleLinesModel_74; exact h9) d_TripleLinesModel_type_52 ?_
            refine tk_land xe xb d_TripleLinesModel_type_55 ?_
            refine tk_l2i xe xb d_TripleLinesModel_type_56 ?_
            refine tk_iast xe xb xK xP xD xS 1 0 rfl rfl (by omega) d_TripleLinesModel_type_57 ?_
            clear xP xD xS
            intro H locs xP xD xS
            replace xP : va_P D classes [(mM, .inr (6, [.int (iI nv), .ref aT, .int (iI om), .ref aO, .int (iI tn), .ref aK, .ref aS, .ref aC, .ref aU, .ref aG, .ref aY, .ref aX, .int (iI qn), .ref aP, .int (iI tr), .int (iI rg), .int (iI ll), .int (iI p), .int (iI f), .int (iI ov), .int (iI sz), .ref aM, .int (iI tz), .ref aA, .int (iI dm), .ref aD, .ref aB, .ref aV, .ref aE])), (aT, .inl (cI, 3000, .inl (fu gv nv (anJ (shJ b (8 * i)) 255))))] H := xP
            replace xD : va_D xA0 [(mM, .inr (6, [.int (iI nv), .ref aT, .int (iI om), .ref aO, .int (iI tn), .ref aK, .ref aS, .ref aC, .ref aU, .ref aG, .ref aY, .ref aX, .int (iI qn), .ref aP, .int (iI tr), .int (iI rg), .int (iI ll), .int (iI p), .int (iI f), .int (iI ov), .int (iI sz), .ref aM, .int (iI tz), .ref aA, .int (iI dm), .ref aD, .ref aB, .ref aV, .ref aE])), (aT, .inl (cI, 3000, .inl (fu gv nv (anJ (shJ b (8 * i)) 255))))] := xD
            refine lv_aload_n xe xb d_TripleLinesModel_type_58 rfl (lv_at xl 0 rfl) ?_
            refine lv_dup xe xb d_TripleLinesModel_type_59 rfl ?_
            refine va_get (D := D) (ci := 6) (v := .int (iI nv)) (C := R_TripleLinesModel) (T := F_TripleLinesModel) (N := 29) xe xb xt i_TripleLinesModel xo xK xP 0 rfl rfl 0 (by decide) (xt _ mw_TripleLinesModel_71) (fun _ h9 => h9) rfl d_TripleLinesModel_type_60 ?_
            refine lv_iconst (v := iI (1)) xe xb d_TripleLinesModel_type_63 rfl ?_
            refine tk_iadd xe xb d_TripleLinesModel_type_64 ?_
            refine va_put (D := D) (ci := 6) (v := .int (iI (nv + 1))) (ty := .int) (C := R_TripleLinesModel) (T := F_TripleLinesModel) (N := 29) xe xb xt i_TripleLinesModel t_TripleLinesModel t_TripleLinesModel_ok n_TripleLinesModel xo xK xP xD xS 0 rfl rfl 0 (by decide) (xt _ mw_TripleLinesModel_71) (fun _ h9 => h9) rfl (by decide +kernel) rfl rfl (Nat.le_of_ble_eq_true rfl) d_TripleLinesModel_type_65 ?_
            clear xP xD xS
            intro H locs xP xD xS
            replace xP : va_P D classes [(mM, .inr (6, [.int (iI (nv + 1)), .ref aT, .int (iI om), .ref aO, .int (iI tn), .ref aK, .ref aS, .ref aC, .ref aU, .ref aG, .ref aY, .ref aX, .int (iI qn), .ref aP, .int (iI tr), .int (iI rg), .int (iI ll), .int (iI p), .int (iI f), .int (iI ov), .int (iI sz), .ref aM, .int (iI tz), .ref aA, .int (iI dm), .ref aD, .ref aB, .ref aV, .ref aE])), (aT, .inl (cI, 3000, .inl (fu gv nv (anJ (shJ b (8 * i)) 255))))] H := xP
            replace xD : va_D xA0 [(mM, .inr (6, [.int (iI (nv + 1)), .ref aT, .int (iI om), .ref aO, .int (iI tn), .ref aK, .ref aS, .ref aC, .ref aU, .ref aG, .ref aY, .ref aX, .int (iI qn), .ref aP, .int (iI tr), .int (iI rg), .int (iI ll), .int (iI p), .int (iI f), .int (iI ov), .int (iI sz), .ref aM, .int (iI tz), .ref aA, .int (iI dm), .ref aD, .ref aB, .ref aV, .ref aE])), (aT, .inl (cI, 3000, .inl (fu gv nv (anJ (shJ b (8 * i)) 255))))] := xD
            refine tk_iinc (v := (i + (-1))) (lv' := [(4, .int (iI (i + (-1)))), (0, .ref mM), (1, .long (jI b))]) xe xb d_TripleLinesModel_type_68 xl (k := 2) rfl rfl (by decide) rfl ?_
            clear xl
            intro ls xl
            refine lv_goto (tgt := 32) xe xb d_TripleLinesModel_type_71 (by decide) ?_
            exact ih_32 (i + (-1)) (nv + 1) (fu gv nv (anJ (shJ b (8 * i)) 255)) (by omega) (by first | assumption | omega) (by rw [tbM (by omega) (by omega), lst_push gv (by omega) (by have h9 := anI_255 (ushJ b (8 * i)); omega)]; exact tb_step (by omega) h1) _ _ xP xD xS ls (lv_sub xl [1, 2, 0] rfl)
      exact loop_32 _ (n - 1) tm fT (Nat.lt_succ_self _) (by first | assumption | omega) (by rw [show n - 1 + 1 = n by omega]) _ _ xP xD xS ls (lv_sub xl [1, 2, 0] rfl)
    · refine lv_bipush (v := iI (-3)) xe xb d_TripleLinesModel_type_24 (by decide) ?_
      exact xret _ _ _ _ (-3) (tm, fT) d_TripleLinesModel_type_26 trivial (by omega) (by first | exact (⟨by omega, Or.inr (Or.inl ⟨by omega, by omega, rfl, rfl⟩)⟩) | (dsimp only; exact (⟨by omega, Or.inr (Or.inl ⟨by omega, by omega, rfl, rfl⟩)⟩))) xP xD xS
  · refine tk_if_ne (tgt := 12) xe xb d_TripleLinesModel_type_7 (by decide) (by omega) (fun c_9 => absurd c_9 (by omega)) (fun c_9 => ?_)
    refine lv_iconst (v := iI (-1)) xe xb d_TripleLinesModel_type_10 rfl ?_
    exact xret _ _ _ _ (-1) (tm, fT) d_TripleLinesModel_type_11 trivial (by omega) (by first | exact (⟨by omega, Or.inl ⟨by omega, rfl, rfl⟩⟩) | (dsimp only; exact (⟨by omega, Or.inl ⟨by omega, rfl, rfl⟩⟩))) xP xD xS
