def qAns (P : Nat → Int32) (qz i w : Int) : Int := if (0 ≤ i ∧ i < qz) ∧ 0 ≤ w ∧ w < 4 then (if tI P (i * 4 + w) = -1 then -2 else tI P (i * 4 + w)) else -1
def tAns (K Ln TL TY : Nat → Int32) (sz t w : Int) : Int := if 0 ≤ t ∧ t < sz then (if w = 0 then tI K t else if w = 1 then (if tI TY t ≠ -1 then 2 else if 0 < tI TL t then 1 else 0) else if w = 2 then tI Ln t else if w = 3 then tI TL t else if w = 4 then (if tI TY t = -1 then -2 else tI TY t) else -1) else -1
def cAns (Ln C : Nat → Int32) (sz t i : Int) : Int := if (0 ≤ t ∧ t < sz) ∧ 0 ≤ i ∧ i < tI Ln t ∧ i < 40 then tI C (t * 40 + i) else -1
def nAns (qz sz re nt no w : Int) : Int := if w = 0 then qz else if w = 1 then sz else if w = 2 then re else if w = 3 then nt else if w = 4 then no else -1
theorem d_TripleLines_line_0 : decode b_TripleLines_line 0 = .ok (.aload_n 0, 1) := by decide +kernel
theorem d_TripleLines_line_1 : decode b_TripleLines_line 1 = .ok (.getfield 53, 3) := by decide +kernel
theorem d_TripleLines_line_4 : decode b_TripleLines_line 4 = .ok (.ireturn, 1) := by decide +kernel
theorem d_TripleLines_quad_0 : decode b_TripleLines_quad 0 = .ok (.aload_n 0, 1) := by decide +kernel
theorem d_TripleLines_quad_1 : decode b_TripleLines_quad 1 = .ok (.getfield 31, 3) := by decide +kernel
theorem d_TripleLines_quad_4 : decode b_TripleLines_quad 4 = .ok (.iload_n 1, 1) := by decide +kernel
theorem d_TripleLines_quad_5 : decode b_TripleLines_quad 5 = .ok (.invokevirtual 109, 3) := by decide +kernel
theorem d_TripleLines_quad_8 : decode b_TripleLines_quad 8 = .ok (.ifCond .eq 12, 3) := by decide +kernel
theorem d_TripleLines_quad_11 : decode b_TripleLines_quad 11 = .ok (.iload_n 2, 1) := by decide +kernel
theorem d_TripleLines_quad_12 : decode b_TripleLines_quad 12 = .ok (.ifCond .lt 8, 3) := by decide +kernel
theorem d_TripleLines_quad_15 : decode b_TripleLines_quad 15 = .ok (.iload_n 2, 1) := by decide +kernel
theorem d_TripleLines_quad_16 : decode b_TripleLines_quad 16 = .ok (.iconst 4, 1) := by decide +kernel
theorem d_TripleLines_quad_17 : decode b_TripleLines_quad 17 = .ok (.if_icmp .lt 5, 3) := by decide +kernel
theorem d_TripleLines_quad_20 : decode b_TripleLines_quad 20 = .ok (.iconst (-1), 1) := by decide +kernel
theorem d_TripleLines_quad_21 : decode b_TripleLines_quad 21 = .ok (.ireturn, 1) := by decide +kernel
theorem d_TripleLines_quad_22 : decode b_TripleLines_quad 22 = .ok (.aload_n 0, 1) := by decide +kernel
theorem d_TripleLines_quad_23 : decode b_TripleLines_quad 23 = .ok (.getfield 31, 3) := by decide +kernel
theorem d_TripleLines_quad_26 : decode b_TripleLines_quad 26 = .ok (.iload_n 1, 1) := by decide +kernel
theorem d_TripleLines_quad_27 : decode b_TripleLines_quad 27 = .ok (.iload_n 2, 1) := by decide +kernel
theorem d_TripleLines_quad_28 : decode b_TripleLines_quad 28 = .ok (.invokevirtual 113, 3) := by decide +kernel
theorem d_TripleLines_quad_31 : decode b_TripleLines_quad 31 = .ok (.istore_n 3, 1) := by decide +kernel
theorem d_TripleLines_quad_32 : decode b_TripleLines_quad 32 = .ok (.iload_n 3, 1) := by decide +kernel
theorem d_TripleLines_quad_33 : decode b_TripleLines_quad 33 = .ok (.iconst (-1), 1) := by decide +kernel
theorem d_TripleLines_quad_34 : decode b_TripleLines_quad 34 = .ok (.if_icmp .ne 8, 3) := by decide +kernel
theorem d_TripleLines_quad_37 : decode b_TripleLines_quad 37 = .ok (.bipush (-2), 2) := by decide +kernel
theorem d_TripleLines_quad_39 : decode b_TripleLines_quad 39 = .ok (.goto 4, 3) := by decide +kernel
theorem d_TripleLines_quad_42 : decode b_TripleLines_quad 42 = .ok (.iload_n 3, 1) := by decide +kernel
theorem d_TripleLines_quad_43 : decode b_TripleLines_quad 43 = .ok (.ireturn, 1) := by decide +kernel
theorem d_TripleLines_term_0 : decode b_TripleLines_term 0 = .ok (.aload_n 0, 1) := by decide +kernel
theorem d_TripleLines_term_1 : decode b_TripleLines_term 1 = .ok (.getfield 24, 3) := by decide +kernel
theorem d_TripleLines_term_4 : decode b_TripleLines_term 4 = .ok (.iload_n 1, 1) := by decide +kernel
theorem d_TripleLines_term_5 : decode b_TripleLines_term 5 = .ok (.invokevirtual 117, 3) := by decide +kernel
theorem d_TripleLines_term_8 : decode b_TripleLines_term 8 = .ok (.ifCond .ne 5, 3) := by decide +kernel
theorem d_TripleLines_term_11 : decode b_TripleLines_term 11 = .ok (.iconst (-1), 1) := by decide +kernel
theorem d_TripleLines_term_12 : decode b_TripleLines_term 12 = .ok (.ireturn, 1) := by decide +kernel
theorem d_TripleLines_term_13 : decode b_TripleLines_term 13 = .ok (.iload_n 2, 1) := by decide +kernel
theorem d_TripleLines_term_14 : decode b_TripleLines_term 14 = .ok (.tableswitch 101 0 4 #[34, 44, 53, 63, 73], 34) := by decide +kernel
theorem d_TripleLines_term_48 : decode b_TripleLines_term 48 = .ok (.aload_n 0, 1) := by decide +kernel
theorem d_TripleLines_term_49 : decode b_TripleLines_term 49 = .ok (.getfield 24, 3) := by decide +kernel
theorem d_TripleLines_term_52 : decode b_TripleLines_term 52 = .ok (.getfield 118, 3) := by decide +kernel
theorem d_TripleLines_term_55 : decode b_TripleLines_term 55 = .ok (.iload_n 1, 1) := by decide +kernel
theorem d_TripleLines_term_56 : decode b_TripleLines_term 56 = .ok (.iaload, 1) := by decide +kernel
theorem d_TripleLines_term_57 : decode b_TripleLines_term 57 = .ok (.ireturn, 1) := by decide +kernel
theorem d_TripleLines_term_58 : decode b_TripleLines_term 58 = .ok (.aload_n 0, 1) := by decide +kernel
theorem d_TripleLines_term_59 : decode b_TripleLines_term 59 = .ok (.getfield 24, 3) := by decide +kernel
theorem d_TripleLines_term_62 : decode b_TripleLines_term 62 = .ok (.iload_n 1, 1) := by decide +kernel
theorem d_TripleLines_term_63 : decode b_TripleLines_term 63 = .ok (.invokevirtual 122, 3) := by decide +kernel
theorem d_TripleLines_term_66 : decode b_TripleLines_term 66 = .ok (.ireturn, 1) := by decide +kernel
theorem d_TripleLines_term_67 : decode b_TripleLines_term 67 = .ok (.aload_n 0, 1) := by decide +kernel
theorem d_TripleLines_term_68 : decode b_TripleLines_term 68 = .ok (.getfield 24, 3) := by decide +kernel
theorem d_TripleLines_term_71 : decode b_TripleLines_term 71 = .ok (.getfield 125, 3) := by decide +kernel
theorem d_TripleLines_term_74 : decode b_TripleLines_term 74 = .ok (.iload_n 1, 1) := by decide +kernel
theorem d_TripleLines_term_75 : decode b_TripleLines_term 75 = .ok (.iaload, 1) := by decide +kernel
theorem d_TripleLines_term_76 : decode b_TripleLines_term 76 = .ok (.ireturn, 1) := by decide +kernel
theorem d_TripleLines_term_77 : decode b_TripleLines_term 77 = .ok (.aload_n 0, 1) := by decide +kernel
theorem d_TripleLines_term_78 : decode b_TripleLines_term 78 = .ok (.getfield 24, 3) := by decide +kernel
theorem d_TripleLines_term_81 : decode b_TripleLines_term 81 = .ok (.getfield 128, 3) := by decide +kernel
theorem d_TripleLines_term_84 : decode b_TripleLines_term 84 = .ok (.iload_n 1, 1) := by decide +kernel
theorem d_TripleLines_term_85 : decode b_TripleLines_term 85 = .ok (.iaload, 1) := by decide +kernel
theorem d_TripleLines_term_86 : decode b_TripleLines_term 86 = .ok (.ireturn, 1) := by decide +kernel
theorem d_TripleLines_term_87 : decode b_TripleLines_term 87 = .ok (.aload_n 0, 1) := by decide +kernel
theorem d_TripleLines_term_88 : decode b_TripleLines_term 88 = .ok (.getfield 24, 3) := by decide +kernel
theorem d_TripleLines_term_91 : decode b_TripleLines_term 91 = .ok (.getfield 131, 3) := by decide +kernel
theorem d_TripleLines_term_94 : decode b_TripleLines_term 94 = .ok (.iload_n 1, 1) := by decide +kernel
theorem d_TripleLines_term_95 : decode b_TripleLines_term 95 = .ok (.iaload, 1) := by decide +kernel
theorem d_TripleLines_term_96 : decode b_TripleLines_term 96 = .ok (.iconst (-1), 1) := by decide +kernel
theorem d_TripleLines_term_97 : decode b_TripleLines_term 97 = .ok (.if_icmp .ne 8, 3) := by decide +kernel
theorem d_TripleLines_term_100 : decode b_TripleLines_term 100 = .ok (.bipush (-2), 2) := by decide +kernel
theorem d_TripleLines_term_102 : decode b_TripleLines_term 102 = .ok (.goto 12, 3) := by decide +kernel
theorem d_TripleLines_term_105 : decode b_TripleLines_term 105 = .ok (.aload_n 0, 1) := by decide +kernel
theorem d_TripleLines_term_106 : decode b_TripleLines_term 106 = .ok (.getfield 24, 3) := by decide +kernel
theorem d_TripleLines_term_109 : decode b_TripleLines_term 109 = .ok (.getfield 131, 3) := by decide +kernel
theorem d_TripleLines_term_112 : decode b_TripleLines_term 112 = .ok (.iload_n 1, 1) := by decide +kernel
theorem d_TripleLines_term_113 : decode b_TripleLines_term 113 = .ok (.iaload, 1) := by decide +kernel
theorem d_TripleLines_term_114 : decode b_TripleLines_term 114 = .ok (.ireturn, 1) := by decide +kernel
theorem d_TripleLines_term_115 : decode b_TripleLines_term 115 = .ok (.iconst (-1), 1) := by decide +kernel
theorem d_TripleLines_term_116 : decode b_TripleLines_term 116 = .ok (.ireturn, 1) := by decide +kernel
theorem d_TripleLines_code_0 : decode b_TripleLines_code 0 = .ok (.aload_n 0, 1) := by decide +kernel
theorem d_TripleLines_code_1 : decode b_TripleLines_code 1 = .ok (.getfield 24, 3) := by decide +kernel
theorem d_TripleLines_code_4 : decode b_TripleLines_code 4 = .ok (.iload_n 1, 1) := by decide +kernel
theorem d_TripleLines_code_5 : decode b_TripleLines_code 5 = .ok (.iload_n 2, 1) := by decide +kernel
theorem d_TripleLines_code_6 : decode b_TripleLines_code 6 = .ok (.invokevirtual 134, 3) := by decide +kernel
theorem d_TripleLines_code_9 : decode b_TripleLines_code 9 = .ok (.istore_n 3, 1) := by decide +kernel
theorem d_TripleLines_code_10 : decode b_TripleLines_code 10 = .ok (.iload_n 3, 1) := by decide +kernel
theorem d_TripleLines_code_11 : decode b_TripleLines_code 11 = .ok (.iconst (-1), 1) := by decide +kernel
theorem d_TripleLines_code_12 : decode b_TripleLines_code 12 = .ok (.if_icmp .ne 7, 3) := by decide +kernel
theorem d_TripleLines_code_15 : decode b_TripleLines_code 15 = .ok (.iconst (-1), 1) := by decide +kernel
theorem d_TripleLines_code_16 : decode b_TripleLines_code 16 = .ok (.goto 4, 3) := by decide +kernel
theorem d_TripleLines_code_19 : decode b_TripleLines_code 19 = .ok (.iload_n 3, 1) := by decide +kernel
theorem d_TripleLines_code_20 : decode b_TripleLines_code 20 = .ok (.ireturn, 1) := by decide +kernel
theorem d_TripleLines_find_0 : decode b_TripleLines_find 0 = .ok (.aload_n 0, 1) := by decide +kernel
theorem d_TripleLines_find_1 : decode b_TripleLines_find 1 = .ok (.getfield 31, 3) := by decide +kernel
theorem d_TripleLines_find_4 : decode b_TripleLines_find 4 = .ok (.iload_n 1, 1) := by decide +kernel
theorem d_TripleLines_find_5 : decode b_TripleLines_find 5 = .ok (.iload_n 2, 1) := by decide +kernel
theorem d_TripleLines_find_6 : decode b_TripleLines_find 6 = .ok (.iload_n 3, 1) := by decide +kernel
theorem d_TripleLines_find_7 : decode b_TripleLines_find 7 = .ok (.iload 4, 2) := by decide +kernel
theorem d_TripleLines_find_9 : decode b_TripleLines_find 9 = .ok (.invokevirtual 137, 3) := by decide +kernel
theorem d_TripleLines_find_12 : decode b_TripleLines_find 12 = .ok (.istore 5, 2) := by decide +kernel
theorem d_TripleLines_find_14 : decode b_TripleLines_find 14 = .ok (.iload 5, 2) := by decide +kernel
theorem d_TripleLines_find_16 : decode b_TripleLines_find 16 = .ok (.iconst (-1), 1) := by decide +kernel
theorem d_TripleLines_find_17 : decode b_TripleLines_find 17 = .ok (.if_icmp .ne 8, 3) := by decide +kernel
theorem d_TripleLines_find_20 : decode b_TripleLines_find 20 = .ok (.bipush (-2), 2) := by decide +kernel
theorem d_TripleLines_find_22 : decode b_TripleLines_find 22 = .ok (.goto 5, 3) := by decide +kernel
theorem d_TripleLines_find_25 : decode b_TripleLines_find 25 = .ok (.iload 5, 2) := by decide +kernel
theorem d_TripleLines_find_27 : decode b_TripleLines_find 27 = .ok (.ireturn, 1) := by decide +kernel
theorem d_TripleLines_drop_0 : decode b_TripleLines_drop 0 = .ok (.aload_n 0, 1) := by decide +kernel
theorem d_TripleLines_drop_1 : decode b_TripleLines_drop 1 = .ok (.getfield 31, 3) := by decide +kernel
theorem d_TripleLines_drop_4 : decode b_TripleLines_drop 4 = .ok (.iload_n 1, 1) := by decide +kernel
theorem d_TripleLines_drop_5 : decode b_TripleLines_drop 5 = .ok (.invokevirtual 109, 3) := by decide +kernel
theorem d_TripleLines_drop_8 : decode b_TripleLines_drop 8 = .ok (.ifCond .ne 5, 3) := by decide +kernel
theorem d_TripleLines_drop_11 : decode b_TripleLines_drop 11 = .ok (.iconst (-1), 1) := by decide +kernel
theorem d_TripleLines_drop_12 : decode b_TripleLines_drop 12 = .ok (.ireturn, 1) := by decide +kernel
theorem d_TripleLines_drop_13 : decode b_TripleLines_drop 13 = .ok (.aload_n 0, 1) := by decide +kernel
theorem d_TripleLines_drop_14 : decode b_TripleLines_drop 14 = .ok (.getfield 31, 3) := by decide +kernel
theorem d_TripleLines_drop_17 : decode b_TripleLines_drop 17 = .ok (.iload_n 1, 1) := by decide +kernel
theorem d_TripleLines_drop_18 : decode b_TripleLines_drop 18 = .ok (.invokevirtual 141, 3) := by decide +kernel
theorem d_TripleLines_drop_21 : decode b_TripleLines_drop 21 = .ok (.aload_n 0, 1) := by decide +kernel
theorem d_TripleLines_drop_22 : decode b_TripleLines_drop 22 = .ok (.getfield 31, 3) := by decide +kernel
theorem d_TripleLines_drop_25 : decode b_TripleLines_drop 25 = .ok (.getfield 77, 3) := by decide +kernel
theorem d_TripleLines_drop_28 : decode b_TripleLines_drop 28 = .ok (.ireturn, 1) := by decide +kernel
theorem d_TripleLines_at_0 : decode b_TripleLines_at 0 = .ok (.aload_n 0, 1) := by decide +kernel
theorem d_TripleLines_at_1 : decode b_TripleLines_at 1 = .ok (.getfield 18, 3) := by decide +kernel
theorem d_TripleLines_at_4 : decode b_TripleLines_at 4 = .ok (.iload_n 1, 1) := by decide +kernel
theorem d_TripleLines_at_5 : decode b_TripleLines_at 5 = .ok (.invokevirtual 70, 3) := by decide +kernel
theorem d_TripleLines_at_8 : decode b_TripleLines_at 8 = .ok (.istore_n 2, 1) := by decide +kernel
theorem d_TripleLines_at_9 : decode b_TripleLines_at 9 = .ok (.iload_n 2, 1) := by decide +kernel
theorem d_TripleLines_at_10 : decode b_TripleLines_at 10 = .ok (.iconst (-1), 1) := by decide +kernel
theorem d_TripleLines_at_11 : decode b_TripleLines_at 11 = .ok (.if_icmp .ne 7, 3) := by decide +kernel
theorem d_TripleLines_at_14 : decode b_TripleLines_at 14 = .ok (.iconst (-1), 1) := by decide +kernel
theorem d_TripleLines_at_15 : decode b_TripleLines_at 15 = .ok (.goto 4, 3) := by decide +kernel
theorem d_TripleLines_at_18 : decode b_TripleLines_at 18 = .ok (.iload_n 2, 1) := by decide +kernel
theorem d_TripleLines_at_19 : decode b_TripleLines_at 19 = .ok (.ireturn, 1) := by decide +kernel
theorem d_TripleLines_count_0 : decode b_TripleLines_count 0 = .ok (.iload_n 1, 1) := by decide +kernel
theorem d_TripleLines_count_1 : decode b_TripleLines_count 1 = .ok (.tableswitch 72 0 4 #[35, 43, 51, 56, 64], 35) := by decide +kernel
theorem d_TripleLines_count_36 : decode b_TripleLines_count 36 = .ok (.aload_n 0, 1) := by decide +kernel
theorem d_TripleLines_count_37 : decode b_TripleLines_count 37 = .ok (.getfield 31, 3) := by decide +kernel
theorem d_TripleLines_count_40 : decode b_TripleLines_count 40 = .ok (.getfield 77, 3) := by decide +kernel
theorem d_TripleLines_count_43 : decode b_TripleLines_count 43 = .ok (.ireturn, 1) := by decide +kernel
theorem d_TripleLines_count_44 : decode b_TripleLines_count 44 = .ok (.aload_n 0, 1) := by decide +kernel
theorem d_TripleLines_count_45 : decode b_TripleLines_count 45 = .ok (.getfield 24, 3) := by decide +kernel
theorem d_TripleLines_count_48 : decode b_TripleLines_count 48 = .ok (.getfield 74, 3) := by decide +kernel
theorem d_TripleLines_count_51 : decode b_TripleLines_count 51 = .ok (.ireturn, 1) := by decide +kernel
theorem d_TripleLines_count_52 : decode b_TripleLines_count 52 = .ok (.aload_n 0, 1) := by decide +kernel
theorem d_TripleLines_count_53 : decode b_TripleLines_count 53 = .ok (.getfield 57, 3) := by decide +kernel
theorem d_TripleLines_count_56 : decode b_TripleLines_count 56 = .ok (.ireturn, 1) := by decide +kernel
theorem d_TripleLines_count_57 : decode b_TripleLines_count 57 = .ok (.aload_n 0, 1) := by decide +kernel
theorem d_TripleLines_count_58 : decode b_TripleLines_count 58 = .ok (.getfield 14, 3) := by decide +kernel
theorem d_TripleLines_count_61 : decode b_TripleLines_count 61 = .ok (.getfield 67, 3) := by decide +kernel
theorem d_TripleLines_count_64 : decode b_TripleLines_count 64 = .ok (.ireturn, 1) := by decide +kernel
theorem d_TripleLines_count_65 : decode b_TripleLines_count 65 = .ok (.aload_n 0, 1) := by decide +kernel
theorem d_TripleLines_count_66 : decode b_TripleLines_count 66 = .ok (.getfield 18, 3) := by decide +kernel
theorem d_TripleLines_count_69 : decode b_TripleLines_count 69 = .ok (.getfield 67, 3) := by decide +kernel
theorem d_TripleLines_count_72 : decode b_TripleLines_count 72 = .ok (.ireturn, 1) := by decide +kernel
theorem d_TripleLines_count_73 : decode b_TripleLines_count 73 = .ok (.iconst (-1), 1) := by decide +kernel
theorem d_TripleLines_count_74 : decode b_TripleLines_count 74 = .ok (.ireturn, 1) := by decide +kernel
theorem d_TripleLines_pass_0 : decode b_TripleLines_pass 0 = .ok (.aload_n 0, 1) := by decide +kernel
theorem d_TripleLines_pass_1 : decode b_TripleLines_pass 1 = .ok (.getfield 18, 3) := by decide +kernel
theorem d_TripleLines_pass_4 : decode b_TripleLines_pass 4 = .ok (.getfield 67, 3) := by decide +kernel
theorem d_TripleLines_pass_7 : decode b_TripleLines_pass 7 = .ok (.aload_n 0, 1) := by decide +kernel
theorem d_TripleLines_pass_8 : decode b_TripleLines_pass 8 = .ok (.getfield 14, 3) := by decide +kernel
theorem d_TripleLines_pass_11 : decode b_TripleLines_pass 11 = .ok (.invokevirtual 60, 3) := by decide +kernel
theorem d_TripleLines_pass_14 : decode b_TripleLines_pass 14 = .ok (.if_icmp .le 6, 3) := by decide +kernel
theorem d_TripleLines_pass_17 : decode b_TripleLines_pass 17 = .ok (.bipush (-3), 2) := by decide +kernel
theorem d_TripleLines_pass_19 : decode b_TripleLines_pass 19 = .ok (.ireturn, 1) := by decide +kernel
theorem d_TripleLines_pass_20 : decode b_TripleLines_pass 20 = .ok (.iconst 0, 1) := by decide +kernel
theorem d_TripleLines_pass_21 : decode b_TripleLines_pass 21 = .ok (.istore_n 1, 1) := by decide +kernel
theorem d_TripleLines_pass_22 : decode b_TripleLines_pass 22 = .ok (.iload_n 1, 1) := by decide +kernel
theorem d_TripleLines_pass_23 : decode b_TripleLines_pass 23 = .ok (.aload_n 0, 1) := by decide +kernel
theorem d_TripleLines_pass_24 : decode b_TripleLines_pass 24 = .ok (.getfield 18, 3) := by decide +kernel
theorem d_TripleLines_pass_27 : decode b_TripleLines_pass 27 = .ok (.getfield 67, 3) := by decide +kernel
theorem d_TripleLines_pass_30 : decode b_TripleLines_pass 30 = .ok (.if_icmp .ge 24, 3) := by decide +kernel
theorem d_TripleLines_pass_33 : decode b_TripleLines_pass 33 = .ok (.aload_n 0, 1) := by decide +kernel
theorem d_TripleLines_pass_34 : decode b_TripleLines_pass 34 = .ok (.getfield 14, 3) := by decide +kernel
theorem d_TripleLines_pass_37 : decode b_TripleLines_pass 37 = .ok (.aload_n 0, 1) := by decide +kernel
theorem d_TripleLines_pass_38 : decode b_TripleLines_pass 38 = .ok (.getfield 18, 3) := by decide +kernel
theorem d_TripleLines_pass_41 : decode b_TripleLines_pass 41 = .ok (.iload_n 1, 1) := by decide +kernel
theorem d_TripleLines_pass_42 : decode b_TripleLines_pass 42 = .ok (.invokevirtual 70, 3) := by decide +kernel
theorem d_TripleLines_pass_45 : decode b_TripleLines_pass 45 = .ok (.invokevirtual 64, 3) := by decide +kernel
theorem d_TripleLines_pass_48 : decode b_TripleLines_pass 48 = .ok (.iinc 1 1, 3) := by decide +kernel
theorem d_TripleLines_pass_51 : decode b_TripleLines_pass 51 = .ok (.goto (-29), 3) := by decide +kernel
theorem d_TripleLines_pass_54 : decode b_TripleLines_pass 54 = .ok (.aload_n 0, 1) := by decide +kernel
theorem d_TripleLines_pass_55 : decode b_TripleLines_pass 55 = .ok (.getfield 14, 3) := by decide +kernel
theorem d_TripleLines_pass_58 : decode b_TripleLines_pass 58 = .ok (.getfield 67, 3) := by decide +kernel
theorem d_TripleLines_pass_61 : decode b_TripleLines_pass 61 = .ok (.ireturn, 1) := by decide +kernel
set_option maxHeartbeats 4000000 in
set_option maxRecDepth 100000 in
theorem c_TripleLines_line (l : Launch) (D : va_G) (cI : ClassId) (aTL : Nat) (ht : Nat) (hot : Nat) (hT : Nat) (hQ : Nat) (hr : Nat) (hpr : Nat) (li : Int) (re : Int) (hli : -2147483648 ≤ li ∧ li < 2147483648) : CtI l D [(cI, .int)] y_TripleLines_line b_TripleLines_line 1 (some .int) 0 [.ref aTL] [(aTL, .inr (5, [.ref ht, .ref hot, .ref hT, .ref hQ, .ref hr, .ref hpr, .int (iI li), .int (iI re)]))] (S := Unit) (fun z u => z = li) (fun u => [(aTL, .inr (5, [.ref ht, .ref hot, .ref hT, .ref hQ, .ref hr, .ref hpr, .int (iI li), .int (iI re)]))]) := by
  refine CtI.walk (fun _ => True) (fun z _ => vp_nar_int _) (by decide) (Nat.le_of_ble_eq_true rfl) ?_
  intro xp xe0 xs xm xar xbelow xmeth xc xA0 xQ xe xb xml xo xt xP xK xD xA xret ls xl xS
  have xl : lv_has ls 1 [(0, .ref aTL)] := xl
  have xo : xs.vm.findClass R_TripleLines = some xm.cls := xo
  refine lv_aload_n xe xb d_TripleLines_line_0 rfl (lv_at xl 0 rfl) ?_
  refine va_get (D := D) (ci := 5) (v := .int (iI li)) (C := R_TripleLines) (T := F_TripleLines) (N := 8) xe xb xt i_TripleLines xo xK xP 0 rfl rfl 6 (by decide) (xt _ mw_TripleLines_53) (fun _ h9 => h9) rfl d_TripleLines_line_1 ?_
  exact xret _ _ _ _ li () d_TripleLines_line_4 trivial (by omega) rfl xP xD xS
set_option maxHeartbeats 4000000 in
set_option maxRecDepth 100000 in
theorem c_TripleLines_quad (l : Launch) (D : va_G) (cI : ClassId) (aTL : Nat) (ht : Nat) (hot : Nat) (hT : Nat) (hQ : Nat) (hr : Nat) (hpr : Nat) (li : Int) (re : Int) (qp : Nat) (P : Nat → Int32) (qz : Int) (qf : Int) (i : Int) (w : Int) (hqz : 0 ≤ qz ∧ qz ≤ 80) (hi9 : -2147483648 ≤ i ∧ i < 2147483648) (hw9 : -2147483648 ≤ w ∧ w < 2147483648) : CtI l D [(cI, .int)] y_TripleLines_quad b_TripleLines_quad 4 (some .int) 2 [.ref aTL, .int (iI i), .int (iI w)] [(aTL, .inr (5, [.ref ht, .ref hot, .ref hT, .ref hQ, .ref hr, .ref hpr, .int (iI li), .int (iI re)])), (hQ, .inr (2, [.ref qp, .int (iI qz), .int (iI qf)])), (qp, .inl (cI, 320, .inl P))] (S := Unit) (fun z u => z = qAns P qz i w) (fun u => [(aTL, .inr (5, [.ref ht, .ref hot, .ref hT, .ref hQ, .ref hr, .ref hpr, .int (iI li), .int (iI re)])), (hQ, .inr (2, [.ref qp, .int (iI qz), .int (iI qf)])), (qp, .inl (cI, 320, .inl P))]) := by
  refine CtI.walk (fun _ => True) (fun z _ => vp_nar_int _) (by decide) (Nat.le_of_ble_eq_true rfl) ?_
  intro xp xe0 xs xm xar xbelow xmeth xc xA0 xQ xe xb xml xo xt xP xK xD xA xret ls xl xS
  have xl : lv_has ls 4 [(0, .ref aTL), (1, .int (iI i)), (2, .int (iI w))] := xl
  have xo : xs.vm.findClass R_TripleLines = some xm.cls := xo
  refine lv_aload_n xe xb d_TripleLines_quad_0 rfl (lv_at xl 0 rfl) ?_
  refine va_get (D := D) (ci := 5) (v := .ref hQ) (C := R_TripleLines) (T := F_TripleLines) (N := 8) xe xb xt i_TripleLines xo xK xP 0 rfl rfl 3 (by decide) (xt _ mw_TripleLines_31) (fun _ h9 => h9) rfl d_TripleLines_quad_1 ?_
  refine lv_iload_n xe xb d_TripleLines_quad_4 rfl (lv_at xl 1 rfl) ?_
  refine tk_callVi (As := [.int (iI i)]) (rest := []) (wr := [(aTL, .inr (5, [.ref ht, .ref hot, .ref hT, .ref hQ, .ref hr, .ref hpr, .int (iI li), .int (iI re)]))]) (wn := fun u => [(aTL, .inr (5, [.ref ht, .ref hot, .ref hT, .ref hQ, .ref hr, .ref hpr, .int (iI li), .int (iI re)])), (hQ, .inr (2, [.ref qp, .int (iI qz), .int (iI qf)])), (qp, .inl (cI, 320, .inl P))]) ⟨xe, xb, xml, xo, xt⟩ (c_Quads_has l D cI hQ qp P qz qf i (by first | assumption | omega) (by first | assumption | omega)) k_Quads_has mw_TripleLines_109 ⟨Nat.le_of_ble_eq_true rfl, Nat.le_of_ble_eq_true rfl⟩ xK xP xD xS xA rfl xl.1 rfl (Nat.le_of_ble_eq_true rfl) d_TripleLines_quad_5 ⟨Nat.zero_le _, Nat.zero_le _⟩ [1, 2] [0] [0, 1, 2] rfl rfl (by decide) (by decide) (by decide) (by decide) (fun _ => rfl) rfl rfl rfl ?_
  clear xP xD xS
  intro z_2 u H locs hr_3 hw_1 xP xD xS
  try dsimp only at hw_1
  replace xP : va_P D classes [(aTL, .inr (5, [.ref ht, .ref hot, .ref hT, .ref hQ, .ref hr, .ref hpr, .int (iI li), .int (iI re)])), (hQ, .inr (2, [.ref qp, .int (iI qz), .int (iI qf)])), (qp, .inl (cI, 320, .inl P))] H := xP
  replace xD : va_D xA0 [(aTL, .inr (5, [.ref ht, .ref hot, .ref hT, .ref hQ, .ref hr, .ref hpr, .int (iI li), .int (iI re)])), (hQ, .inr (2, [.ref qp, .int (iI qz), .int (iI qf)])), (qp, .inl (cI, 320, .inl P))] := xD
  rcases hw_1 with ⟨rfl, hb_4⟩ | ⟨rfl, hb_5⟩
  · refine tk_if_eq (tgt := 20) xe xb d_TripleLines_quad_8 (by decide) (by omega) (fun c_6 => absurd c_6 (by omega)) (fun c_6 => ?_)
    refine lv_iload_n xe xb d_TripleLines_quad_11 rfl (lv_at xl 2 rfl) ?_
    refine tk_if_lt (tgt := 20) xe xb d_TripleLines_quad_12 (by decide) (by omega) (fun c_7 => ?_) (fun c_7 => ?_)
    · refine lv_iconst (v := iI (-1)) xe xb d_TripleLines_quad_20 rfl ?_
      exact xret _ _ _ _ (-1) () d_TripleLines_quad_21 trivial (by omega) (by unfold qAns; first | (rw [if_neg (by omega)]) | (rw [if_pos (by omega)]; first | (rw [if_pos (by omega)]) | (rw [if_neg (by omega)]; omega))) xP xD xS
    · refine lv_iload_n xe xb d_TripleLines_quad_15 rfl (lv_at xl 2 rfl) ?_
      refine lv_iconst (v := iI (4)) xe xb d_TripleLines_quad_16 rfl ?_
      refine tk_icmp_lt (tgt := 22) xe xb d_TripleLines_quad_17 (by decide) (by omega) (fun c_8 => ?_) (fun c_8 => ?_)
      · refine lv_aload_n xe xb d_TripleLines_quad_22 rfl (lv_at xl 0 rfl) ?_
        refine va_get (D := D) (ci := 5) (v := .ref hQ) (C := R_TripleLines) (T := F_TripleLines) (N := 8) xe xb xt i_TripleLines xo xK xP 0 rfl rfl 3 (by decide) (xt _ mw_TripleLines_31) (fun _ h9 => h9) rfl d_TripleLines_quad_23 ?_
        refine lv_iload_n xe xb d_TripleLines_quad_26 rfl (lv_at xl 1 rfl) ?_
        refine lv_iload_n xe xb d_TripleLines_quad_27 rfl (lv_at xl 2 rfl) ?_
        refine tk_callVi (As := [.int (iI i), .int (iI w)]) (rest := []) (wr := [(aTL, .inr (5, [.ref ht, .ref hot, .ref hT, .ref hQ, .ref hr, .ref hpr, .int (iI li), .int (iI re)]))]) (wn := fun u => [(aTL, .inr (5, [.ref ht, .ref hot, .ref hT, .ref hQ, .ref hr, .ref hpr, .int (iI li), .int (iI re)])), (hQ, .inr (2, [.ref qp, .int (iI qz), .int (iI qf)])), (qp, .inl (cI, 320, .inl P))]) ⟨xe, xb, xml, xo, xt⟩ (c_Quads_part l D cI hQ qp P qz qf i w (by first | assumption | omega) (by first | assumption | omega) (by first | assumption | omega)) k_Quads_part mw_TripleLines_113 ⟨Nat.le_of_ble_eq_true rfl, Nat.le_of_ble_eq_true rfl⟩ xK xP xD xS xA rfl xl.1 rfl (Nat.le_of_ble_eq_true rfl) d_TripleLines_quad_28 ⟨Nat.zero_le _, Nat.zero_le _⟩ [1, 2] [0] [0, 1, 2] rfl rfl (by decide) (by decide) (by decide) (by decide) (fun _ => rfl) rfl rfl rfl ?_
        clear xP xD xS
        intro z_10 u H locs hr_11 hw_9 xP xD xS
        try dsimp only at hw_9
        replace xP : va_P D classes [(aTL, .inr (5, [.ref ht, .ref hot, .ref hT, .ref hQ, .ref hr, .ref hpr, .int (iI li), .int (iI re)])), (hQ, .inr (2, [.ref qp, .int (iI qz), .int (iI qf)])), (qp, .inl (cI, 320, .inl P))] H := xP
        replace xD : va_D xA0 [(aTL, .inr (5, [.ref ht, .ref hot, .ref hT, .ref hQ, .ref hr, .ref hpr, .int (iI li), .int (iI re)])), (hQ, .inr (2, [.ref qp, .int (iI qz), .int (iI qf)])), (qp, .inl (cI, 320, .inl P))] := xD
        have HP := hw_9
        rw [if_pos (by omega)] at HP
        refine lv_istore_n (lv' := [(3, .int (iI z_10)), (0, .ref aTL), (1, .int (iI i)), (2, .int (iI w))]) xe xb d_TripleLines_quad_31 rfl xl (by decide) rfl ?_
        clear xl
        intro ls xl
        refine lv_iload_n xe xb d_TripleLines_quad_32 rfl (lv_at xl 0 rfl) ?_
        refine lv_iconst (v := iI (-1)) xe xb d_TripleLines_quad_33 rfl ?_
        refine tk_icmp_ne (tgt := 42) xe xb d_TripleLines_quad_34 (by decide) (by omega) (fun c_12 => ?_) (fun c_12 => ?_)
        · refine lv_iload_n xe xb d_TripleLines_quad_42 rfl (lv_at xl 0 rfl) ?_
          exact xret _ _ _ _ z_10 () d_TripleLines_quad_43 trivial (by omega) (by unfold qAns; first | (rw [if_neg (by omega)]) | (rw [if_pos (by omega)]; first | (rw [if_pos (by omega)]) | (rw [if_neg (by omega)]; omega))) xP xD xS
        · refine lv_bipush (v := iI (-2)) xe xb d_TripleLines_quad_37 (by decide) ?_
          refine lv_goto (tgt := 43) xe xb d_TripleLines_quad_39 (by decide) ?_
          exact xret _ _ _ _ (-2) () d_TripleLines_quad_43 trivial (by omega) (by unfold qAns; first | (rw [if_neg (by omega)]) | (rw [if_pos (by omega)]; first | (rw [if_pos (by omega)]) | (rw [if_neg (by omega)]; omega))) xP xD xS
      · refine lv_iconst (v := iI (-1)) xe xb d_TripleLines_quad_20 rfl ?_
        exact xret _ _ _ _ (-1) () d_TripleLines_quad_21 trivial (by omega) (by unfold qAns; first | (rw [if_neg (by omega)]) | (rw [if_pos (by omega)]; first | (rw [if_pos (by omega)]) | (rw [if_neg (by omega)]; omega))) xP xD xS
  · refine tk_if_eq (tgt := 20) xe xb d_TripleLines_quad_8 (by decide) (by omega) (fun c_13 => ?_) (fun c_13 => absurd c_13 (by omega))
    refine lv_iconst (v := iI (-1)) xe xb d_TripleLines_quad_20 rfl ?_
    exact xret _ _ _ _ (-1) () d_TripleLines_quad_21 trivial (by omega) (by unfold qAns; first | (rw [if_neg (by omega)]) | (rw [if_pos (by omega)]; first | (rw [if_pos (by omega)]) | (rw [if_neg (by omega)]; omega))) xP xD xS
set_option maxHeartbeats 4000000 in
set_option maxRecDepth 100000 in
theorem c_TripleLines_term (l : Launch) (D : va_G) (cI : ClassId) (aTL : Nat) (ht : Nat) (hot : Nat) (hT : Nat) (hQ : Nat) (hr : Nat) (hpr : Nat) (li : Int) (re : Int) (qk : Nat) (ql : Nat) (qc : Nat) (qtl : Nat) (qtg : Nat) (qty : Nat) (K : Nat → Int32) (Ln : Nat → Int32) (C : Nat → Int32) (TL : Nat → Int32) (TG : Nat → Int32) (TY : Nat → Int32) (sz : Int) (fr : Int) (fl : Int) (t : Int) (w : Int) (hz : 0 ≤ sz ∧ sz ≤ 120) (ht9 : -2147483648 ≤ t ∧ t < 2147483648) (hw9 : -2147483648 ≤ w ∧ w < 2147483648) : CtI l D [(cI, .int)] y_TripleLines_term b_TripleLines_term 3 (some .int) 2 [.ref aTL, .int (iI t), .int (iI w)] [(aTL, .inr (5, [.ref ht, .ref hot, .ref hT, .ref hQ, .ref hr, .ref hpr, .int (iI li), .int (iI re)])), (hT, .inr (1, [.ref qk, .ref ql, .ref qc, .ref qtl, .ref qtg, .ref qty, .int (iI sz), .int (iI fr), .int (iI fl)])), (qk, .inl (cI, 120, .inl K)), (ql, .inl (cI, 120, .inl Ln)), (qc, .inl (cI, 4800, .inl C)), (qtl, .inl (cI, 120, .inl TL)), (qtg, .inl (cI, 1920, .inl TG)), (qty, .inl (cI, 120, .inl TY))] (S := Unit) (fun z u => z = tAns K Ln TL TY sz t w) (fun u => [(aTL, .inr (5, [.ref ht, .ref hot, .ref hT, .ref hQ, .ref hr, .ref hpr, .int (iI li), .int (iI re)])), (hT, .inr (1, [.ref qk, .ref ql, .ref qc, .ref qtl, .ref qtg, .ref qty, .int (iI sz), .int (iI fr), .int (iI fl)])), (qk, .inl (cI, 120, .inl K)), (ql, .inl (cI, 120, .inl Ln)), (qc, .inl (cI, 4800, .inl C)), (qtl, .inl (cI, 120, .inl TL)), (qtg, .inl (cI, 1920, .inl TG)), (qty, .inl (cI, 120, .inl TY))]) := by
  refine CtI.walk (fun _ => True) (fun z _ => vp_nar_int _) (by decide) (Nat.le_of_ble_eq_true rfl) ?_
  intro xp xe0 xs xm xar xbelow xmeth xc xA0 xQ xe xb xml xo xt xP xK xD xA xret ls xl xS
  have xl : lv_has ls 3 [(0, .ref aTL), (1, .int (iI t)), (2, .int (iI w))] := xl
  have xo : xs.vm.findClass R_TripleLines = some xm.cls := xo
  refine lv_aload_n xe xb d_TripleLines_term_0 rfl (lv_at xl 0 rfl) ?_
  refine va_get (D := D) (ci := 5) (v := .ref hT) (C := R_TripleLines) (T := F_TripleLines) (N := 8) xe xb xt i_TripleLines xo xK xP 0 rfl rfl 2 (by decide) (xt _ mw_TripleLines_24) (fun _ h9 => h9) rfl d_TripleLines_term_1 ?_
  refine lv_iload_n xe xb d_TripleLines_term_4 rfl (lv_at xl 1 rfl) ?_
  refine tk_callVi (As := [.int (iI t)]) (rest := []) (wr := [(aTL, .inr (5, [.ref ht, .ref hot, .ref hT, .ref hQ, .ref hr, .ref hpr, .int (iI li), .int (iI re)]))]) (wn := fun u => [(aTL, .inr (5, [.ref ht, .ref hot, .ref hT, .ref hQ, .ref hr, .ref hpr, .int (iI li), .int (iI re)])), (hT, .inr (1, [.ref qk, .ref ql, .ref qc, .ref qtl, .ref qtg, .ref qty, .int (iI sz), .int (iI fr), .int (iI fl)])), (qk, .inl (cI, 120, .inl K)), (ql, .inl (cI, 120, .inl Ln)), (qc, .inl (cI, 4800, .inl C)), (qtl, .inl (cI, 120, .inl TL)), (qtg, .inl (cI, 1920, .inl TG)), (qty, .inl (cI, 120, .inl TY))]) ⟨xe, xb, xml, xo, xt⟩ (c_Terms_has l D cI hT qk ql qc qtl qtg qty K Ln C TL TG TY sz fr fl t (by first | assumption | omega) (by first | assumption | omega)) k_Terms_has mw_TripleLines_117 ⟨Nat.le_of_ble_eq_true rfl, Nat.le_of_ble_eq_true rfl⟩ xK xP xD xS xA rfl xl.1 rfl (Nat.le_of_ble_eq_true rfl) d_TripleLines_term_5 ⟨Nat.zero_le _, Nat.zero_le _⟩ [1, 2, 3, 4, 5, 6, 7] [0] [0, 1, 2, 3, 4, 5, 6, 7] rfl rfl (by decide) (by decide) (by decide) (by decide) (fun _ => rfl) rfl rfl rfl ?_
  clear xP xD xS
  intro z_2 u H locs hr_3 hw_1 xP xD xS
  try dsimp only at hw_1
  replace xP : va_P D classes [(aTL, .inr (5, [.ref ht, .ref hot, .ref hT, .ref hQ, .ref hr, .ref hpr, .int (iI li), .int (iI re)])), (hT, .inr (1, [.ref qk, .ref ql, .ref qc, .ref qtl, .ref qtg, .ref qty, .int (iI sz), .int (iI fr), .int (iI fl)])), (qk, .inl (cI, 120, .inl K)), (ql, .inl (cI, 120, .inl Ln)), (qc, .inl (cI, 4800, .inl C)), (qtl, .inl (cI, 120, .inl TL)), (qtg, .inl (cI, 1920, .inl TG)), (qty, .inl (cI, 120, .inl TY))] H := xP
  replace xD : va_D xA0 [(aTL, .inr (5, [.ref ht, .ref hot, .ref hT, .ref hQ, .ref hr, .ref hpr, .int (iI li), .int (iI re)])), (hT, .inr (1, [.ref qk, .ref ql, .ref qc, .ref qtl, .ref qtg, .ref qty, .int (iI sz), .int (iI fr), .int (iI fl)])), (qk, .inl (cI, 120, .inl K)), (ql, .inl (cI, 120, .inl Ln)), (qc, .inl (cI, 4800, .inl C)), (qtl, .inl (cI, 120, .inl TL)), (qtg, .inl (cI, 1920, .inl TG)), (qty, .inl (cI, 120, .inl TY))] := xD
  rcases hw_1 with ⟨rfl, hb_4⟩ | ⟨rfl, hb_5⟩
  · refine tk_if_ne (tgt := 13) xe xb d_TripleLines_term_8 (by decide) (by omega) (fun c_6 => ?_) (fun c_6 => absurd c_6 (by omega))
    refine lv_iload_n xe xb d_TripleLines_term_13 rfl (lv_at xl 2 rfl) ?_
    by_cases c_7 : w < 0 ∨ 4 < w
    · refine tk_tabOut (tgt := 115) xe xb d_TripleLines_term_14 (by omega) c_7 (by decide) ?_
      refine lv_iconst (v := iI (-1)) xe xb d_TripleLines_term_115 rfl ?_
      exact xret _ _ _ _ (-1) () d_TripleLines_term_116 trivial (by omega) (by unfold tAns; rw [if_pos (by omega)]; (repeat' split) <;> omega) xP xD xS
    by_cases c_8 : w = 0
    · refine tk_tabIn (off := 34) (tgt := 48) xe xb d_TripleLines_term_14 (by omega) 0 c_8 (by decide) (by decide) rfl (by decide) ?_
      refine lv_aload_n xe xb d_TripleLines_term_48 rfl (lv_at xl 0 rfl) ?_
      refine va_get (D := D) (ci := 5) (v := .ref hT) (C := R_TripleLines) (T := F_TripleLines) (N := 8) xe xb xt i_TripleLines xo xK xP 0 rfl rfl 2 (by decide) (xt _ mw_TripleLines_24) (fun _ h9 => h9) rfl d_TripleLines_term_49 ?_
      refine va_get (D := D) (ci := 1) (v := .ref qk) (C := R_Terms) (T := F_Terms) (N := 9) xe xb xt i_Terms xo xK xP 1 rfl rfl 0 (by decide) (xt _ mw_TripleLines_118) (fun _ h9 => h9) rfl d_TripleLines_term_52 ?_
      refine lv_iload_n xe xb d_TripleLines_term_55 rfl (lv_at xl 1 rfl) ?_
      refine tk_iald xe xb xK xP 2 0 rfl rfl (by omega) d_TripleLines_term_56 ?_
      have hr_9 := tI_rg K t
      exact xret _ _ _ _ (tI K t) () d_TripleLines_term_57 trivial (by omega) (by unfold tAns; rw [if_pos (by omega)]; (repeat' split) <;> omega) xP xD xS
    by_cases c_10 : w = 1
    · refine tk_tabIn (off := 44) (tgt := 58) xe xb d_TripleLines_term_14 (by omega) 1 c_10 (by decide) (by decide) rfl (by decide) ?_
      refine lv_aload_n xe xb d_TripleLines_term_58 rfl (lv_at xl 0 rfl) ?_
      refine va_get (D := D) (ci := 5) (v := .ref hT) (C := R_TripleLines) (T := F_TripleLines) (N := 8) xe xb xt i_TripleLines xo xK xP 0 rfl rfl 2 (by decide) (xt _ mw_TripleLines_24) (fun _ h9 => h9) rfl d_TripleLines_term_59 ?_
      refine lv_iload_n xe xb d_TripleLines_term_62 rfl (lv_at xl 1 rfl) ?_
      refine tk_callVi (As := [.int (iI t)]) (rest := []) (wr := [(aTL, .inr (5, [.ref ht, .ref hot, .ref hT, .ref hQ, .ref hr, .ref hpr, .int (iI li), .int (iI re)]))]) (wn := fun u => [(aTL, .inr (5, [.ref ht, .ref hot, .ref hT, .ref hQ, .ref hr, .ref hpr, .int (iI li), .int (iI re)])), (hT, .inr (1, [.ref qk, .ref ql, .ref qc, .ref qtl, .ref qtg, .ref qty, .int (iI sz), .int (iI fr), .int (iI fl)])), (qk, .inl (cI, 120, .inl K)), (ql, .inl (cI, 120, .inl Ln)), (qc, .inl (cI, 4800, .inl C)), (qtl, .inl (cI, 120, .inl TL)), (qtg, .inl (cI, 1920, .inl TG)), (qty, .inl (cI, 120, .inl TY))]) ⟨xe, xb, xml, xo, xt⟩ (c_Terms_sortOf l D cI hT qk ql qc qtl qtg qty K Ln C TL TG TY sz fr fl t (by first | assumption | omega) (by first | assumption | omega)) k_Terms_sortOf mw_TripleLines_122 ⟨Nat.le_of_ble_eq_true rfl, Nat.le_of_ble_eq_true rfl⟩ xK xP xD xS xA rfl xl.1 rfl (Nat.le_of_ble_eq_true rfl) d_TripleLines_term_63 ⟨Nat.zero_le _, Nat.zero_le _⟩ [1, 2, 3, 4, 5, 6, 7] [0] [0, 1, 2, 3, 4, 5, 6, 7] rfl rfl (by decide) (by decide) (by decide) (by decide) (fun _ => rfl) rfl rfl rfl ?_
      clear xP xD xS
      intro z_12 u H locs hr_13 hw_11 xP xD xS
      try dsimp only at hw_11
      replace xP : va_P D classes [(aTL, .inr (5, [.ref ht, .ref hot, .ref hT, .ref hQ, .ref hr, .ref hpr, .int (iI li), .int (iI re)])), (hT, .inr (1, [.ref qk, .ref ql, .ref qc, .ref qtl, .ref qtg, .ref qty, .int (iI sz), .int (iI fr), .int (iI fl)])), (qk, .inl (cI, 120, .inl K)), (ql, .inl (cI, 120, .inl Ln)), (qc, .inl (cI, 4800, .inl C)), (qtl, .inl (cI, 120, .inl TL)), (qtg, .inl (cI, 1920, .inl TG)), (qty, .inl (cI, 120, .inl TY))] H := xP
      replace xD : va_D xA0 [(aTL, .inr (5, [.ref ht, .ref hot, .ref hT, .ref hQ, .ref hr, .ref hpr, .int (iI li), .int (iI re)])), (hT, .inr (1, [.ref qk, .ref ql, .ref qc, .ref qtl, .ref qtg, .ref qty, .int (iI sz), .int (iI fr), .int (iI fl)])), (qk, .inl (cI, 120, .inl K)), (ql, .inl (cI, 120, .inl Ln)), (qc, .inl (cI, 4800, .inl C)), (qtl, .inl (cI, 120, .inl TL)), (qtg, .inl (cI, 1920, .inl TG)), (qty, .inl (cI, 120, .inl TY))] := xD
      have HP := hw_11
      rw [if_pos (by omega)] at HP
      exact xret _ _ _ _ z_12 () d_TripleLines_term_66 trivial (by omega) (by unfold tAns; rw [if_pos (by omega), if_neg (by omega), if_pos (by omega)]; exact HP) xP xD xS
    by_cases c_14 : w = 2
    · refine tk_tabIn (off := 53) (tgt := 67) xe xb d_TripleLines_term_14 (by omega) 2 c_14 (by decide) (by decide) rfl (by decide) ?_
      refine lv_aload_n xe xb d_TripleLines_term_67 rfl (lv_at xl 0 rfl) ?_
      refine va_get (D := D) (ci := 5) (v := .ref hT) (C := R_TripleLines) (T := F_TripleLines) (N := 8) xe xb xt i_TripleLines xo xK xP 0 rfl rfl 2 (by decide) (xt _ mw_TripleLines_24) (fun _ h9 => h9) rfl d_TripleLines_term_68 ?_
      refine va_get (D := D) (ci := 1) (v := .ref ql) (C := R_Terms) (T := F_Terms) (N := 9) xe xb xt i_Terms xo xK xP 1 rfl rfl 1 (by decide) (xt _ mw_TripleLines_125) (fun _ h9 => h9) rfl d_TripleLines_term_71 ?_
      refine lv_iload_n xe xb d_TripleLines_term_74 rfl (lv_at xl 1 rfl) ?_
      refine tk_iald xe xb xK xP 3 0 rfl rfl (by omega) d_TripleLines_term_75 ?_
      have hr_15 := tI_rg Ln t
      exact xret _ _ _ _ (tI Ln t) () d_TripleLines_term_76 trivial (by omega) (by unfold tAns; rw [if_pos (by omega)]; (repeat' split) <;> omega) xP xD xS
    by_cases c_16 : w = 3
    · refine tk_tabIn (off := 63) (tgt := 77) xe xb d_TripleLines_term_14 (by omega) 3 c_16 (by decide) (by decide) rfl (by decide) ?_
      refine lv_aload_n xe xb d_TripleLines_term_77 rfl (lv_at xl 0 rfl) ?_
      refine va_get (D := D) (ci := 5) (v := .ref hT) (C := R_TripleLines) (T := F_TripleLines) (N := 8) xe xb xt i_TripleLines xo xK xP 0 rfl rfl 2 (by decide) (xt _ mw_TripleLines_24) (fun _ h9 => h9) rfl d_TripleLines_term_78 ?_
      refine va_get (D := D) (ci := 1) (v := .ref qtl) (C := R_Terms) (T := F_Terms) (N := 9) xe xb xt i_Terms xo xK xP 1 rfl rfl 3 (by decide) (xt _ mw_TripleLines_128) (fun _ h9 => h9) rfl d_TripleLines_term_81 ?_
      refine lv_iload_n xe xb d_TripleLines_term_84 rfl (lv_at xl 1 rfl) ?_
      refine tk_iald xe xb xK xP 5 0 rfl rfl (by omega) d_TripleLines_term_85 ?_
      have hr_17 := tI_rg TL t
      exact xret _ _ _ _ (tI TL t) () d_TripleLines_term_86 trivial (by omega) (by unfold tAns; rw [if_pos (by omega)]; (repeat' split) <;> omega) xP xD xS
    have c_18 : w = 4 := by omega
    refine tk_tabIn (off := 73) (tgt := 87) xe xb d_TripleLines_term_14 (by omega) 4 c_18 (by decide) (by decide) rfl (by decide) ?_
    refine lv_aload_n xe xb d_TripleLines_term_87 rfl (lv_at xl 0 rfl) ?_
    refine va_get (D := D) (ci := 5) (v := .ref hT) (C := R_TripleLines) (T := F_TripleLines) (N := 8) xe xb xt i_TripleLines xo xK xP 0 rfl rfl 2 (by decide) (xt _ mw_TripleLines_24) (fun _ h9 => h9) rfl d_TripleLines_term_88 ?_
    refine va_get (D := D) (ci := 1) (v := .ref qty) (C := R_Terms) (T := F_Terms) (N := 9) xe xb xt i_Terms xo xK xP 1 rfl rfl 5 (by decide) (xt _ mw_TripleLines_131) (fun _ h9 => h9) rfl d_TripleLines_term_91 ?_
    refine lv_iload_n xe xb d_TripleLines_term_94 rfl (lv_at xl 1 rfl) ?_
    refine tk_iald xe xb xK xP 7 0 rfl rfl (by omega) d_TripleLines_term_95 ?_
    have hr_19 := tI_rg TY t
    refine lv_iconst (v := iI (-1)) xe xb d_TripleLines_term_96 rfl ?_
    refine tk_icmp_ne (tgt := 105) xe xb d_TripleLines_term_97 (by decide) (by omega) (fun c_20 => ?_) (fun c_20 => ?_)
    · refine lv_aload_n xe xb d_TripleLines_term_105 rfl (lv_at xl 0 rfl) ?_
      refine va_get (D := D) (ci := 5) (v := .ref hT) (C := R_TripleLines) (T := F_TripleLines) (N := 8) xe xb xt i_TripleLines xo xK xP 0 rfl rfl 2 (by decide) (xt _ mw_TripleLines_24) (fun _ h9 => h9) rfl d_TripleLines_term_106 ?_
      refine va_get (D := D) (ci := 1) (v := .ref qty) (C := R_Terms) (T := F_Terms) (N := 9) xe xb xt i_Terms xo xK xP 1 rfl rfl 5 (by decide) (xt _ mw_TripleLines_131) (fun _ h9 => h9) rfl d_TripleLines_term_109 ?_
      refine lv_iload_n xe xb d_TripleLines_term_112 rfl (lv_at xl 1 rfl) ?_
      refine tk_iald xe xb xK xP 7 0 rfl rfl (by omega) d_TripleLines_term_113 ?_
      have hr_21 := tI_rg TY t
      exact xret _ _ _ _ (tI TY t) () d_TripleLines_term_114 trivial (by omega) (by unfold tAns; rw [if_pos (by omega)]; (repeat' split) <;> omega) xP xD xS
    · refine lv_bipush (v := iI (-2)) xe xb d_TripleLines_term_100 (by decide) ?_
      refine lv_goto (tgt := 114) xe xb d_TripleLines_term_102 (by decide) ?_
      exact xret _ _ _ _ (-2) () d_TripleLines_term_114 trivial (by omega) (by unfold tAns; rw [if_pos (by omega)]; (repeat' split) <;> omega) xP xD xS
  · refine tk_if_ne (tgt := 13) xe xb d_TripleLines_term_8 (by decide) (by omega) (fun c_22 => absurd c_22 (by omega)) (fun c_22 => ?_)
    refine lv_iconst (v := iI (-1)) xe xb d_TripleLines_term_11 rfl ?_
    exact xret _ _ _ _ (-1) () d_TripleLines_term_12 trivial (by omega) (by unfold tAns; rw [if_neg (by omega)]) xP xD xS
set_option maxHeartbeats 4000000 in
set_option maxRecDepth 100000 in
theorem c_TripleLines_code (l : Launch) (D : va_G) (cI : ClassId) (aTL : Nat) (ht : Nat) (hot : Nat) (hT : Nat) (hQ : Nat) (hr : Nat) (hpr : Nat) (li : Int) (re : Int) (qk : Nat) (ql : Nat) (qc : Nat) (qtl : Nat) (qtg : Nat) (qty : Nat) (K : Nat → Int32) (Ln : Nat → Int32) (C : Nat → Int32) (TL : Nat → Int32) (TG : Nat → Int32) (TY : Nat → Int32) (sz : Int) (fr : Int) (fl : Int) (t : Int) (i : Int) (hz : 0 ≤ sz ∧ sz ≤ 120) (ht9 : -2147483648 ≤ t ∧ t < 2147483648) (hi9 : -2147483648 ≤ i ∧ i < 2147483648) : CtI l D [(cI, .int)] y_TripleLines_code b_TripleLines_code 4 (some .int) 2 [.ref aTL, .int (iI t), .int (iI i)] [(aTL, .inr (5, [.ref ht, .ref hot, .ref hT, .ref hQ, .ref hr, .ref hpr, .int (iI li), .int (iI re)])), (hT, .inr (1, [.ref qk, .ref ql, .ref qc, .ref qtl, .ref qtg, .ref qty, .int (iI sz), .int (iI fr), .int (iI fl)])), (qk, .inl (cI, 120, .inl K)), (ql, .inl (cI, 120, .inl Ln)), (qc, .inl (cI, 4800, .inl C)), (qtl, .inl (cI, 120, .inl TL)), (qtg, .inl (cI, 1920, .inl TG)), (qty, .inl (cI, 120, .inl TY))] (S := Unit) (fun z u => z = cAns Ln C sz t i) (fun u => [(aTL, .inr (5, [.ref ht, .ref hot, .ref hT, .ref hQ, .ref hr, .ref hpr, .int (iI li), .int (iI re)])), (hT, .inr (1, [.ref qk, .ref ql, .ref qc, .ref qtl, .ref qtg, .ref qty, .int (iI sz), .int (iI fr), .int (iI fl)])), (qk, .inl (cI, 120, .inl K)), (ql, .inl (cI, 120, .inl Ln)), (qc, .inl (cI, 4800, .inl C)), (qtl, .inl (cI, 120, .inl TL)), (qtg, .inl (cI, 1920, .inl TG)), (qty, .inl (cI, 120, .inl TY))]) := by
  refine CtI.walk (fun _ => True) (fun z _ => vp_nar_int _) (by decide) (Nat.le_of_ble_eq_true rfl) ?_
  intro xp xe0 xs xm xar xbelow xmeth xc xA0 xQ xe xb xml xo xt xP xK xD xA xret ls xl xS
  have xl : lv_has ls 4 [(0, .ref aTL), (1, .int (iI t)), (2, .int (iI i))] := xl
  have xo : xs.vm.findClass R_TripleLines = some xm.cls := xo
  refine lv_aload_n xe xb d_TripleLines_code_0 rfl (lv_at xl 0 rfl) ?_
  refine va_get (D := D) (ci := 5) (v := .ref hT) (C := R_TripleLines) (T := F_TripleLines) (N := 8) xe xb xt i_TripleLines xo xK xP 0 rfl rfl 2 (by decide) (xt _ mw_TripleLines_24) (fun _ h9 => h9) rfl d_TripleLines_code_1 ?_
  refine lv_iload_n xe xb d_TripleLines_code_4 rfl (lv_at xl 1 rfl) ?_
  refine lv_iload_n xe xb d_TripleLines_code_5 rfl (lv_at xl 2 rfl) ?_
  refine tk_callVi (As := [.int (iI t), .int (iI i)]) (rest := []) (wr := [(aTL, .inr (5, [.ref ht, .ref hot, .ref hT, .ref hQ, .ref hr, .ref hpr, .int (iI li), .int (iI re)]))]) (wn := fun u => [(aTL, .inr (5, [.ref ht, .ref hot, .ref hT, .ref hQ, .ref hr, .ref hpr, .int (iI li), .int (iI re)])), (hT, .inr (1, [.ref qk, .ref ql, .ref qc, .ref qtl, .ref qtg, .ref qty, .int (iI sz), .int (iI fr), .int (iI fl)])), (qk, .inl (cI, 120, .inl K)), (ql, .inl (cI, 120, .inl Ln)), (qc, .inl (cI, 4800, .inl C)), (qtl, .inl (cI, 120, .inl TL)), (qtg, .inl (cI, 1920, .inl TG)), (qty, .inl (cI, 120, .inl TY))]) ⟨xe, xb, xml, xo, xt⟩ (c_Terms_codeAt l D cI hT qk ql qc qtl qtg qty K Ln C TL TG TY sz fr fl t i (by first | assumption | omega) (by first | assumption | omega) (by first | assumption | omega)) k_Terms_codeAt mw_TripleLines_134 ⟨Nat.le_of_ble_eq_true rfl, Nat.le_of_ble_eq_true rfl⟩ xK xP xD xS xA rfl xl.1 rfl (Nat.le_of_ble_eq_true rfl) d_TripleLines_code_6 ⟨Nat.zero_le _, Nat.zero_le _⟩ [1, 2, 3, 4, 5, 6, 7] [0] [0, 1, 2, 3, 4, 5, 6, 7] rfl rfl (by decide) (by decide) (by decide) (by decide) (fun _ => rfl) rfl rfl rfl ?_
  clear xP xD xS
  intro z_2 u H locs hr_3 hw_1 xP xD xS
  try dsimp only at hw_1
  replace xP : va_P D classes [(aTL, .inr (5, [.ref ht, .ref hot, .ref hT, .ref hQ, .ref hr, .ref hpr, .int (iI li), .int (iI re)])), (hT, .inr (1, [.ref qk, .ref ql, .ref qc, .ref qtl, .ref qtg, .ref qty, .int (iI sz), .int (iI fr), .int (iI fl)])), (qk, .inl (cI, 120, .inl K)), (ql, .inl (cI, 120, .inl Ln)), (qc, .inl (cI, 4800, .inl C)), (qtl, .inl (cI, 120, .inl TL)), (qtg, .inl (cI, 1920, .inl TG)), (qty, .inl (cI, 120, .inl TY))] H := xP
  replace xD : va_D xA0 [(aTL, .inr (5, [.ref ht, .ref hot, .ref hT, .ref hQ, .ref hr, .ref hpr, .int (iI li), .int (iI re)])), (hT, .inr (1, [.ref qk, .ref ql, .ref qc, .ref qtl, .ref qtg, .ref qty, .int (iI sz), .int (iI fr), .int (iI fl)])), (qk, .inl (cI, 120, .inl K)), (ql, .inl (cI, 120, .inl Ln)), (qc, .inl (cI, 4800, .inl C)), (qtl, .inl (cI, 120, .inl TL)), (qtg, .inl (cI, 1920, .inl TG)), (qty, .inl (cI, 120, .inl TY))] := xD
  have HP := hw_1
  refine lv_istore_n (lv' := [(3, .int (iI z_2)), (0, .ref aTL), (1, .int (iI t)), (2, .int (iI i))]) xe xb d_TripleLines_code_9 rfl xl (by decide) rfl ?_
  clear xl
  intro ls xl
  refine lv_iload_n xe xb d_TripleLines_code_10 rfl (lv_at xl 0 rfl) ?_
  refine lv_iconst (v := iI (-1)) xe xb d_TripleLines_code_11 rfl ?_
  refine tk_icmp_ne (tgt := 19) xe xb d_TripleLines_code_12 (by decide) (by omega) (fun c_4 => ?_) (fun c_4 => ?_)
  · refine lv_iload_n xe xb d_TripleLines_code_19 rfl (lv_at xl 0 rfl) ?_
    exact xret _ _ _ _ z_2 () d_TripleLines_code_20 trivial (by omega) (by unfold cAns; omega) xP xD xS
  · refine lv_iconst (v := iI (-1)) xe xb d_TripleLines_code_15 rfl ?_
    refine lv_goto (tgt := 20) xe xb d_TripleLines_code_16 (by decide) ?_
    exact xret _ _ _ _ (-1) () d_TripleLines_code_20 trivial (by omega) (by unfold cAns; omega) xP xD xS
set_option maxHeartbeats 4000000 in
set_option maxRecDepth 100000 in
theorem c_TripleLines_find (l : Launch) (D : va_G) (cI : ClassId) (aTL : Nat) (ht : Nat) (hot : Nat) (hT : Nat) (hQ : Nat) (hr : Nat) (hpr : Nat) (li : Int) (re : Int) (qp : Nat) (P : Nat → Int32) (qz : Int) (qf : Int) (a : Int) (b : Int) (c : Int) (d : Int) (hqz : 0 ≤ qz ∧ qz ≤ 80) (ha9 : -2147483648 ≤ a ∧ a < 2147483648) (hb9 : -2147483648 ≤ b ∧ b < 2147483648) (hc9 : -2147483648 ≤ c ∧ c < 2147483648) (hd9 : -2147483648 ≤ d ∧ d < 2147483648) : CtI l D [(cI, .int)] y_TripleLines_find b_TripleLines_find 6 (some .int) 3 [.ref aTL, .int (iI a), .int (iI b), .int (iI c), .int (iI d)] [(aTL, .inr (5, [.ref ht, .ref hot, .ref hT, .ref hQ, .ref hr, .ref hpr, .int (iI li), .int (iI re)])), (hQ, .inr (2, [.ref qp, .int (iI qz), .int (iI qf)])), (qp, .inl (cI, 320, .inl P))] (S := Unit) (fun z u => z = if idxF (lst (qdAt P) qz) 0 (a, b, c, d) = -1 then -2 else idxF (lst (qdAt P) qz) 0 (a, b, c, d)) (fun u => [(aTL, .inr (5, [.ref ht, .ref hot, .ref hT, .ref hQ, .ref hr, .ref hpr, .int (iI li), .int (iI re)])), (hQ, .inr (2, [.ref qp, .int (iI qz), .int (iI qf)])), (qp, .inl (cI, 320, .inl P))]) := by
  refine CtI.walk (fun _ => True) (fun z _ => vp_nar_int _) (by decide) (Nat.le_of_ble_eq_true rfl) ?_
  intro xp xe0 xs xm xar xbelow xmeth xc xA0 xQ xe xb xml xo xt xP xK xD xA xret ls xl xS
  have xl : lv_has ls 6 [(0, .ref aTL), (1, .int (iI a)), (2, .int (iI b)), (3, .int (iI c)), (4, .int (iI d))] := xl
  have xo : xs.vm.findClass R_TripleLines = some xm.cls := xo
  refine lv_aload_n xe xb d_TripleLines_find_0 rfl (lv_at xl 0 rfl) ?_
  refine va_get (D := D) (ci := 5) (v := .ref hQ) (C := R_TripleLines) (T := F_TripleLines) (N := 8) xe xb xt i_TripleLines xo xK xP 0 rfl rfl 3 (by decide) (xt _ mw_TripleLines_31) (fun _ h9 => h9) rfl d_TripleLines_find_1 ?_
  refine lv_iload_n xe xb d_TripleLines_find_4 rfl (lv_at xl 1 rfl) ?_
  refine lv_iload_n xe xb d_TripleLines_find_5 rfl (lv_at xl 2 rfl) ?_
  refine lv_iload_n xe xb d_TripleLines_find_6 rfl (lv_at xl 3 rfl) ?_
  refine lv_iload xe xb d_TripleLines_find_7 (lv_at xl 4 rfl) ?_
  refine tk_callVi (As := [.int (iI a), .int (iI b), .int (iI c), .int (iI d)]) (rest := []) (wr := [(aTL, .inr (5, [.ref ht, .ref hot, .ref hT, .ref hQ, .ref hr, .ref hpr, .int (iI li), .int (iI re)]))]) (wn := fun u => [(aTL, .inr (5, [.ref ht, .ref hot, .ref hT, .ref hQ, .ref hr, .ref hpr, .int (iI li), .int (iI re)])), (hQ, .inr (2, [.ref qp, .int (iI qz), .int (iI qf)])), (qp, .inl (cI, 320, .inl P))]) ⟨xe, xb, xml, xo, xt⟩ (c_Quads_indexOf l D cI hQ qp P qz qf a b c d (by first | assumption | omega) (by first | assumption | omega) (by first | assumption | omega) (by first | assumption | omega) (by first | assumption | omega)) k_Quads_indexOf mw_TripleLines_137 ⟨Nat.le_of_ble_eq_true rfl, Nat.le_of_ble_eq_true rfl⟩ xK xP xD xS xA rfl xl.1 rfl (Nat.le_of_ble_eq_true rfl) d_TripleLines_find_9 ⟨Nat.zero_le _, Nat.zero_le _⟩ [1, 2] [0] [0, 1, 2] rfl rfl (by decide) (by decide) (by decide) (by decide) (fun _ => rfl) rfl rfl rfl ?_
  clear xP xD xS
  intro z_2 u H locs hr_3 hw_1 xP xD xS
  try dsimp only at hw_1
  replace xP : va_P D classes [(aTL, .inr (5, [.ref ht, .ref hot, .ref hT, .ref hQ, .ref hr, .ref hpr, .int (iI li), .int (iI re)])), (hQ, .inr (2, [.ref qp, .int (iI qz), .int (iI qf)])), (qp, .inl (cI, 320, .inl P))] H := xP
  replace xD : va_D xA0 [(aTL, .inr (5, [.ref ht, .ref hot, .ref hT, .ref hQ, .ref hr, .ref hpr, .int (iI li), .int (iI re)])), (hQ, .inr (2, [.ref qp, .int (iI qz), .int (iI qf)])), (qp, .inl (cI, 320, .inl P))] := xD
  have HP := hw_1
  refine lv_istore (lv' := [(5, .int (iI z_2)), (0, .ref aTL), (1, .int (iI a)), (2, .int (iI b)), (3, .int (iI c)), (4, .int (iI d))]) xe xb d_TripleLines_find_12 xl (by decide) rfl ?_
  clear xl
  intro ls xl
  refine lv_iload xe xb d_TripleLines_find_14 (lv_at xl 0 rfl) ?_
  refine lv_iconst (v := iI (-1)) xe xb d_TripleLines_find_16 rfl ?_
  refine tk_icmp_ne (tgt := 25) xe xb d_TripleLines_find_17 (by decide) (by omega) (fun c_4 => ?_) (fun c_4 => ?_)
  · refine lv_iload xe xb d_TripleLines_find_25 (lv_at xl 0 rfl) ?_
    exact xret _ _ _ _ z_2 () d_TripleLines_find_27 trivial (by omega) (by first | (rw [if_pos (by omega)]) | (rw [if_neg (by omega)]; omega)) xP xD xS
  · refine lv_bipush (v := iI (-2)) xe xb d_TripleLines_find_20 (by decide) ?_
    refine lv_goto (tgt := 27) xe xb d_TripleLines_find_22 (by decide) ?_
    exact xret _ _ _ _ (-2) () d_TripleLines_find_27 trivial (by omega) (by first | (rw [if_pos (by omega)]) | (rw [if_neg (by omega)]; omega)) xP xD xS
set_option maxHeartbeats 4000000 in
set_option maxRecDepth 100000 in
theorem c_TripleLines_drop (l : Launch) (D : va_G) (cI : ClassId) (aTL : Nat) (ht : Nat) (hot : Nat) (hT : Nat) (hQ : Nat) (hr : Nat) (hpr : Nat) (li : Int) (re : Int) (qp : Nat) (P : Nat → Int32) (qz : Int) (qf : Int) (i : Int) (hqz : 0 ≤ qz ∧ qz ≤ 80) (hi9 : -2147483648 ≤ i ∧ i < 2147483648) : CtI l D [(cI, .int)] y_TripleLines_drop b_TripleLines_drop 2 (some .int) 2 [.ref aTL, .int (iI i)] [(aTL, .inr (5, [.ref ht, .ref hot, .ref hT, .ref hQ, .ref hr, .ref hpr, .int (iI li), .int (iI re)])), (hQ, .inr (2, [.ref qp, .int (iI qz), .int (iI qf)])), (qp, .inl (cI, 320, .inl P))] (S := (Nat → Int32) × Int) (fun z u => ((0 ≤ i ∧ i < qz) ∧ z = qz - 1 ∧ u.2 = qz - 1 ∧ lst (qdAt u.1) u.2 = (lst (qdAt P) qz).eraseIdx i.toNat) ∨ (¬ (0 ≤ i ∧ i < qz) ∧ z = -1 ∧ u.2 = qz ∧ u.1 = P)) (fun u => [(aTL, .inr (5, [.ref ht, .ref hot, .ref hT, .ref hQ, .ref hr, .ref hpr, .int (iI li), .int (iI re)])), (hQ, .inr (2, [.ref qp, .int (iI u.2), .int (iI qf)])), (qp, .inl (cI, 320, .inl u.1))]) := by
  refine CtI.walk (fun _ => True) (fun z _ => vp_nar_int _) (by decide) (Nat.le_of_ble_eq_true rfl) ?_
  intro xp xe0 xs xm xar xbelow xmeth xc xA0 xQ xe xb xml xo xt xP xK xD xA xret ls xl xS
  have xl : lv_has ls 2 [(0, .ref aTL), (1, .int (iI i))] := xl
  have xo : xs.vm.findClass R_TripleLines = some xm.cls := xo
  refine lv_aload_n xe xb d_TripleLines_drop_0 rfl (lv_at xl 0 rfl) ?_
  refine va_get (D := D) (ci := 5) (v := .ref hQ) (C := R_TripleLines) (T := F_TripleLines) (N := 8) xe xb xt i_TripleLines xo xK xP 0 rfl rfl 3 (by decide) (xt _ mw_TripleLines_31) (fun _ h9 => h9) rfl d_TripleLines_drop_1 ?_
  refine lv_iload_n xe xb d_TripleLines_drop_4 rfl (lv_at xl 1 rfl) ?_
  refine tk_callVi (As := [.int (iI i)]) (rest := []) (wr := [(aTL, .inr (5, [.ref ht, .ref hot, .ref hT, .ref hQ, .ref hr, .ref hpr, .int (iI li), .int (iI re)]))]) (wn := fun u => [(aTL, .inr (5, [.ref ht, .ref hot, .ref hT, .ref hQ, .ref hr, .ref hpr, .int (iI li), .int (iI re)])), (hQ, .inr (2, [.ref qp, .int (iI qz), .int (iI qf)])), (qp, .inl (cI, 320, .inl P))]) ⟨xe, xb, xml, xo, xt⟩ (c_Quads_has l D cI hQ qp P qz qf i (by first | assumption | omega) (by first | assumption | omega)) k_Quads_has mw_TripleLines_109 ⟨Nat.le_of_ble_eq_true rfl, Nat.le_of_ble_eq_true rfl⟩ xK xP xD xS xA rfl xl.1 rfl (Nat.le_of_ble_eq_true rfl) d_TripleLines_drop_5 ⟨Nat.zero_le _, Nat.zero_le _⟩ [1, 2] [0] [0, 1, 2] rfl rfl (by decide) (by decide) (by decide) (by decide) (fun _ => rfl) rfl rfl rfl ?_
  clear xP xD xS
  intro z_2 u H locs hr_3 hw_1 xP xD xS
  try dsimp only at hw_1
  replace xP : va_P D classes [(aTL, .inr (5, [.ref ht, .ref hot, .ref hT, .ref hQ, .ref hr, .ref hpr, .int (iI li), .int (iI re)])), (hQ, .inr (2, [.ref qp, .int (iI qz), .int (iI qf)])), (qp, .inl (cI, 320, .inl P))] H := xP
  replace xD : va_D xA0 [(aTL, .inr (5, [.ref ht, .ref hot, .ref hT, .ref hQ, .ref hr, .ref hpr, .int (iI li), .int (iI re)])), (hQ, .inr (2, [.ref qp, .int (iI qz), .int (iI qf)])), (qp, .inl (cI, 320, .inl P))] := xD
  rcases hw_1 with ⟨rfl, hb_4⟩ | ⟨rfl, hb_5⟩
  · refine tk_if_ne (tgt := 13) xe xb d_TripleLines_drop_8 (by decide) (by omega) (fun c_6 => ?_) (fun c_6 => absurd c_6 (by omega))
    refine lv_aload_n xe xb d_TripleLines_drop_13 rfl (lv_at xl 0 rfl) ?_
    refine va_get (D := D) (ci := 5) (v := .ref hQ) (C := R_TripleLines) (T := F_TripleLines) (N := 8) xe xb xt i_TripleLines xo xK xP 0 rfl rfl 3 (by decide) (xt _ mw_TripleLines_31) (fun _ h9 => h9) rfl d_TripleLines_drop_14 ?_
    refine lv_iload_n xe xb d_TripleLines_drop_17 rfl (lv_at xl 1 rfl) ?_
    refine tk_callVv (As := [.int (iI i)]) (rest := []) (wr := [(aTL, .inr (5, [.ref ht, .ref hot, .ref hT, .ref hQ, .ref hr, .ref hpr, .int (iI li), .int (iI re)]))]) (wn := fun u => [(aTL, .inr (5, [.ref ht, .ref hot, .ref hT, .ref hQ, .ref hr, .ref hpr, .int (iI li), .int (iI re)])), (hQ, .inr (2, [.ref qp, .int (iI u.2), .int (iI qf)])), (qp, .inl (cI, 320, .inl u.1))]) ⟨xe, xb, xml, xo, xt⟩ (c_Quads_remove l D cI hQ qp P qz qf i (by first | assumption | omega) (by first | assumption | omega)) k_Quads_remove mw_TripleLines_141 ⟨Nat.le_of_ble_eq_true rfl, Nat.le_of_ble_eq_true rfl⟩ xK xP xD xS xA rfl xl.1 rfl (Nat.le_of_ble_eq_true rfl) d_TripleLines_drop_18 ⟨Nat.zero_le _, Nat.zero_le _⟩ [1, 2] [0] [0, 1, 2] rfl rfl (by decide) (by decide) (by decide) (by decide) (fun _ => rfl) rfl rfl rfl ?_
    clear xP xD xS
    intro u H locs hw_9 xP xD xS
    obtain ⟨P2_7, qz2_8⟩ := u
    try dsimp only at hw_9
    replace xP : va_P D classes [(aTL, .inr (5, [.ref ht, .ref hot, .ref hT, .ref hQ, .ref hr, .ref hpr, .int (iI li), .int (iI re)])), (hQ, .inr (2, [.ref qp, .int (iI qz2_8), .int (iI qf)])), (qp, .inl (cI, 320, .inl P2_7))] H := xP
    replace xD : va_D xA0 [(aTL, .inr (5, [.ref ht, .ref hot, .ref hT, .ref hQ, .ref hr, .ref hpr, .int (iI li), .int (iI re)])), (hQ, .inr (2, [.ref qp, .int (iI qz2_8), .int (iI qf)])), (qp, .inl (cI, 320, .inl P2_7))] := xD
    have HP := hw_9
    refine lv_aload_n xe xb d_TripleLines_drop_21 rfl (lv_at xl 0 rfl) ?_
    refine va_get (D := D) (ci := 5) (v := .ref hQ) (C := R_TripleLines) (T := F_TripleLines) (N := 8) xe xb xt i_TripleLines xo xK xP 0 rfl rfl 3 (by decide) (xt _ mw_TripleLines_31) (fun _ h9 => h9) rfl d_TripleLines_drop_22 ?_
    refine va_get (D := D) (ci := 2) (v := .int (iI qz2_8)) (C := R_Quads) (T := F_Quads) (N := 3) xe xb xt i_Quads xo xK xP 1 rfl rfl 1 (by decide) (xt _ mw_TripleLines_77) (fun _ h9 => h9) rfl d_TripleLines_drop_25 ?_
    exact xret _ _ _ _ qz2_8 (P2_7, qz2_8) d_TripleLines_drop_28 trivial (by omega) (by first | exact (Or.inl ⟨by omega, HP.1, HP.1, HP.2⟩) | (dsimp only; exact (Or.inl ⟨by omega, HP.1, HP.1, HP.2⟩))) xP xD xS
  · refine tk_if_ne (tgt := 13) xe xb d_TripleLines_drop_8 (by decide) (by omega) (fun c_11 => absurd c_11 (by omega)) (fun c_11 => ?_)
    refine lv_iconst (v := iI (-1)) xe xb d_TripleLines_drop_11 rfl ?_
    exact xret _ _ _ _ (-1) (P, qz) d_TripleLines_drop_12 trivial (by omega) (by first | exact (Or.inr ⟨by omega, rfl, rfl, rfl⟩) | (dsimp only; exact (Or.inr ⟨by omega, rfl, rfl, rfl⟩))) xP xD xS
set_option maxHeartbeats 4000000 in
set_option maxRecDepth 100000 in
theorem c_TripleLines_at (l : Launch) (D : va_G) (cI : ClassId) (aTL : Nat) (ht : Nat) (hot : Nat) (hT : Nat) (hQ : Nat) (hr : Nat) (hpr : Nat) (li : Int) (re : Int) (qo : Nat) (co : Nat) (no : Int) (fo : Nat → Int32) (so : Int) (i : Int) (hn : 0 ≤ no ∧ no ≤ co ∧ co < 1000000) (hi9 : -2147483648 ≤ i ∧ i < 2147483648) : CtI l D [(cI, .int)] y_TripleLines_at b_TripleLines_at 3 (some .int) 1 [.ref aTL, .int (iI i)] [(aTL, .inr (5, [.ref ht, .ref hot, .ref hT, .ref hQ, .ref hr, .ref hpr, .int (iI li), .int (iI re)])), (hot, .inr (0, [.ref qo, .int (iI no), .int (iI so)])), (qo, .inl (cI, co, .inl fo))] (S := Unit) (fun z u => z = rd (lst (tI fo) no) i) (fun u => [(aTL, .inr (5, [.ref ht, .ref hot, .ref hT, .ref hQ, .ref hr, .ref hpr, .int (iI li), .int (iI re)])), (hot, .inr (0, [.ref qo, .int (iI no), .int (iI so)])), (qo, .inl (cI, co, .inl fo))]) := by
  refine CtI.walk (fun _ => True) (fun z _ => vp_nar_int _) (by decide) (Nat.le_of_ble_eq_true rfl) ?_
  intro xp xe0 xs xm xar xbelow xmeth xc xA0 xQ xe xb xml xo xt xP xK xD xA xret ls xl xS
  have xl : lv_has ls 3 [(0, .ref aTL), (1, .int (iI i))] := xl
  have xo : xs.vm.findClass R_TripleLines = some xm.cls := xo
  refine lv_aload_n xe xb d_TripleLines_at_0 rfl (lv_at xl 0 rfl) ?_
  refine va_get (D := D) (ci := 5) (v := .ref hot) (C := R_TripleLines) (T := F_TripleLines) (N := 8) xe xb xt i_TripleLines xo xK xP 0 rfl rfl 1 (by decide) (xt _ mw_TripleLines_18) (fun _ h9 => h9) rfl d_TripleLines_at_1 ?_
  refine lv_iload_n xe xb d_TripleLines_at_4 rfl (lv_at xl 1 rfl) ?_
  refine tk_callVi (As := [.int (iI i)]) (rest := []) (wr := [(aTL, .inr (5, [.ref ht, .ref hot, .ref hT, .ref hQ, .ref hr, .ref hpr, .int (iI li), .int (iI re)]))]) (wn := fun u => [(aTL, .inr (5, [.ref ht, .ref hot, .ref hT, .ref hQ, .ref hr, .ref hpr, .int (iI li), .int (iI re)])), (hot, .inr (0, [.ref qo, .int (iI no), .int (iI so)])), (qo, .inl (cI, co, .inl fo))]) ⟨xe, xb, xml, xo, xt⟩ (c_Row_get l D cI hot qo co no fo so i (by first | assumption | omega) (by first | assumption | omega)) k_Row_get mw_TripleLines_70 ⟨Nat.le_of_ble_eq_true rfl, Nat.le_of_ble_eq_true rfl⟩ xK xP xD xS xA rfl xl.1 rfl (Nat.le_of_ble_eq_true rfl) d_TripleLines_at_5 ⟨Nat.zero_le _, Nat.zero_le _⟩ [1, 2] [0] [0, 1, 2] rfl rfl (by decide) (by decide) (by decide) (by decide) (fun _ => rfl) rfl rfl rfl ?_
  clear xP xD xS
  intro z_2 u H locs hr_3 hw_1 xP xD xS
  try dsimp only at hw_1
  replace xP : va_P D classes [(aTL, .inr (5, [.ref ht, .ref hot, .ref hT, .ref hQ, .ref hr, .ref hpr, .int (iI li), .int (iI re)])), (hot, .inr (0, [.ref qo, .int (iI no), .int (iI so)])), (qo, .inl (cI, co, .inl fo))] H := xP
  replace xD : va_D xA0 [(aTL, .inr (5, [.ref ht, .ref hot, .ref hT, .ref hQ, .ref hr, .ref hpr, .int (iI li), .int (iI re)])), (hot, .inr (0, [.ref qo, .int (iI no), .int (iI so)])), (qo, .inl (cI, co, .inl fo))] := xD
  have HP := hw_1
  refine lv_istore_n (lv' := [(2, .int (iI z_2)), (0, .ref aTL), (1, .int (iI i))]) xe xb d_TripleLines_at_8 rfl xl (by decide) rfl ?_
  clear xl
  intro ls xl
  refine lv_iload_n xe xb d_TripleLines_at_9 rfl (lv_at xl 0 rfl) ?_
  refine lv_iconst (v := iI (-1)) xe xb d_TripleLines_at_10 rfl ?_
  refine tk_icmp_ne (tgt := 18) xe xb d_TripleLines_at_11 (by decide) (by omega) (fun c_4 => ?_) (fun c_4 => ?_)
  · refine lv_iload_n xe xb d_TripleLines_at_18 rfl (lv_at xl 0 rfl) ?_
    exact xret _ _ _ _ z_2 () d_TripleLines_at_19 trivial (by omega) (by omega) xP xD xS
  · refine lv_iconst (v := iI (-1)) xe xb d_TripleLines_at_14 rfl ?_
    refine lv_goto (tgt := 19) xe xb d_TripleLines_at_15 (by decide) ?_
    exact xret _ _ _ _ (-1) () d_TripleLines_at_19 trivial (by omega) (by omega) xP xD xS
set_option maxHeartbeats 4000000 in
set_option maxRecDepth 100000 in
theorem c_TripleLines_count (l : Launch) (D : va_G) (cI : ClassId) (aTL : Nat) (ht : Nat) (hot : Nat) (hT : Nat) (hQ : Nat) (hr : Nat) (hpr : Nat) (li : Int) (re : Int) (qt : Nat) (ct : Nat) (nt : Int) (ft : Nat → Int32) (st : Int) (qo : Nat) (co : Nat) (no : Int) (fo : Nat → Int32) (so : Int) (qk : Nat) (ql : Nat) (qc : Nat) (qtl : Nat) (qtg : Nat) (qty : Nat) (K : Nat → Int32) (Ln : Nat → Int32) (C : Nat → Int32) (TL : Nat → Int32) (TG : Nat → Int32) (TY : Nat → Int32) (sz : Int) (fr : Int) (fl : Int) (qp : Nat) (P : Nat → Int32) (qz : Int) (qf : Int) (w : Int) (hz : 0 ≤ sz ∧ sz ≤ 120) (hqz : 0 ≤ qz ∧ qz ≤ 80) (hn : 0 ≤ no ∧ no ≤ 3000) (hnt : 0 ≤ nt ∧ nt ≤ 3000) (hre : -2147483648 ≤ re ∧ re < 2147483648) (hw9 : -2147483648 ≤ w ∧ w < 2147483648) : CtI l D [(cI, .int)] y_TripleLines_count b_TripleLines_count 2 (some .int) 0 [.ref aTL, .int (iI w)] [(aTL, .inr (5, [.ref ht, .ref hot, .ref hT, .ref hQ, .ref hr, .ref hpr, .int (iI li), .int (iI re)])), (ht, .inr (0, [.ref qt, .int (iI nt), .int (iI st)])), (qt, .inl (cI, ct, .inl ft)), (hot, .inr (0, [.ref qo, .int (iI no), .int (iI so)])), (qo, .inl (cI, co, .inl fo)), (hT, .inr (1, [.ref qk, .ref ql, .ref qc, .ref qtl, .ref qtg, .ref qty, .int (iI sz), .int (iI fr), .int (iI fl)])), (qk, .inl (cI, 120, .inl K)), (ql, .inl (cI, 120, .inl Ln)), (qc, .inl (cI, 4800, .inl C)), (qtl, .inl (cI, 120, .inl TL)), (qtg, .inl (cI, 1920, .inl TG)), (qty, .inl (cI, 120, .inl TY)), (hQ, .inr (2, [.ref qp, .int (iI qz), .int (iI qf)])), (qp, .inl (cI, 320, .inl P))] (S := Unit) (fun z u => z = nAns qz sz re nt no w) (fun u => [(aTL, .inr (5, [.ref ht, .ref hot, .ref hT, .ref hQ, .ref hr, .ref hpr, .int (iI li), .int (iI re)])), (ht, .inr (0, [.ref qt, .int (iI nt), .int (iI st)])), (qt, .inl (cI, ct, .inl ft)), (hot, .inr (0, [.ref qo, .int (iI no), .int (iI so)])), (qo, .inl (cI, co, .inl fo)), (hT, .inr (1, [.ref qk, .ref ql, .ref qc, .ref qtl, .ref qtg, .ref qty, .int (iI sz), .int (iI fr), .int (iI fl)])), (qk, .inl (cI, 120, .inl K)), (ql, .inl (cI, 120, .inl Ln)), (qc, .inl (cI, 4800, .inl C)), (qtl, .inl (cI, 120, .inl TL)), (qtg, .inl (cI, 1920, .inl TG)), (qty, .inl (cI, 120, .inl TY)), (hQ, .inr (2, [.ref qp, .int (iI qz), .int (iI qf)])), (qp, .inl (cI, 320, .inl P))]) := by
  refine CtI.walk (fun _ => True) (fun z _ => vp_nar_int _) (by decide) (Nat.le_of_ble_eq_true rfl) ?_
  intro xp xe0 xs xm xar xbelow xmeth xc xA0 xQ xe xb xml xo xt xP xK xD xA xret ls xl xS
  have xl : lv_has ls 2 [(0, .ref aTL), (1, .int (iI w))] := xl
  have xo : xs.vm.findClass R_TripleLines = some xm.cls := xo
  refine lv_iload_n xe xb d_TripleLines_count_0 rfl (lv_at xl 1 rfl) ?_
  by_cases c_1 : w < 0 ∨ 4 < w
  · refine tk_tabOut (tgt := 73) xe xb d_TripleLines_count_1 (by omega) c_1 (by decide) ?_
    refine lv_iconst (v := iI (-1)) xe xb d_TripleLines_count_73 rfl ?_
    exact xret _ _ _ _ (-1) () d_TripleLines_count_74 trivial (by omega) (by unfold nAns; (repeat' split) <;> omega) xP xD xS
  by_cases c_2 : w = 0
  · refine tk_tabIn (off := 35) (tgt := 36) xe xb d_TripleLines_count_1 (by omega) 0 c_2 (by decide) (by decide) rfl (by decide) ?_
    refine lv_aload_n xe xb d_TripleLines_count_36 rfl (lv_at xl 0 rfl) ?_
    refine va_get (D := D) (ci := 5) (v := .ref hQ) (C := R_TripleLines) (T := F_TripleLines) (N := 8) xe xb xt i_TripleLines xo xK xP 0 rfl rfl 3 (by decide) (xt _ mw_TripleLines_31) (fun _ h9 => h9) rfl d_TripleLines_count_37 ?_
    refine va_get (D := D) (ci := 2) (v := .int (iI qz)) (C := R_Quads) (T := F_Quads) (N := 3) xe xb xt i_Quads xo xK xP 12 rfl rfl 1 (by decide) (xt _ mw_TripleLines_77) (fun _ h9 => h9) rfl d_TripleLines_count_40 ?_
    exact xret _ _ _ _ qz () d_TripleLines_count_43 trivial (by omega) (by unfold nAns; (repeat' split) <;> omega) xP xD xS
  by_cases c_3 : w = 1
  · refine tk_tabIn (off := 43) (tgt := 44) xe xb d_TripleLines_count_1 (by omega) 1 c_3 (by decide) (by decide) rfl (by decide) ?_
    refine lv_aload_n xe xb d_TripleLines_count_44 rfl (lv_at xl 0 rfl) ?_
    refine va_get (D := D) (ci := 5) (v := .ref hT) (C := R_TripleLines) (T := F_TripleLines) (N := 8) xe xb xt i_TripleLines xo xK xP 0 rfl rfl 2 (by decide) (xt _ mw_TripleLines_24) (fun _ h9 => h9) rfl d_TripleLines_count_45 ?_
    refine va_get (D := D) (ci := 1) (v := .int (iI sz)) (C := R_Terms) (T := F_Terms) (N := 9) xe xb xt i_Terms xo xK xP 5 rfl rfl 6 (by decide) (xt _ mw_TripleLines_74) (fun _ h9 => h9) rfl d_TripleLines_count_48 ?_
    exact xret _ _ _ _ sz () d_TripleLines_count_51 trivial (by omega) (by unfold nAns; (repeat' split) <;> omega) xP xD xS
  by_cases c_4 : w = 2
  · refine tk_tabIn (off := 51) (tgt := 52) xe xb d_TripleLines_count_1 (by omega) 2 c_4 (by decide) (by decide) rfl (by decide) ?_
    refine lv_aload_n xe xb d_TripleLines_count_52 rfl (lv_at xl 0 rfl) ?_
    refine va_get (D := D) (ci := 5) (v := .int (iI re)) (C := R_TripleLines) (T := F_TripleLines) (N := 8) xe xb xt i_TripleLines xo xK xP 0 rfl rfl 7 (by decide) (xt _ mw_TripleLines_57) (fun _ h9 => h9) rfl d_TripleLines_count_53 ?_
    exact xret _ _ _ _ re () d_TripleLines_count_56 trivial (by omega) (by unfold nAns; (repeat' split) <;> omega) xP xD xS
  by_cases c_5 : w = 3
  · refine tk_tabIn (off := 56) (tgt := 57) xe xb d_TripleLines_count_1 (by omega) 3 c_5 (by decide) (by decide) rfl (by decide) ?_
    refine lv_aload_n xe xb d_TripleLines_count_57 rfl (lv_at xl 0 rfl) ?_
    refine va_get (D := D) (ci := 5) (v := .ref ht) (C := R_TripleLines) (T := F_TripleLines) (N := 8) xe xb xt i_TripleLines xo xK xP 0 rfl rfl 0 (by decide) (xt _ mw_TripleLines_14) (fun _ h9 => h9) rfl d_TripleLines_count_58 ?_
    refine va_get (D := D) (ci := 0) (v := .int (iI nt)) (C := R_Row) (T := F_Row) (N := 3) xe xb xt i_Row xo xK xP 1 rfl rfl 1 (by decide) (xt _ mw_TripleLines_67) (fun _ h9 => h9) rfl d_TripleLines_count_61 ?_
    exact xret _ _ _ _ nt () d_TripleLines_count_64 trivial (by omega) (by unfold nAns; (repeat' split) <;> omega) xP xD xS
  have c_6 : w = 4 := by omega
  refine tk_tabIn (off := 64) (tgt := 65) xe xb d_TripleLines_count_1 (by omega) 4 c_6 (by decide) (by decide) rfl (by decide) ?_
  refine lv_aload_n xe xb d_TripleLines_count_65 rfl (lv_at xl 0 rfl) ?_
  refine va_get (D := D) (ci := 5) (v := .ref hot) (C := R_TripleLines) (T := F_TripleLines) (N := 8) xe xb xt i_TripleLines xo xK xP 0 rfl rfl 1 (by decide) (xt _ mw_TripleLines_18) (fun _ h9 => h9) rfl d_TripleLines_count_66 ?_
  refine va_get (D := D) (ci := 0) (v := .int (iI no)) (C := R_Row) (T := F_Row) (N := 3) xe xb xt i_Row xo xK xP 3 rfl rfl 1 (by decide) (xt _ mw_TripleLines_67) (fun _ h9 => h9) rfl d_TripleLines_count_69 ?_
  exact xret _ _ _ _ no () d_TripleLines_count_72 trivial (by omega) (by unfold nAns; (repeat' split) <;> omega) xP xD xS
set_option maxHeartbeats 4000000 in
set_option maxRecDepth 100000 in
theorem c_TripleLines_pass (l : Launch) (D : va_G) (cI : ClassId) (aTL : Nat) (ht : Nat) (hot : Nat) (hT : Nat) (hQ : Nat) (hr : Nat) (hpr : Nat) (li : Int) (re : Int) (qt : Nat) (ct : Nat) (nt : Int) (ft : Nat → Int32) (st : Int) (qo : Nat) (co : Nat) (no : Int) (fo : Nat → Int32) (so : Int) (hnt : 0 ≤ nt ∧ nt ≤ ct ∧ ct = 3000) (hn : 0 ≤ no ∧ no ≤ co ∧ co = 3000) : CtI l D [(cI, .int)] y_TripleLines_pass b_TripleLines_pass 2 (some .int) 1 [.ref aTL] [(aTL, .inr (5, [.ref ht, .ref hot, .ref hT, .ref hQ, .ref hr, .ref hpr, .int (iI li), .int (iI re)])), (ht, .inr (0, [.ref qt, .int (iI nt), .int (iI st)])), (qt, .inl (cI, ct, .inl ft)), (hot, .inr (0, [.ref qo, .int (iI no), .int (iI so)])), (qo, .inl (cI, co, .inl fo))] (S := Int × (Nat → Int32) × Int) (fun z u => 0 ≤ u.1 ∧ u.1 ≤ 3000 ∧ ((3000 < nt + no ∧ z = -3 ∧ lst (tI u.2.1) u.1 = lst (tI ft) nt) ∨ (nt + no ≤ 3000 ∧ z = nt + no ∧ lst (tI u.2.1) u.1 = lst (tI ft) nt ++ lst (tI fo) no))) (fun u => [(aTL, .inr (5, [.ref ht, .ref hot, .ref hT, .ref hQ, .ref hr, .ref hpr, .int (iI li), .int (iI re)])), (ht, .inr (0, [.ref qt, .int (iI u.1), .int (iI u.2.2)])), (qt, .inl (cI, ct, .inl u.2.1)), (hot, .inr (0, [.ref qo, .int (iI no), .int (iI so)])), (qo, .inl (cI, co, .inl fo))]) := by
  refine CtI.walk (fun _ => True) (fun z _ => vp_nar_int _) (by decide) (Nat.le_of_ble_eq_true rfl) ?_
  intro xp xe0 xs xm xar xbelow xmeth xc xA0 xQ xe xb xml xo xt xP xK xD xA xret ls xl xS
  have xl : lv_has ls 2 [(0, .ref aTL)] := xl
  have xo : xs.vm.findClass R_TripleLines = some xm.cls := xo
  refine lv_aload_n xe xb d_TripleLines_pass_0 rfl (lv_at xl 0 rfl) ?_
  refine va_get (D := D) (ci := 5) (v := .ref hot) (C := R_TripleLines) (T := F_TripleLines) (N := 8) xe xb xt i_TripleLines xo xK xP 0 rfl rfl 1 (by decide) (xt _ mw_TripleLines_18) (fun _ h9 => h9) rfl d_TripleLines_pass_1 ?_
  refine va_get (D := D) (ci := 0) (v := .int (iI no)) (C := R_Row) (T := F_Row) (N := 3) xe xb xt i_Row xo xK xP 3 rfl rfl 1 (by decide) (xt _ mw_TripleLines_67) (fun _ h9 => h9) rfl d_TripleLines_pass_4 ?_
  refine lv_aload_n xe xb d_TripleLines_pass_7 rfl (lv_at xl 0 rfl) ?_
  refine va_get (D := D) (ci := 5) (v := .ref ht) (C := R_TripleLines) (T := F_TripleLines) (N := 8) xe xb xt i_TripleLines xo xK xP 0 rfl rfl 0 (by decide) (xt _ mw_TripleLines_14) (fun _ h9 => h9) rfl d_TripleLines_pass_8 ?_
  refine tk_callVi (As := []) (rest := [.int (iI no)]) (wr := [(aTL, .inr (5, [.ref ht, .ref hot, .ref hT, .ref hQ, .ref hr, .ref hpr, .int (iI li), .int (iI re)])), (hot, .inr (0, [.ref qo, .int (iI no), .int (iI so)])), (qo, .inl (cI, co, .inl fo))]) (wn := fun u => [(aTL, .inr (5, [.ref ht, .ref hot, .ref hT, .ref hQ, .ref hr, .ref hpr, .int (iI li), .int (iI re)])), (ht, .inr (0, [.ref qt, .int (iI nt), .int (iI st)])), (qt, .inl (cI, ct, .inl ft)), (hot, .inr (0, [.ref qo, .int (iI no), .int (iI so)])), (qo, .inl (cI, co, .inl fo))]) ⟨xe, xb, xml, xo, xt⟩ (c_Row_room l D cI ht qt ct nt ft st (by first | assumption | omega)) k_Row_room mw_TripleLines_60 ⟨Nat.le_of_ble_eq_true rfl, Nat.le_of_ble_eq_true rfl⟩ xK xP xD xS xA rfl xl.1 rfl (Nat.le_of_ble_eq_true rfl) d_TripleLines_pass_11 ⟨Nat.zero_le _, Nat.zero_le _⟩ [1, 2] [0, 3, 4] [0, 3, 4, 1, 2] rfl rfl (by decide) (by decide) (by decide) (by decide) (fun _ => rfl) rfl rfl rfl ?_
  clear xP xD xS
  intro z_2 u H locs hr_3 hw_1 xP xD xS
  try dsimp only at hw_1
  replace xP : va_P D classes [(aTL, .inr (5, [.ref ht, .ref hot, .ref hT, .ref hQ, .ref hr, .ref hpr, .int (iI li), .int (iI re)])), (ht, .inr (0, [.ref qt, .int (iI nt), .int (iI st)])), (qt, .inl (cI, ct, .inl ft)), (hot, .inr (0, [.ref qo, .int (iI no), .int (iI so)])), (qo, .inl (cI, co, .inl fo))] H := xP
  replace xD : va_D xA0 [(aTL, .inr (5, [.ref ht, .ref hot, .ref hT, .ref hQ, .ref hr, .ref hpr, .int (iI li), .int (iI re)])), (ht, .inr (0, [.ref qt, .int (iI nt), .int (iI st)])), (qt, .inl (cI, ct, .inl ft)), (hot, .inr (0, [.ref qo, .int (iI no), .int (iI so)])), (qo, .inl (cI, co, .inl fo))] := xD
  refine tk_icmp_le (tgt := 20) xe xb d_TripleLines_pass_14 (by decide) (by omega) (fun c_4 => ?_) (fun c_4 => ?_)
  · refine lv_iconst (v := iI (0)) xe xb d_TripleLines_pass_20 rfl ?_
    refine lv_istore_n (lv' := [(1, .int (iI 0)), (0, .ref aTL)]) xe xb d_TripleLines_pass_21 rfl xl (by decide) rfl ?_
    clear xl
    intro ls xl
    have loop_22 : ∀ (n9 : Nat) (i : Int) (nv : Int) (gv : Nat → Int32) (sv : Int), (no - i).toNat < n9 → (0 ≤ i ∧ i ≤ no ∧ nv = nt + i ∧ nt + no ≤ 3000) → (lst (tI gv) nv = lst (tI ft) nt ++ lst (tI fo) i) → ∀ (H : Heap) (locs : List Loc), va_P D classes [(aTL, .inr (5, [.ref ht, .ref hot, .ref hT, .ref hQ, .ref hr, .ref hpr, .int (iI li), .int (iI re)])), (ht, .inr (0, [.ref qt, .int (iI nv), .int (iI sv)])), (qt, .inl (cI, ct, .inl gv)), (hot, .inr (0, [.ref qo, .int (iI no), .int (iI so)])), (qo, .inl (cI, co, .inl fo))] H → va_D xA0 [(aTL, .inr (5, [.ref ht, .ref hot, .ref hT, .ref hQ, .ref hr, .ref hpr, .int (iI li), .int (iI re)])), (ht, .inr (0, [.ref qt, .int (iI nv), .int (iI sv)])), (qt, .inl (cI, ct, .inl gv)), (hot, .inr (0, [.ref qo, .int (iI no), .int (iI so)])), (qo, .inl (cI, co, .inl fo))] → va_S xA0 xs.heap H locs → ∀ ls : Array Slot, lv_has ls 2 [(0, .ref aTL), (1, .int (iI i))] → W xp l xe0 (tk_rm 1) xs xm xar xbelow xmeth xc H locs 0 0 xQ (F0 xm 22 ls []) := by
      intro n9
      induction n9 with
      | zero => intro i nv gv sv h9; exact absurd h9 (Nat.not_lt_zero _)
      | succ n9 ih9 =>
        intro i nv gv sv hm9 hi h1 H locs xP xD xS ls xl
        have ih_22 := ih9
        have hm_22 := hm9
        refine lv_iload_n xe xb d_TripleLines_pass_22 rfl (lv_at xl 1 rfl) ?_
        refine lv_aload_n xe xb d_TripleLines_pass_23 rfl (lv_at xl 0 rfl) ?_
        refine va_get (D := D) (ci := 5) (v := .ref hot) (C := R_TripleLines) (T := F_TripleLines) (N := 8) xe xb xt i_TripleLines xo xK xP 0 rfl rfl 1 (by decide) (xt _ mw_TripleLines_18) (fun _ h9 => h9) rfl d_TripleLines_pass_24 ?_
        refine va_get (D := D) (ci := 0) (v := .int (iI no)) (C := R_Row) (T := F_Row) (N := 3) xe xb xt i_Row xo xK xP 3 rfl rfl 1 (by decide) (xt _ mw_TripleLines_67) (fun _ h9 => h9) rfl d_TripleLines_pass_27 ?_
        refine tk_icmp_ge (tgt := 54) xe xb d_TripleLines_pass_30 (by decide) (by omega) (fun c_5 => ?_) (fun c_5 => ?_)
        · refine lv_aload_n xe xb d_TripleLines_pass_54 rfl (lv_at xl 0 rfl) ?_
          refine va_get (D := D) (ci := 5) (v := .ref ht) (C := R_TripleLines) (T := F_TripleLines) (N := 8) xe xb xt i_TripleLines xo xK xP 0 rfl rfl 0 (by decide) (xt _ mw_TripleLines_14) (fun _ h9 => h9) rfl d_TripleLines_pass_55 ?_
          refine va_get (D := D) (ci := 0) (v := .int (iI nv)) (C := R_Row) (T := F_Row) (N := 3) xe xb xt i_Row xo xK xP 1 rfl rfl 1 (by decide) (xt _ mw_TripleLines_67) (fun _ h9 => h9) rfl d_TripleLines_pass_58 ?_
          exact xret _ _ _ _ nv (nv, gv, sv) d_TripleLines_pass_61 trivial (by omega) (by first | exact (⟨by omega, by omega, Or.inr ⟨by omega, by omega, by rw [h1]; congr 2; omega⟩⟩) | (dsimp only; exact (⟨by omega, by omega, Or.inr ⟨by omega, by omega, by rw [h1]; congr 2; omega⟩⟩))) xP xD xS
        · refine lv_aload_n xe xb d_TripleLines_pass_33 rfl (lv_at xl 0 rfl) ?_
          refine va_get (D := D) (ci := 5) (v := .ref ht) (C := R_TripleLines) (T := F_TripleLines) (N := 8) xe xb xt i_TripleLines xo xK xP 0 rfl rfl 0 (by decide) (xt _ mw_TripleLines_14) (fun _ h9 => h9) rfl d_TripleLines_pass_34 ?_
          refine lv_aload_n xe xb d_TripleLines_pass_37 rfl (lv_at xl 0 rfl) ?_
          refine va_get (D := D) (ci := 5) (v := .ref hot) (C := R_TripleLines) (T := F_TripleLines) (N := 8) xe xb xt i_TripleLines xo xK xP 0 rfl rfl 1 (by decide) (xt _ mw_TripleLines_18) (fun _ h9 => h9) rfl d_TripleLines_pass_38 ?_
          refine lv_iload_n xe xb d_TripleLines_pass_41 rfl (lv_at xl 1 rfl) ?_
          refine tk_callVi (As := [.int (iI i)]) (rest := [.ref ht]) (wr := [(aTL, .inr (5, [.ref ht, .ref hot, .ref hT, .ref hQ, .ref hr, .ref hpr, .int (iI li), .int (iI re)])), (ht, .inr (0, [.ref qt, .int (iI nv), .int (iI sv)])), (qt, .inl (cI, ct, .inl gv))]) (wn := fun u => [(aTL, .inr (5, [.ref ht, .ref hot, .ref hT, .ref hQ, .ref hr, .ref hpr, .int (iI li), .int (iI re)])), (ht, .inr (0, [.ref qt, .int (iI nv), .int (iI sv)])), (qt, .inl (cI, ct, .inl gv)), (hot, .inr (0, [.ref qo, .int (iI no), .int (iI so)])), (qo, .inl (cI, co, .inl fo))]) ⟨xe, xb, xml, xo, xt⟩ (c_Row_get l D cI hot qo co no fo so i (by first | assumption | omega) (by first | assumption | omega)) k_Row_get mw_TripleLines_70 ⟨Nat.le_of_ble_eq_true rfl, Nat.le_of_ble_eq_true rfl⟩ xK xP xD xS xA rfl xl.1 rfl (Nat.le_of_ble_eq_true rfl) d_TripleLines_pass_42 ⟨Nat.zero_le _, Nat.zero_le _⟩ [3, 4] [0, 1, 2] [0, 1, 2, 3, 4] rfl rfl (by decide) (by decide) (by decide) (by decide) (fun _ => rfl) rfl rfl rfl ?_
          clear xP xD xS
          intro z_7 u H locs hr_8 hw_6 xP xD xS
          try dsimp only at hw_6
          replace xP : va_P D classes [(aTL, .inr (5, [.ref ht, .ref hot, .ref hT, .ref hQ, .ref hr, .ref hpr, .int (iI li), .int (iI re)])), (ht, .inr (0, [.ref qt, .int (iI nv), .int (iI sv)])), (qt, .inl (cI, ct, .inl gv)), (hot, .inr (0, [.ref qo, .int (iI no), .int (iI so)])), (qo, .inl (cI, co, .inl fo))] H := xP
          replace xD : va_D xA0 [(aTL, .inr (5, [.ref ht, .ref hot, .ref hT, .ref hQ, .ref hr, .ref hpr, .int (iI li), .int (iI re)])), (ht, .inr (0, [.ref qt, .int (iI nv), .int (iI sv)])), (qt, .inl (cI, ct, .inl gv)), (hot, .inr (0, [.ref qo, .int (iI no), .int (iI so)])), (qo, .inl (cI, co, .inl fo))] := xD
          have HG := hw_6
          refine tk_callVv (As := [.int (iI z_7)]) (rest := []) (wr := [(aTL, .inr (5, [.ref ht, .ref hot, .ref hT, .ref hQ, .ref hr, .ref hpr, .int (iI li), .int (iI re)])), (hot, .inr (0, [.ref qo, .int (iI no), .int (iI so)])), (qo, .inl (cI, co, .inl fo))]) (wn := fun u => [(aTL, .inr (5, [.ref ht, .ref hot, .ref hT, .ref hQ, .ref hr, .ref hpr, .int (iI li), .int (iI re)])), (ht, .inr (0, [.ref qt, .int (iI u.1), .int (iI u.2.2)])), (qt, .inl (cI, ct, .inl u.2.1)), (hot, .inr (0, [.ref qo, .int (iI no), .int (iI so)])), (qo, .inl (cI, co, .inl fo))]) ⟨xe, xb, xml, xo, xt⟩ (c_Row_add l D cI ht qt ct nv gv sv z_7 (by first | assumption | omega)) k_Row_add mw_TripleLines_64 ⟨Nat.le_of_ble_eq_true rfl, Nat.le_of_ble_eq_true rfl⟩ xK xP xD xS xA rfl xl.1 rfl (Nat.le_of_ble_eq_true rfl) d_TripleLines_pass_45 ⟨Nat.zero_le _, Nat.zero_le _⟩ [1, 2] [0, 3, 4] [0, 3, 4, 1, 2] rfl rfl (by decide) (by decide) (by decide) (by decide) (fun _ => rfl) rfl rfl rfl ?_
          clear xP xD xS
          intro u H locs hw_12 xP xD xS
          obtain ⟨n2_9, f2_10, sp2_11⟩ := u
          try dsimp only at hw_12
          replace xP : va_P D classes [(aTL, .inr (5, [.ref ht, .ref hot, .ref hT, .ref hQ, .ref hr, .ref hpr, .int (iI li), .int (iI re)])), (ht, .inr (0, [.ref qt, .int (iI n2_9), .int (iI sp2_11)])), (qt, .inl (cI, ct, .inl f2_10)), (hot, .inr (0, [.ref qo, .int (iI no), .int (iI so)])), (qo, .inl (cI, co, .inl fo))] H := xP
          replace xD : va_D xA0 [(aTL, .inr (5, [.ref ht, .ref hot, .ref hT, .ref hQ, .ref hr, .ref hpr, .int (iI li), .int (iI re)])), (ht, .inr (0, [.ref qt, .int (iI n2_9), .int (iI sp2_11)])), (qt, .inl (cI, ct, .inl f2_10)), (hot, .inr (0, [.ref qo, .int (iI no), .int (iI so)])), (qo, .inl (cI, co, .inl fo))] := xD
          rcases hw_12 with ⟨Ha2, Hb2, Hc2, Hd2⟩ | ⟨Ha2, Hb2, Hc2, Hd2⟩
          · refine tk_iinc (v := (i + 1)) (lv' := [(1, .int (iI (i + 1))), (0, .ref aTL)]) xe xb d_TripleLines_pass_48 xl (k := 1) rfl rfl (by decide) rfl ?_
            clear xl
            intro ls xl
            refine lv_goto (tgt := 22) xe xb d_TripleLines_pass_51 (by decide) ?_
            exact ih_22 (i + 1) n2_9 f2_10 sp2_11 (by omega) (by first | assumption | omega) (by rw [Hb2, Hc2, lst_push gv (by omega) (by omega), h1, lst_succ _ hi.1, HG, rd_in (by omega), List.append_assoc]) _ _ xP xD xS ls (lv_sub xl [1, 0] rfl)
          · exfalso; omega
    exact loop_22 _ 0 nt ft st (Nat.lt_succ_self _) (by first | assumption | omega) (by rw [lst_neg (g := tI fo) (Int.le_refl 0), List.append_nil]) _ _ xP xD xS ls (lv_sub xl [1, 0] rfl)
  · refine lv_bipush (v := iI (-3)) xe xb d_TripleLines_pass_17 (by decide) ?_
    exact xret _ _ _ _ (-3) (nt, ft, st) d_TripleLines_pass_19 trivial (by omega) (by first | exact (⟨by omega, by omega, Or.inl ⟨by omega, rfl, rfl⟩⟩) | (dsimp only; exact (⟨by omega, by omega, Or.inl ⟨by omega, rfl, rfl⟩⟩))) xP xD xS
