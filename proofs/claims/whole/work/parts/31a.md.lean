theorem d_TripleLinesModel_in_0 : decode b_TripleLinesModel_in 0 = .ok (.iload_n 0, 1) := by decide +kernel
theorem d_TripleLinesModel_in_1 : decode b_TripleLinesModel_in 1 = .ok (.iload_n 1, 1) := by decide +kernel
theorem d_TripleLinesModel_in_2 : decode b_TripleLinesModel_in 2 = .ok (.if_icmp .lt 12, 3) := by decide +kernel
theorem d_TripleLinesModel_in_5 : decode b_TripleLinesModel_in 5 = .ok (.iload_n 0, 1) := by decide +kernel
theorem d_TripleLinesModel_in_6 : decode b_TripleLinesModel_in 6 = .ok (.iload_n 2, 1) := by decide +kernel
theorem d_TripleLinesModel_in_7 : decode b_TripleLinesModel_in 7 = .ok (.if_icmp .gt 7, 3) := by decide +kernel
theorem d_TripleLinesModel_in_10 : decode b_TripleLinesModel_in 10 = .ok (.iconst 1, 1) := by decide +kernel
theorem d_TripleLinesModel_in_11 : decode b_TripleLinesModel_in 11 = .ok (.goto 4, 3) := by decide +kernel
theorem d_TripleLinesModel_in_14 : decode b_TripleLinesModel_in 14 = .ok (.iconst 0, 1) := by decide +kernel
theorem d_TripleLinesModel_in_15 : decode b_TripleLinesModel_in 15 = .ok (.ireturn, 1) := by decide +kernel
theorem d_TripleLinesModel_isLetter_0 : decode b_TripleLinesModel_isLetter 0 = .ok (.iload_n 0, 1) := by decide +kernel
theorem d_TripleLinesModel_isLetter_1 : decode b_TripleLinesModel_isLetter 1 = .ok (.bipush 97, 2) := by decide +kernel
theorem d_TripleLinesModel_isLetter_3 : decode b_TripleLinesModel_isLetter 3 = .ok (.bipush 122, 2) := by decide +kernel
theorem d_TripleLinesModel_isLetter_5 : decode b_TripleLinesModel_isLetter 5 = .ok (.invokestatic 63, 3) := by decide +kernel
theorem d_TripleLinesModel_isLetter_8 : decode b_TripleLinesModel_isLetter 8 = .ok (.ifCond .ne 14, 3) := by decide +kernel
theorem d_TripleLinesModel_isLetter_11 : decode b_TripleLinesModel_isLetter 11 = .ok (.iload_n 0, 1) := by decide +kernel
theorem d_TripleLinesModel_isLetter_12 : decode b_TripleLinesModel_isLetter 12 = .ok (.bipush 65, 2) := by decide +kernel
theorem d_TripleLinesModel_isLetter_14 : decode b_TripleLinesModel_isLetter 14 = .ok (.bipush 90, 2) := by decide +kernel
theorem d_TripleLinesModel_isLetter_16 : decode b_TripleLinesModel_isLetter 16 = .ok (.invokestatic 63, 3) := by decide +kernel
theorem d_TripleLinesModel_isLetter_19 : decode b_TripleLinesModel_isLetter 19 = .ok (.ifCond .eq 7, 3) := by decide +kernel
theorem d_TripleLinesModel_isLetter_22 : decode b_TripleLinesModel_isLetter 22 = .ok (.iconst 1, 1) := by decide +kernel
theorem d_TripleLinesModel_isLetter_23 : decode b_TripleLinesModel_isLetter 23 = .ok (.goto 4, 3) := by decide +kernel
theorem d_TripleLinesModel_isLetter_26 : decode b_TripleLinesModel_isLetter 26 = .ok (.iconst 0, 1) := by decide +kernel
theorem d_TripleLinesModel_isLetter_27 : decode b_TripleLinesModel_isLetter 27 = .ok (.ireturn, 1) := by decide +kernel
theorem d_TripleLinesModel_isDigit_0 : decode b_TripleLinesModel_isDigit 0 = .ok (.iload_n 0, 1) := by decide +kernel
theorem d_TripleLinesModel_isDigit_1 : decode b_TripleLinesModel_isDigit 1 = .ok (.bipush 48, 2) := by decide +kernel
theorem d_TripleLinesModel_isDigit_3 : decode b_TripleLinesModel_isDigit 3 = .ok (.bipush 57, 2) := by decide +kernel
theorem d_TripleLinesModel_isDigit_5 : decode b_TripleLinesModel_isDigit 5 = .ok (.invokestatic 63, 3) := by decide +kernel
theorem d_TripleLinesModel_isDigit_8 : decode b_TripleLinesModel_isDigit 8 = .ok (.ireturn, 1) := by decide +kernel
theorem d_TripleLinesModel_hex_0 : decode b_TripleLinesModel_hex 0 = .ok (.iload_n 0, 1) := by decide +kernel
theorem d_TripleLinesModel_hex_1 : decode b_TripleLinesModel_hex 1 = .ok (.invokestatic 67, 3) := by decide +kernel
theorem d_TripleLinesModel_hex_4 : decode b_TripleLinesModel_hex 4 = .ok (.ifCond .eq 10, 3) := by decide +kernel
theorem d_TripleLinesModel_hex_7 : decode b_TripleLinesModel_hex 7 = .ok (.iload_n 0, 1) := by decide +kernel
theorem d_TripleLinesModel_hex_8 : decode b_TripleLinesModel_hex 8 = .ok (.bipush 48, 2) := by decide +kernel
theorem d_TripleLinesModel_hex_10 : decode b_TripleLinesModel_hex 10 = .ok (.isub, 1) := by decide +kernel
theorem d_TripleLinesModel_hex_11 : decode b_TripleLinesModel_hex 11 = .ok (.goto 46, 3) := by decide +kernel
theorem d_TripleLinesModel_hex_14 : decode b_TripleLinesModel_hex 14 = .ok (.iload_n 0, 1) := by decide +kernel
theorem d_TripleLinesModel_hex_15 : decode b_TripleLinesModel_hex 15 = .ok (.bipush 97, 2) := by decide +kernel
theorem d_TripleLinesModel_hex_17 : decode b_TripleLinesModel_hex 17 = .ok (.bipush 102, 2) := by decide +kernel
theorem d_TripleLinesModel_hex_19 : decode b_TripleLinesModel_hex 19 = .ok (.invokestatic 63, 3) := by decide +kernel
theorem d_TripleLinesModel_hex_22 : decode b_TripleLinesModel_hex 22 = .ok (.ifCond .eq 13, 3) := by decide +kernel
theorem d_TripleLinesModel_hex_25 : decode b_TripleLinesModel_hex 25 = .ok (.iload_n 0, 1) := by decide +kernel
theorem d_TripleLinesModel_hex_26 : decode b_TripleLinesModel_hex 26 = .ok (.bipush 97, 2) := by decide +kernel
theorem d_TripleLinesModel_hex_28 : decode b_TripleLinesModel_hex 28 = .ok (.isub, 1) := by decide +kernel
theorem d_TripleLinesModel_hex_29 : decode b_TripleLinesModel_hex 29 = .ok (.bipush 10, 2) := by decide +kernel
theorem d_TripleLinesModel_hex_31 : decode b_TripleLinesModel_hex 31 = .ok (.iadd, 1) := by decide +kernel
theorem d_TripleLinesModel_hex_32 : decode b_TripleLinesModel_hex 32 = .ok (.goto 25, 3) := by decide +kernel
theorem d_TripleLinesModel_hex_35 : decode b_TripleLinesModel_hex 35 = .ok (.iload_n 0, 1) := by decide +kernel
theorem d_TripleLinesModel_hex_36 : decode b_TripleLinesModel_hex 36 = .ok (.bipush 65, 2) := by decide +kernel
theorem d_TripleLinesModel_hex_38 : decode b_TripleLinesModel_hex 38 = .ok (.bipush 70, 2) := by decide +kernel
theorem d_TripleLinesModel_hex_40 : decode b_TripleLinesModel_hex 40 = .ok (.invokestatic 63, 3) := by decide +kernel
theorem d_TripleLinesModel_hex_43 : decode b_TripleLinesModel_hex 43 = .ok (.ifCond .eq 13, 3) := by decide +kernel
theorem d_TripleLinesModel_hex_46 : decode b_TripleLinesModel_hex 46 = .ok (.iload_n 0, 1) := by decide +kernel
theorem d_TripleLinesModel_hex_47 : decode b_TripleLinesModel_hex 47 = .ok (.bipush 65, 2) := by decide +kernel
theorem d_TripleLinesModel_hex_49 : decode b_TripleLinesModel_hex 49 = .ok (.isub, 1) := by decide +kernel
theorem d_TripleLinesModel_hex_50 : decode b_TripleLinesModel_hex 50 = .ok (.bipush 10, 2) := by decide +kernel
theorem d_TripleLinesModel_hex_52 : decode b_TripleLinesModel_hex 52 = .ok (.iadd, 1) := by decide +kernel
theorem d_TripleLinesModel_hex_53 : decode b_TripleLinesModel_hex 53 = .ok (.goto 4, 3) := by decide +kernel
theorem d_TripleLinesModel_hex_56 : decode b_TripleLinesModel_hex 56 = .ok (.iconst (-1), 1) := by decide +kernel
theorem d_TripleLinesModel_hex_57 : decode b_TripleLinesModel_hex 57 = .ok (.ireturn, 1) := by decide +kernel
theorem d_TripleLinesModel_isCode_0 : decode b_TripleLinesModel_isCode 0 = .ok (.lload_n 0, 1) := by decide +kernel
theorem d_TripleLinesModel_isCode_1 : decode b_TripleLinesModel_isCode 1 = .ok (.lconst 0, 1) := by decide +kernel
theorem d_TripleLinesModel_isCode_2 : decode b_TripleLinesModel_isCode 2 = .ok (.lcmp, 1) := by decide +kernel
theorem d_TripleLinesModel_isCode_3 : decode b_TripleLinesModel_isCode 3 = .ok (.ifCond .lt 31, 3) := by decide +kernel
theorem d_TripleLinesModel_isCode_6 : decode b_TripleLinesModel_isCode 6 = .ok (.lload_n 0, 1) := by decide +kernel
theorem d_TripleLinesModel_isCode_7 : decode b_TripleLinesModel_isCode 7 = .ok (.ldc2_w 98, 3) := by decide +kernel
theorem d_TripleLinesModel_isCode_10 : decode b_TripleLinesModel_isCode 10 = .ok (.lcmp, 1) := by decide +kernel
theorem d_TripleLinesModel_isCode_11 : decode b_TripleLinesModel_isCode 11 = .ok (.ifCond .gt 23, 3) := by decide +kernel
theorem d_TripleLinesModel_isCode_14 : decode b_TripleLinesModel_isCode 14 = .ok (.lload_n 0, 1) := by decide +kernel
theorem d_TripleLinesModel_isCode_15 : decode b_TripleLinesModel_isCode 15 = .ok (.ldc2_w 100, 3) := by decide +kernel
theorem d_TripleLinesModel_isCode_18 : decode b_TripleLinesModel_isCode 18 = .ok (.lcmp, 1) := by decide +kernel
theorem d_TripleLinesModel_isCode_19 : decode b_TripleLinesModel_isCode 19 = .ok (.ifCond .lt 11, 3) := by decide +kernel
theorem d_TripleLinesModel_isCode_22 : decode b_TripleLinesModel_isCode 22 = .ok (.lload_n 0, 1) := by decide +kernel
theorem d_TripleLinesModel_isCode_23 : decode b_TripleLinesModel_isCode 23 = .ok (.ldc2_w 102, 3) := by decide +kernel
theorem d_TripleLinesModel_isCode_26 : decode b_TripleLinesModel_isCode 26 = .ok (.lcmp, 1) := by decide +kernel
theorem d_TripleLinesModel_isCode_27 : decode b_TripleLinesModel_isCode 27 = .ok (.ifCond .le 7, 3) := by decide +kernel
theorem d_TripleLinesModel_isCode_30 : decode b_TripleLinesModel_isCode 30 = .ok (.iconst 1, 1) := by decide +kernel
theorem d_TripleLinesModel_isCode_31 : decode b_TripleLinesModel_isCode 31 = .ok (.goto 4, 3) := by decide +kernel
theorem d_TripleLinesModel_isCode_34 : decode b_TripleLinesModel_isCode 34 = .ok (.iconst 0, 1) := by decide +kernel
theorem d_TripleLinesModel_isCode_35 : decode b_TripleLinesModel_isCode 35 = .ok (.ireturn, 1) := by decide +kernel
theorem d_TripleLinesModel_isNode_0 : decode b_TripleLinesModel_isNode 0 = .ok (.lload_n 0, 1) := by decide +kernel
theorem d_TripleLinesModel_isNode_1 : decode b_TripleLinesModel_isNode 1 = .ok (.ldc2_w 109, 3) := by decide +kernel
theorem d_TripleLinesModel_isNode_4 : decode b_TripleLinesModel_isNode 4 = .ok (.lcmp, 1) := by decide +kernel
theorem d_TripleLinesModel_isNode_5 : decode b_TripleLinesModel_isNode 5 = .ok (.ifCond .le 79, 3) := by decide +kernel
theorem d_TripleLinesModel_isNode_8 : decode b_TripleLinesModel_isNode 8 = .ok (.lload_n 0, 1) := by decide +kernel
theorem d_TripleLinesModel_isNode_9 : decode b_TripleLinesModel_isNode 9 = .ok (.ldc2_w 111, 3) := by decide +kernel
theorem d_TripleLinesModel_isNode_12 : decode b_TripleLinesModel_isNode 12 = .ok (.lcmp, 1) := by decide +kernel
theorem d_TripleLinesModel_isNode_13 : decode b_TripleLinesModel_isNode 13 = .ok (.ifCond .eq 71, 3) := by decide +kernel
theorem d_TripleLinesModel_isNode_16 : decode b_TripleLinesModel_isNode 16 = .ok (.lload_n 0, 1) := by decide +kernel
theorem d_TripleLinesModel_isNode_17 : decode b_TripleLinesModel_isNode 17 = .ok (.ldc2_w 113, 3) := by decide +kernel
theorem d_TripleLinesModel_isNode_20 : decode b_TripleLinesModel_isNode 20 = .ok (.lcmp, 1) := by decide +kernel
theorem d_TripleLinesModel_isNode_21 : decode b_TripleLinesModel_isNode 21 = .ok (.ifCond .eq 63, 3) := by decide +kernel
theorem d_TripleLinesModel_isNode_24 : decode b_TripleLinesModel_isNode 24 = .ok (.lload_n 0, 1) := by decide +kernel
theorem d_TripleLinesModel_isNode_25 : decode b_TripleLinesModel_isNode 25 = .ok (.ldc2_w 115, 3) := by decide +kernel
theorem d_TripleLinesModel_isNode_28 : decode b_TripleLinesModel_isNode 28 = .ok (.lcmp, 1) := by decide +kernel
theorem d_TripleLinesModel_isNode_29 : decode b_TripleLinesModel_isNode 29 = .ok (.ifCond .eq 55, 3) := by decide +kernel
theorem d_TripleLinesModel_isNode_32 : decode b_TripleLinesModel_isNode 32 = .ok (.lload_n 0, 1) := by decide +kernel
theorem d_TripleLinesModel_isNode_33 : decode b_TripleLinesModel_isNode 33 = .ok (.ldc2_w 117, 3) := by decide +kernel
theorem d_TripleLinesModel_isNode_36 : decode b_TripleLinesModel_isNode 36 = .ok (.lcmp, 1) := by decide +kernel
theorem d_TripleLinesModel_isNode_37 : decode b_TripleLinesModel_isNode 37 = .ok (.ifCond .eq 47, 3) := by decide +kernel
theorem d_TripleLinesModel_isNode_40 : decode b_TripleLinesModel_isNode 40 = .ok (.lload_n 0, 1) := by decide +kernel
theorem d_TripleLinesModel_isNode_41 : decode b_TripleLinesModel_isNode 41 = .ok (.ldc2_w 119, 3) := by decide +kernel
theorem d_TripleLinesModel_isNode_44 : decode b_TripleLinesModel_isNode 44 = .ok (.lcmp, 1) := by decide +kernel
theorem d_TripleLinesModel_isNode_45 : decode b_TripleLinesModel_isNode 45 = .ok (.ifCond .eq 39, 3) := by decide +kernel
theorem d_TripleLinesModel_isNode_48 : decode b_TripleLinesModel_isNode 48 = .ok (.lload_n 0, 1) := by decide +kernel
theorem d_TripleLinesModel_isNode_49 : decode b_TripleLinesModel_isNode 49 = .ok (.ldc2_w 121, 3) := by decide +kernel
theorem d_TripleLinesModel_isNode_52 : decode b_TripleLinesModel_isNode 52 = .ok (.lcmp, 1) := by decide +kernel
theorem d_TripleLinesModel_isNode_53 : decode b_TripleLinesModel_isNode 53 = .ok (.ifCond .eq 31, 3) := by decide +kernel
theorem d_TripleLinesModel_isNode_56 : decode b_TripleLinesModel_isNode 56 = .ok (.lload_n 0, 1) := by decide +kernel
theorem d_TripleLinesModel_isNode_57 : decode b_TripleLinesModel_isNode 57 = .ok (.ldc2_w 123, 3) := by decide +kernel
theorem d_TripleLinesModel_isNode_60 : decode b_TripleLinesModel_isNode 60 = .ok (.lcmp, 1) := by decide +kernel
theorem d_TripleLinesModel_isNode_61 : decode b_TripleLinesModel_isNode 61 = .ok (.ifCond .eq 23, 3) := by decide +kernel
theorem d_TripleLinesModel_isNode_64 : decode b_TripleLinesModel_isNode 64 = .ok (.lload_n 0, 1) := by decide +kernel
theorem d_TripleLinesModel_isNode_65 : decode b_TripleLinesModel_isNode 65 = .ok (.ldc2_w 125, 3) := by decide +kernel
theorem d_TripleLinesModel_isNode_68 : decode b_TripleLinesModel_isNode 68 = .ok (.lcmp, 1) := by decide +kernel
theorem d_TripleLinesModel_isNode_69 : decode b_TripleLinesModel_isNode 69 = .ok (.ifCond .eq 15, 3) := by decide +kernel
theorem d_TripleLinesModel_isNode_72 : decode b_TripleLinesModel_isNode 72 = .ok (.lload_n 0, 1) := by decide +kernel
theorem d_TripleLinesModel_isNode_73 : decode b_TripleLinesModel_isNode 73 = .ok (.ldc2_w 127, 3) := by decide +kernel
theorem d_TripleLinesModel_isNode_76 : decode b_TripleLinesModel_isNode 76 = .ok (.lcmp, 1) := by decide +kernel
theorem d_TripleLinesModel_isNode_77 : decode b_TripleLinesModel_isNode 77 = .ok (.ifCond .eq 7, 3) := by decide +kernel
theorem d_TripleLinesModel_isNode_80 : decode b_TripleLinesModel_isNode 80 = .ok (.iconst 1, 1) := by decide +kernel
theorem d_TripleLinesModel_isNode_81 : decode b_TripleLinesModel_isNode 81 = .ok (.goto 4, 3) := by decide +kernel
theorem d_TripleLinesModel_isNode_84 : decode b_TripleLinesModel_isNode 84 = .ok (.iconst 0, 1) := by decide +kernel
theorem d_TripleLinesModel_isNode_85 : decode b_TripleLinesModel_isNode 85 = .ok (.ireturn, 1) := by decide +kernel
theorem d_TripleLinesModel_sign_0 : decode b_TripleLinesModel_sign 0 = .ok (.iload_n 0, 1) := by decide +kernel
theorem d_TripleLinesModel_sign_1 : decode b_TripleLinesModel_sign 1 = .ok (.lookupswitch 99 #[(34, 90), (39, 93), (92, 96), (98, 78), (102, 87), (110, 81), (114, 84), (116, 75)], 75) := by decide +kernel
theorem d_TripleLinesModel_sign_76 : decode b_TripleLinesModel_sign 76 = .ok (.bipush 9, 2) := by decide +kernel
theorem d_TripleLinesModel_sign_78 : decode b_TripleLinesModel_sign 78 = .ok (.ireturn, 1) := by decide +kernel
theorem d_TripleLinesModel_sign_79 : decode b_TripleLinesModel_sign 79 = .ok (.bipush 8, 2) := by decide +kernel
theorem d_TripleLinesModel_sign_81 : decode b_TripleLinesModel_sign 81 = .ok (.ireturn, 1) := by decide +kernel
theorem d_TripleLinesModel_sign_82 : decode b_TripleLinesModel_sign 82 = .ok (.bipush 10, 2) := by decide +kernel
theorem d_TripleLinesModel_sign_84 : decode b_TripleLinesModel_sign 84 = .ok (.ireturn, 1) := by decide +kernel
theorem d_TripleLinesModel_sign_85 : decode b_TripleLinesModel_sign 85 = .ok (.bipush 13, 2) := by decide +kernel
theorem d_TripleLinesModel_sign_87 : decode b_TripleLinesModel_sign 87 = .ok (.ireturn, 1) := by decide +kernel
theorem d_TripleLinesModel_sign_88 : decode b_TripleLinesModel_sign 88 = .ok (.bipush 12, 2) := by decide +kernel
theorem d_TripleLinesModel_sign_90 : decode b_TripleLinesModel_sign 90 = .ok (.ireturn, 1) := by decide +kernel
theorem d_TripleLinesModel_sign_91 : decode b_TripleLinesModel_sign 91 = .ok (.bipush 34, 2) := by decide +kernel
theorem d_TripleLinesModel_sign_93 : decode b_TripleLinesModel_sign 93 = .ok (.ireturn, 1) := by decide +kernel
theorem d_TripleLinesModel_sign_94 : decode b_TripleLinesModel_sign 94 = .ok (.bipush 39, 2) := by decide +kernel
theorem d_TripleLinesModel_sign_96 : decode b_TripleLinesModel_sign 96 = .ok (.ireturn, 1) := by decide +kernel
theorem d_TripleLinesModel_sign_97 : decode b_TripleLinesModel_sign 97 = .ok (.bipush 92, 2) := by decide +kernel
theorem d_TripleLinesModel_sign_99 : decode b_TripleLinesModel_sign 99 = .ok (.ireturn, 1) := by decide +kernel
theorem d_TripleLinesModel_sign_100 : decode b_TripleLinesModel_sign 100 = .ok (.iconst (-1), 1) := by decide +kernel
theorem d_TripleLinesModel_sign_101 : decode b_TripleLinesModel_sign 101 = .ok (.ireturn, 1) := by decide +kernel
theorem d_TripleLinesModel_isName_0 : decode b_TripleLinesModel_isName 0 = .ok (.iload_n 0, 1) := by decide +kernel
theorem d_TripleLinesModel_isName_1 : decode b_TripleLinesModel_isName 1 = .ok (.invokestatic 173, 3) := by decide +kernel
theorem d_TripleLinesModel_isName_4 : decode b_TripleLinesModel_isName 4 = .ok (.ifCond .ne 28, 3) := by decide +kernel
theorem d_TripleLinesModel_isName_7 : decode b_TripleLinesModel_isName 7 = .ok (.iload_n 0, 1) := by decide +kernel
theorem d_TripleLinesModel_isName_8 : decode b_TripleLinesModel_isName 8 = .ok (.invokestatic 67, 3) := by decide +kernel
theorem d_TripleLinesModel_isName_11 : decode b_TripleLinesModel_isName 11 = .ok (.ifCond .ne 21, 3) := by decide +kernel
theorem d_TripleLinesModel_isName_14 : decode b_TripleLinesModel_isName 14 = .ok (.iload_n 0, 1) := by decide +kernel
theorem d_TripleLinesModel_isName_15 : decode b_TripleLinesModel_isName 15 = .ok (.bipush 95, 2) := by decide +kernel
theorem d_TripleLinesModel_isName_17 : decode b_TripleLinesModel_isName 17 = .ok (.if_icmp .eq 15, 3) := by decide +kernel
theorem d_TripleLinesModel_isName_20 : decode b_TripleLinesModel_isName 20 = .ok (.iload_n 0, 1) := by decide +kernel
theorem d_TripleLinesModel_isName_21 : decode b_TripleLinesModel_isName 21 = .ok (.bipush 45, 2) := by decide +kernel
theorem d_TripleLinesModel_isName_23 : decode b_TripleLinesModel_isName 23 = .ok (.if_icmp .eq 9, 3) := by decide +kernel
theorem d_TripleLinesModel_isName_26 : decode b_TripleLinesModel_isName 26 = .ok (.iload_n 0, 1) := by decide +kernel
theorem d_TripleLinesModel_isName_27 : decode b_TripleLinesModel_isName 27 = .ok (.bipush 46, 2) := by decide +kernel
theorem d_TripleLinesModel_isName_29 : decode b_TripleLinesModel_isName 29 = .ok (.if_icmp .ne 7, 3) := by decide +kernel
theorem d_TripleLinesModel_isName_32 : decode b_TripleLinesModel_isName 32 = .ok (.iconst 1, 1) := by decide +kernel
theorem d_TripleLinesModel_isName_33 : decode b_TripleLinesModel_isName 33 = .ok (.goto 4, 3) := by decide +kernel
theorem d_TripleLinesModel_isName_36 : decode b_TripleLinesModel_isName 36 = .ok (.iconst 0, 1) := by decide +kernel
theorem d_TripleLinesModel_isName_37 : decode b_TripleLinesModel_isName 37 = .ok (.ireturn, 1) := by decide +kernel
theorem d_TripleLinesModel_letterOf_0 : decode b_TripleLinesModel_letterOf 0 = .ok (.iload_n 0, 1) := by decide +kernel
theorem d_TripleLinesModel_letterOf_1 : decode b_TripleLinesModel_letterOf 1 = .ok (.bipush 9, 2) := by decide +kernel
theorem d_TripleLinesModel_letterOf_3 : decode b_TripleLinesModel_letterOf 3 = .ok (.if_icmp .ne 8, 3) := by decide +kernel
theorem d_TripleLinesModel_letterOf_6 : decode b_TripleLinesModel_letterOf 6 = .ok (.bipush 116, 2) := by decide +kernel
theorem d_TripleLinesModel_letterOf_8 : decode b_TripleLinesModel_letterOf 8 = .ok (.goto 48, 3) := by decide +kernel
theorem d_TripleLinesModel_letterOf_11 : decode b_TripleLinesModel_letterOf 11 = .ok (.iload_n 0, 1) := by decide +kernel
theorem d_TripleLinesModel_letterOf_12 : decode b_TripleLinesModel_letterOf 12 = .ok (.bipush 8, 2) := by decide +kernel
theorem d_TripleLinesModel_letterOf_14 : decode b_TripleLinesModel_letterOf 14 = .ok (.if_icmp .ne 8, 3) := by decide +kernel
theorem d_TripleLinesModel_letterOf_17 : decode b_TripleLinesModel_letterOf 17 = .ok (.bipush 98, 2) := by decide +kernel
theorem d_TripleLinesModel_letterOf_19 : decode b_TripleLinesModel_letterOf 19 = .ok (.goto 37, 3) := by decide +kernel
theorem d_TripleLinesModel_letterOf_22 : decode b_TripleLinesModel_letterOf 22 = .ok (.iload_n 0, 1) := by decide +kernel
theorem d_TripleLinesModel_letterOf_23 : decode b_TripleLinesModel_letterOf 23 = .ok (.bipush 10, 2) := by decide +kernel
theorem d_TripleLinesModel_letterOf_25 : decode b_TripleLinesModel_letterOf 25 = .ok (.if_icmp .ne 8, 3) := by decide +kernel
theorem d_TripleLinesModel_letterOf_28 : decode b_TripleLinesModel_letterOf 28 = .ok (.bipush 110, 2) := by decide +kernel
theorem d_TripleLinesModel_letterOf_30 : decode b_TripleLinesModel_letterOf 30 = .ok (.goto 26, 3) := by decide +kernel
theorem d_TripleLinesModel_letterOf_33 : decode b_TripleLinesModel_letterOf 33 = .ok (.iload_n 0, 1) := by decide +kernel
theorem d_TripleLinesModel_letterOf_34 : decode b_TripleLinesModel_letterOf 34 = .ok (.bipush 13, 2) := by decide +kernel
theorem d_TripleLinesModel_letterOf_36 : decode b_TripleLinesModel_letterOf 36 = .ok (.if_icmp .ne 8, 3) := by decide +kernel
theorem d_TripleLinesModel_letterOf_39 : decode b_TripleLinesModel_letterOf 39 = .ok (.bipush 114, 2) := by decide +kernel
theorem d_TripleLinesModel_letterOf_41 : decode b_TripleLinesModel_letterOf 41 = .ok (.goto 15, 3) := by decide +kernel
theorem d_TripleLinesModel_letterOf_44 : decode b_TripleLinesModel_letterOf 44 = .ok (.iload_n 0, 1) := by decide +kernel
theorem d_TripleLinesModel_letterOf_45 : decode b_TripleLinesModel_letterOf 45 = .ok (.bipush 12, 2) := by decide +kernel
theorem d_TripleLinesModel_letterOf_47 : decode b_TripleLinesModel_letterOf 47 = .ok (.if_icmp .ne 8, 3) := by decide +kernel
theorem d_TripleLinesModel_letterOf_50 : decode b_TripleLinesModel_letterOf 50 = .ok (.bipush 102, 2) := by decide +kernel
theorem d_TripleLinesModel_letterOf_52 : decode b_TripleLinesModel_letterOf 52 = .ok (.goto 4, 3) := by decide +kernel
theorem d_TripleLinesModel_letterOf_55 : decode b_TripleLinesModel_letterOf 55 = .ok (.iconst (-1), 1) := by decide +kernel
theorem d_TripleLinesModel_letterOf_56 : decode b_TripleLinesModel_letterOf 56 = .ok (.ireturn, 1) := by decide +kernel
theorem d_TripleLinesModel_look_0 : decode b_TripleLinesModel_look 0 = .ok (.iload_n 1, 1) := by decide +kernel
theorem d_TripleLinesModel_look_1 : decode b_TripleLinesModel_look 1 = .ok (.aload_n 0, 1) := by decide +kernel
theorem d_TripleLinesModel_look_2 : decode b_TripleLinesModel_look 2 = .ok (.getfield 71, 3) := by decide +kernel
theorem d_TripleLinesModel_look_5 : decode b_TripleLinesModel_look 5 = .ok (.if_icmp .ge 12, 3) := by decide +kernel
theorem d_TripleLinesModel_look_8 : decode b_TripleLinesModel_look 8 = .ok (.aload_n 0, 1) := by decide +kernel
theorem d_TripleLinesModel_look_9 : decode b_TripleLinesModel_look 9 = .ok (.getfield 7, 3) := by decide +kernel
theorem d_TripleLinesModel_look_12 : decode b_TripleLinesModel_look 12 = .ok (.iload_n 1, 1) := by decide +kernel
theorem d_TripleLinesModel_look_13 : decode b_TripleLinesModel_look 13 = .ok (.iaload, 1) := by decide +kernel
theorem d_TripleLinesModel_look_14 : decode b_TripleLinesModel_look 14 = .ok (.goto 4, 3) := by decide +kernel
theorem d_TripleLinesModel_look_17 : decode b_TripleLinesModel_look 17 = .ok (.iconst (-1), 1) := by decide +kernel
theorem d_TripleLinesModel_look_18 : decode b_TripleLinesModel_look 18 = .ok (.ireturn, 1) := by decide +kernel
theorem d_TripleLinesModel_peek_0 : decode b_TripleLinesModel_peek 0 = .ok (.aload_n 0, 1) := by decide +kernel
theorem d_TripleLinesModel_peek_1 : decode b_TripleLinesModel_peek 1 = .ok (.aload_n 0, 1) := by decide +kernel
theorem d_TripleLinesModel_peek_2 : decode b_TripleLinesModel_peek 2 = .ok (.getfield 79, 3) := by decide +kernel
theorem d_TripleLinesModel_peek_5 : decode b_TripleLinesModel_peek 5 = .ok (.invokevirtual 82, 3) := by decide +kernel
theorem d_TripleLinesModel_peek_8 : decode b_TripleLinesModel_peek 8 = .ok (.ireturn, 1) := by decide +kernel
theorem d_TripleLinesModel_goes_0 : decode b_TripleLinesModel_goes 0 = .ok (.aload_n 0, 1) := by decide +kernel
theorem d_TripleLinesModel_goes_1 : decode b_TripleLinesModel_goes 1 = .ok (.getfield 59, 3) := by decide +kernel
theorem d_TripleLinesModel_goes_4 : decode b_TripleLinesModel_goes 4 = .ok (.ifCond .ge 7, 3) := by decide +kernel
theorem d_TripleLinesModel_goes_7 : decode b_TripleLinesModel_goes 7 = .ok (.iconst 1, 1) := by decide +kernel
theorem d_TripleLinesModel_goes_8 : decode b_TripleLinesModel_goes 8 = .ok (.goto 4, 3) := by decide +kernel
theorem d_TripleLinesModel_goes_11 : decode b_TripleLinesModel_goes 11 = .ok (.iconst 0, 1) := by decide +kernel
theorem d_TripleLinesModel_goes_12 : decode b_TripleLinesModel_goes 12 = .ok (.ireturn, 1) := by decide +kernel
theorem d_TripleLinesModel_fail_0 : decode b_TripleLinesModel_fail 0 = .ok (.aload_n 0, 1) := by decide +kernel
theorem d_TripleLinesModel_fail_1 : decode b_TripleLinesModel_fail 1 = .ok (.aload_n 0, 1) := by decide +kernel
theorem d_TripleLinesModel_fail_2 : decode b_TripleLinesModel_fail 2 = .ok (.getfield 59, 3) := by decide +kernel
theorem d_TripleLinesModel_fail_5 : decode b_TripleLinesModel_fail 5 = .ok (.ifCond .ge 7, 3) := by decide +kernel
theorem d_TripleLinesModel_fail_8 : decode b_TripleLinesModel_fail 8 = .ok (.iload_n 1, 1) := by decide +kernel
theorem d_TripleLinesModel_fail_9 : decode b_TripleLinesModel_fail 9 = .ok (.goto 7, 3) := by decide +kernel
theorem d_TripleLinesModel_fail_12 : decode b_TripleLinesModel_fail 12 = .ok (.aload_n 0, 1) := by decide +kernel
theorem d_TripleLinesModel_fail_13 : decode b_TripleLinesModel_fail 13 = .ok (.getfield 59, 3) := by decide +kernel
theorem d_TripleLinesModel_fail_16 : decode b_TripleLinesModel_fail 16 = .ok (.putfield 59, 3) := by decide +kernel
theorem d_TripleLinesModel_fail_19 : decode b_TripleLinesModel_fail 19 = .ok (.return_, 1) := by decide +kernel
theorem d_TripleLinesModel_must_0 : decode b_TripleLinesModel_must 0 = .ok (.aload_n 0, 1) := by decide +kernel
theorem d_TripleLinesModel_must_1 : decode b_TripleLinesModel_must 1 = .ok (.invokevirtual 86, 3) := by decide +kernel
theorem d_TripleLinesModel_must_4 : decode b_TripleLinesModel_must 4 = .ok (.ifCond .eq 32, 3) := by decide +kernel
theorem d_TripleLinesModel_must_7 : decode b_TripleLinesModel_must 7 = .ok (.aload_n 0, 1) := by decide +kernel
theorem d_TripleLinesModel_must_8 : decode b_TripleLinesModel_must 8 = .ok (.invokevirtual 90, 3) := by decide +kernel
theorem d_TripleLinesModel_must_11 : decode b_TripleLinesModel_must 11 = .ok (.iload_n 1, 1) := by decide +kernel
theorem d_TripleLinesModel_must_12 : decode b_TripleLinesModel_must 12 = .ok (.if_icmp .ne 16, 3) := by decide +kernel
theorem d_TripleLinesModel_must_15 : decode b_TripleLinesModel_must 15 = .ok (.aload_n 0, 1) := by decide +kernel
theorem d_TripleLinesModel_must_16 : decode b_TripleLinesModel_must 16 = .ok (.dup, 1) := by decide +kernel
theorem d_TripleLinesModel_must_17 : decode b_TripleLinesModel_must 17 = .ok (.getfield 79, 3) := by decide +kernel
theorem d_TripleLinesModel_must_20 : decode b_TripleLinesModel_must 20 = .ok (.iconst 1, 1) := by decide +kernel
theorem d_TripleLinesModel_must_21 : decode b_TripleLinesModel_must 21 = .ok (.iadd, 1) := by decide +kernel
theorem d_TripleLinesModel_must_22 : decode b_TripleLinesModel_must 22 = .ok (.putfield 79, 3) := by decide +kernel
theorem d_TripleLinesModel_must_25 : decode b_TripleLinesModel_must 25 = .ok (.goto 11, 3) := by decide +kernel
theorem d_TripleLinesModel_must_28 : decode b_TripleLinesModel_must 28 = .ok (.aload_n 0, 1) := by decide +kernel
theorem d_TripleLinesModel_must_29 : decode b_TripleLinesModel_must 29 = .ok (.aload_n 0, 1) := by decide +kernel
theorem d_TripleLinesModel_must_30 : decode b_TripleLinesModel_must 30 = .ok (.getfield 79, 3) := by decide +kernel
theorem d_TripleLinesModel_must_33 : decode b_TripleLinesModel_must 33 = .ok (.invokevirtual 94, 3) := by decide +kernel
theorem d_TripleLinesModel_must_36 : decode b_TripleLinesModel_must 36 = .ok (.return_, 1) := by decide +kernel
theorem d_TripleLinesModel_blanks_0 : decode b_TripleLinesModel_blanks 0 = .ok (.aload_n 0, 1) := by decide +kernel
theorem d_TripleLinesModel_blanks_1 : decode b_TripleLinesModel_blanks 1 = .ok (.invokevirtual 86, 3) := by decide +kernel
theorem d_TripleLinesModel_blanks_4 : decode b_TripleLinesModel_blanks 4 = .ok (.ifCond .eq 43, 3) := by decide +kernel
theorem d_TripleLinesModel_blanks_7 : decode b_TripleLinesModel_blanks 7 = .ok (.aload_n 0, 1) := by decide +kernel
theorem d_TripleLinesModel_blanks_8 : decode b_TripleLinesModel_blanks 8 = .ok (.invokevirtual 90, 3) := by decide +kernel
theorem d_TripleLinesModel_blanks_11 : decode b_TripleLinesModel_blanks 11 = .ok (.bipush 9, 2) := by decide +kernel
theorem d_TripleLinesModel_blanks_13 : decode b_TripleLinesModel_blanks 13 = .ok (.if_icmp .eq 21, 3) := by decide +kernel
theorem d_TripleLinesModel_blanks_16 : decode b_TripleLinesModel_blanks 16 = .ok (.aload_n 0, 1) := by decide +kernel
theorem d_TripleLinesModel_blanks_17 : decode b_TripleLinesModel_blanks 17 = .ok (.invokevirtual 90, 3) := by decide +kernel
theorem d_TripleLinesModel_blanks_20 : decode b_TripleLinesModel_blanks 20 = .ok (.bipush 13, 2) := by decide +kernel
theorem d_TripleLinesModel_blanks_22 : decode b_TripleLinesModel_blanks 22 = .ok (.if_icmp .eq 12, 3) := by decide +kernel
theorem d_TripleLinesModel_blanks_25 : decode b_TripleLinesModel_blanks 25 = .ok (.aload_n 0, 1) := by decide +kernel
theorem d_TripleLinesModel_blanks_26 : decode b_TripleLinesModel_blanks 26 = .ok (.invokevirtual 90, 3) := by decide +kernel
theorem d_TripleLinesModel_blanks_29 : decode b_TripleLinesModel_blanks 29 = .ok (.bipush 32, 2) := by decide +kernel
theorem d_TripleLinesModel_blanks_31 : decode b_TripleLinesModel_blanks 31 = .ok (.if_icmp .ne 16, 3) := by decide +kernel
theorem d_TripleLinesModel_blanks_34 : decode b_TripleLinesModel_blanks 34 = .ok (.aload_n 0, 1) := by decide +kernel
theorem d_TripleLinesModel_blanks_35 : decode b_TripleLinesModel_blanks 35 = .ok (.dup, 1) := by decide +kernel
theorem d_TripleLinesModel_blanks_36 : decode b_TripleLinesModel_blanks 36 = .ok (.getfield 79, 3) := by decide +kernel
theorem d_TripleLinesModel_blanks_39 : decode b_TripleLinesModel_blanks 39 = .ok (.iconst 1, 1) := by decide +kernel
theorem d_TripleLinesModel_blanks_40 : decode b_TripleLinesModel_blanks 40 = .ok (.iadd, 1) := by decide +kernel
theorem d_TripleLinesModel_blanks_41 : decode b_TripleLinesModel_blanks 41 = .ok (.putfield 79, 3) := by decide +kernel
theorem d_TripleLinesModel_blanks_44 : decode b_TripleLinesModel_blanks 44 = .ok (.goto (-44), 3) := by decide +kernel
theorem d_TripleLinesModel_blanks_47 : decode b_TripleLinesModel_blanks 47 = .ok (.return_, 1) := by decide +kernel
theorem d_TripleLinesModel_take_0 : decode b_TripleLinesModel_take 0 = .ok (.aload_n 0, 1) := by decide +kernel
theorem d_TripleLinesModel_take_1 : decode b_TripleLinesModel_take 1 = .ok (.getfield 129, 3) := by decide +kernel
theorem d_TripleLinesModel_take_4 : decode b_TripleLinesModel_take 4 = .ok (.bipush 40, 2) := by decide +kernel
theorem d_TripleLinesModel_take_6 : decode b_TripleLinesModel_take 6 = .ok (.if_icmp .ne 14, 3) := by decide +kernel
theorem d_TripleLinesModel_take_9 : decode b_TripleLinesModel_take 9 = .ok (.aload_n 0, 1) := by decide +kernel
theorem d_TripleLinesModel_take_10 : decode b_TripleLinesModel_take 10 = .ok (.aload_n 0, 1) := by decide +kernel
theorem d_TripleLinesModel_take_11 : decode b_TripleLinesModel_take 11 = .ok (.getfield 79, 3) := by decide +kernel
theorem d_TripleLinesModel_take_14 : decode b_TripleLinesModel_take 14 = .ok (.invokevirtual 94, 3) := by decide +kernel
theorem d_TripleLinesModel_take_17 : decode b_TripleLinesModel_take 17 = .ok (.goto 34, 3) := by decide +kernel
theorem d_TripleLinesModel_take_20 : decode b_TripleLinesModel_take 20 = .ok (.aload_n 0, 1) := by decide +kernel
theorem d_TripleLinesModel_take_21 : decode b_TripleLinesModel_take 21 = .ok (.getfield 40, 3) := by decide +kernel
theorem d_TripleLinesModel_take_24 : decode b_TripleLinesModel_take 24 = .ok (.aload_n 0, 1) := by decide +kernel
theorem d_TripleLinesModel_take_25 : decode b_TripleLinesModel_take 25 = .ok (.getfield 129, 3) := by decide +kernel
theorem d_TripleLinesModel_take_28 : decode b_TripleLinesModel_take 28 = .ok (.lload_n 1, 1) := by decide +kernel
theorem d_TripleLinesModel_take_29 : decode b_TripleLinesModel_take 29 = .ok (.l2i, 1) := by decide +kernel
theorem d_TripleLinesModel_take_30 : decode b_TripleLinesModel_take 30 = .ok (.iastore, 1) := by decide +kernel
theorem d_TripleLinesModel_take_31 : decode b_TripleLinesModel_take 31 = .ok (.aload_n 0, 1) := by decide +kernel
theorem d_TripleLinesModel_take_32 : decode b_TripleLinesModel_take 32 = .ok (.dup, 1) := by decide +kernel
theorem d_TripleLinesModel_take_33 : decode b_TripleLinesModel_take 33 = .ok (.getfield 129, 3) := by decide +kernel
theorem d_TripleLinesModel_take_36 : decode b_TripleLinesModel_take 36 = .ok (.iconst 1, 1) := by decide +kernel
theorem d_TripleLinesModel_take_37 : decode b_TripleLinesModel_take 37 = .ok (.iadd, 1) := by decide +kernel
theorem d_TripleLinesModel_take_38 : decode b_TripleLinesModel_take 38 = .ok (.putfield 129, 3) := by decide +kernel
theorem d_TripleLinesModel_take_41 : decode b_TripleLinesModel_take 41 = .ok (.aload_n 0, 1) := by decide +kernel
theorem d_TripleLinesModel_take_42 : decode b_TripleLinesModel_take 42 = .ok (.dup, 1) := by decide +kernel
theorem d_TripleLinesModel_take_43 : decode b_TripleLinesModel_take 43 = .ok (.getfield 79, 3) := by decide +kernel
theorem d_TripleLinesModel_take_46 : decode b_TripleLinesModel_take 46 = .ok (.iload_n 3, 1) := by decide +kernel
theorem d_TripleLinesModel_take_47 : decode b_TripleLinesModel_take 47 = .ok (.iadd, 1) := by decide +kernel
theorem d_TripleLinesModel_take_48 : decode b_TripleLinesModel_take 48 = .ok (.putfield 79, 3) := by decide +kernel
theorem d_TripleLinesModel_take_51 : decode b_TripleLinesModel_take 51 = .ok (.return_, 1) := by decide +kernel
set_option maxHeartbeats 4000000 in
set_option maxRecDepth 100000 in
theorem c_TripleLinesModel_in (l : Launch) (D : va_G) (cI : ClassId) (x : Int) (a : Int) (b : Int) (hx0 : -2147483648 ≤ x ∧ x < 2147483648) (ha : -2147483648 ≤ a ∧ a < 2147483648) (hb : -2147483648 ≤ b ∧ b < 2147483648) : CtI l D [(cI, .int)] y_TripleLinesModel_in b_TripleLinesModel_in 3 (some .boolean) 0 [.int (iI x), .int (iI a), .int (iI b)] [] (S := Unit) (fun z u => (z = 1 ∧ (a ≤ x ∧ x ≤ b)) ∨ (z = 0 ∧ ¬ (a ≤ x ∧ x ≤ b))) (fun u => []) := by
  refine CtI.walk (fun z => z = 0 ∨ z = 1) (fun z hz => by rcases hz with rfl | rfl <;> decide) (by decide) (Nat.le_of_ble_eq_true rfl) ?_
  intro xp xe0 xs xm xar xbelow xmeth xc xA0 xQ xe xb xml xo xt xP xK xD xA xret ls xl xS
  have xl : lv_has ls 3 [(0, .int (iI x)), (1, .int (iI a)), (2, .int (iI b))] := xl
  have xo : xs.vm.findClass R_TripleLinesModel = some xm.cls := xo
  refine lv_iload_n xe xb d_TripleLinesModel_in_0 rfl (lv_at xl 0 rfl) ?_
  refine lv_iload_n xe xb d_TripleLinesModel_in_1 rfl (lv_at xl 1 rfl) ?_
  refine tk_icmp_lt (tgt := 14) xe xb d_TripleLinesModel_in_2 (by decide) (by omega) (fun c_1 => ?_) (fun c_1 => ?_)
  · refine lv_iconst (v := iI (0)) xe xb d_TripleLinesModel_in_14 rfl ?_
    exact xret _ _ _ _ 0 () d_TripleLinesModel_in_15 (by omega) (by omega) (by omega) xP xD xS
  · refine lv_iload_n xe xb d_TripleLinesModel_in_5 rfl (lv_at xl 0 rfl) ?_
    refine lv_iload_n xe xb d_TripleLinesModel_in_6 rfl (lv_at xl 2 rfl) ?_
    refine tk_icmp_gt (tgt := 14) xe xb d_TripleLinesModel_in_7 (by decide) (by omega) (fun c_2 => ?_) (fun c_2 => ?_)
    · refine lv_iconst (v := iI (0)) xe xb d_TripleLinesModel_in_14 rfl ?_
      exact xret _ _ _ _ 0 () d_TripleLinesModel_in_15 (by omega) (by omega) (by omega) xP xD xS
    · refine lv_iconst (v := iI (1)) xe xb d_TripleLinesModel_in_10 rfl ?_
      refine lv_goto (tgt := 15) xe xb d_TripleLinesModel_in_11 (by decide) ?_
      exact xret _ _ _ _ 1 () d_TripleLinesModel_in_15 (by omega) (by omega) (by omega) xP xD xS
set_option maxHeartbeats 4000000 in
set_option maxRecDepth 100000 in
theorem c_TripleLinesModel_isLetter (l : Launch) (D : va_G) (cI : ClassId) (x : Int) (hx0 : -2147483648 ≤ x ∧ x < 2147483648) : CtI l D [(cI, .int)] y_TripleLinesModel_isLetter b_TripleLinesModel_isLetter 1 (some .boolean) 1 [.int (iI x)] [] (S := Unit) (fun z u => (z = 1 ∧ (isL x)) ∨ (z = 0 ∧ ¬ (isL x))) (fun u => []) := by
  refine CtI.walk (fun z => z = 0 ∨ z = 1) (fun z hz => by rcases hz with rfl | rfl <;> decide) (by decide) (Nat.le_of_ble_eq_true rfl) ?_
  intro xp xe0 xs xm xar xbelow xmeth xc xA0 xQ xe xb xml xo xt xP xK xD xA xret ls xl xS
  have xl : lv_has ls 1 [(0, .int (iI x))] := xl
  have xo : xs.vm.findClass R_TripleLinesModel = some xm.cls := xo
  refine lv_iload_n xe xb d_TripleLinesModel_isLetter_0 rfl (lv_at xl 0 rfl) ?_
  refine lv_bipush (v := iI (97)) xe xb d_TripleLinesModel_isLetter_1 (by decide) ?_
  refine lv_bipush (v := iI (122)) xe xb d_TripleLinesModel_isLetter_3 (by decide) ?_
  refine tk_callSi (As := [.int (iI x), .int (iI 97), .int (iI 122)]) (rest := []) (wr := []) (wn := fun u => []) ⟨xe, xb, xml, xo, xt⟩ (c_TripleLinesModel_in l D cI x 97 122 (by first | assumption | omega) (by first | assumption | omega) (by first | assumption | omega)) k_TripleLinesModel_in mw_TripleLinesModel_63 ⟨Nat.le_of_ble_eq_true rfl, Nat.le_of_ble_eq_true rfl⟩ xK xP xD xS xA rfl xl.1 rfl (Nat.le_of_ble_eq_true rfl) d_TripleLinesModel_isLetter_5 ⟨Nat.zero_le _, Nat.zero_le _⟩ [] [] [] rfl rfl (by decide) (by decide) (by decide) (by decide) (fun _ => rfl) ?_
  clear xP xD xS
  intro z_2 u H locs hr_3 hw_1 xP xD xS
  try dsimp only at hw_1
  replace xP : va_P D classes [] H := xP
  replace xD : va_D xA0 [] := xD
  rcases hw_1 with ⟨rfl, hb_4⟩ | ⟨rfl, hb_5⟩
  · refine tk_if_ne (tgt := 22) xe xb d_TripleLinesModel_isLetter_8 (by decide) (by omega) (fun c_6 => ?_) (fun c_6 => absurd c_6 (by omega))
    refine lv_iconst (v := iI (1)) xe xb d_TripleLinesModel_isLetter_22 rfl ?_
    refine lv_goto (tgt := 27) xe xb d_TripleLinesModel_isLetter_23 (by decide) ?_
    exact xret _ _ _ _ 1 () d_TripleLinesModel_isLetter_27 (by omega) (by omega) (by omega) xP xD xS
  · refine tk_if_ne (tgt := 22) xe xb d_TripleLinesModel_isLetter_8 (by decide) (by omega) (fun c_7 => absurd c_7 (by omega)) (fun c_7 => ?_)
    refine lv_iload_n xe xb d_TripleLinesModel_isLetter_11 rfl (lv_at xl 0 rfl) ?_
    refine lv_bipush (v := iI (65)) xe xb d_TripleLinesModel_isLetter_12 (by decide) ?_
    refine lv_bipush (v := iI (90)) xe xb d_TripleLinesModel_isLetter_14 (by decide) ?_
    refine tk_callSi (As := [.int (iI x), .int (iI 65), .int (iI 90)]) (rest := []) (wr := []) (wn := fun u => []) ⟨xe, xb, xml, xo, xt⟩ (c_TripleLinesModel_in l D cI x 65 90 (by first | assumption | omega) (by first | assumption | omega) (by first | assumption | omega)) k_TripleLinesModel_in mw_TripleLinesModel_63 ⟨Nat.le_of_ble_eq_true rfl, Nat.le_of_ble_eq_true rfl⟩ xK xP xD xS xA rfl xl.1 rfl (Nat.le_of_ble_eq_true rfl) d_TripleLinesModel_isLetter_16 ⟨Nat.zero_le _, Nat.zero_le _⟩ [] [] [] rfl rfl (by decide) (by decide) (by decide) (by decide) (fun _ => rfl) ?_
    clear xP xD xS
    intro z_9 u H locs hr_10 hw_8 xP xD xS
    try dsimp only at hw_8
    replace xP : va_P D classes [] H := xP
    replace xD : va_D xA0 [] := xD
    rcases hw_8 with ⟨rfl, hb_11⟩ | ⟨rfl, hb_12⟩
    · refine tk_if_eq (tgt := 26) xe xb d_TripleLinesModel_isLetter_19 (by decide) (by omega) (fun c_13 => absurd c_13 (by omega)) (fun c_13 => ?_)
      refine lv_iconst (v := iI (1)) xe xb d_TripleLinesModel_isLetter_22 rfl ?_
      refine lv_goto (tgt := 27) xe xb d_TripleLinesModel_isLetter_23 (by decide) ?_
      exact xret _ _ _ _ 1 () d_TripleLinesModel_isLetter_27 (by omega) (by omega) (by omega) xP xD xS
    · refine tk_if_eq (tgt := 26) xe xb d_TripleLinesModel_isLetter_19 (by decide) (by omega) (fun c_14 => ?_) (fun c_14 => absurd c_14 (by omega))
      refine lv_iconst (v := iI (0)) xe xb d_TripleLinesModel_isLetter_26 rfl ?_
      exact xret _ _ _ _ 0 () d_TripleLinesModel_isLetter_27 (by omega) (by omega) (by omega) xP xD xS
set_option maxHeartbeats 4000000 in
set_option maxRecDepth 100000 in
theorem c_TripleLinesModel_isDigit (l : Launch) (D : va_G) (cI : ClassId) (x : Int) (hx0 : -2147483648 ≤ x ∧ x < 2147483648) : CtI l D [(cI, .int)] y_TripleLinesModel_isDigit b_TripleLinesModel_isDigit 1 (some .boolean) 1 [.int (iI x)] [] (S := Unit) (fun z u => (z = 1 ∧ (isG x)) ∨ (z = 0 ∧ ¬ (isG x))) (fun u => []) := by
  refine CtI.walk (fun z => z = 0 ∨ z = 1) (fun z hz => by rcases hz with rfl | rfl <;> decide) (by decide) (Nat.le_of_ble_eq_true rfl) ?_
  intro xp xe0 xs xm xar xbelow xmeth xc xA0 xQ xe xb xml xo xt xP xK xD xA xret ls xl xS
  have xl : lv_has ls 1 [(0, .int (iI x))] := xl
  have xo : xs.vm.findClass R_TripleLinesModel = some xm.cls := xo
  refine lv_iload_n xe xb d_TripleLinesModel_isDigit_0 rfl (lv_at xl 0 rfl) ?_
  refine lv_bipush (v := iI (48)) xe xb d_TripleLinesModel_isDigit_1 (by decide) ?_
  refine lv_bipush (v := iI (57)) xe xb d_TripleLinesModel_isDigit_3 (by decide) ?_
  refine tk_callSi (As := [.int (iI x), .int (iI 48), .int (iI 57)]) (rest := []) (wr := []) (wn := fun u => []) ⟨xe, xb, xml, xo, xt⟩ (c_TripleLinesModel_in l D cI x 48 57 (by first | assumption | omega) (by first | assumption | omega) (by first | assumption | omega)) k_TripleLinesModel_in mw_TripleLinesModel_63 ⟨Nat.le_of_ble_eq_true rfl, Nat.le_of_ble_eq_true rfl⟩ xK xP xD xS xA rfl xl.1 rfl (Nat.le_of_ble_eq_true rfl) d_TripleLinesModel_isDigit_5 ⟨Nat.zero_le _, Nat.zero_le _⟩ [] [] [] rfl rfl (by decide) (by decide) (by decide) (by decide) (fun _ => rfl) ?_
  clear xP xD xS
  intro z_2 u H locs hr_3 hw_1 xP xD xS
  try dsimp only at hw_1
  replace xP : va_P D classes [] H := xP
  replace xD : va_D xA0 [] := xD
  have HB := hw_1
  exact xret _ _ _ _ z_2 () d_TripleLinesModel_isDigit_8 (by omega) (by omega) (by omega) xP xD xS
set_option maxHeartbeats 4000000 in
set_option maxRecDepth 100000 in
theorem c_TripleLinesModel_hex (l : Launch) (D : va_G) (cI : ClassId) (x : Int) (hx0 : -2147483648 ≤ x ∧ x < 2147483648) : CtI l D [(cI, .int)] y_TripleLinesModel_hex b_TripleLinesModel_hex 1 (some .int) 2 [.int (iI x)] [] (S := Unit) (fun z u => z = hexD x) (fun u => []) := by
  refine CtI.walk (fun _ => True) (fun z _ => vp_nar_int _) (by decide) (Nat.le_of_ble_eq_true rfl) ?_
  intro xp xe0 xs xm xar xbelow xmeth xc xA0 xQ xe xb xml xo xt xP xK xD xA xret ls xl xS
  have xl : lv_has ls 1 [(0, .int (iI x))] := xl
  have xo : xs.vm.findClass R_TripleLinesModel = some xm.cls := xo
  refine lv_iload_n xe xb d_TripleLinesModel_hex_0 rfl (lv_at xl 0 rfl) ?_
  refine tk_callSi (As := [.int (iI x)]) (rest := []) (wr := []) (wn := fun u => []) ⟨xe, xb, xml, xo, xt⟩ (c_TripleLinesModel_isDigit l D cI x (by first | assumption | omega)) k_TripleLinesModel_isDigit mw_TripleLinesModel_67 ⟨Nat.le_of_ble_eq_true rfl, Nat.le_of_ble_eq_true rfl⟩ xK xP xD xS xA rfl xl.1 rfl (Nat.le_of_ble_eq_true rfl) d_TripleLinesModel_hex_1 ⟨Nat.zero_le _, Nat.zero_le _⟩ [] [] [] rfl rfl (by decide) (by decide) (by decide) (by decide) (fun _ => rfl) ?_
  clear xP xD xS
  intro z_2 u H locs hr_3 hw_1 xP xD xS
  try dsimp only at hw_1
  replace xP : va_P D classes [] H := xP
  replace xD : va_D xA0 [] := xD
  rcases hw_1 with ⟨rfl, hb_4⟩ | ⟨rfl, hb_5⟩
  · refine tk_if_eq (tgt := 14) xe xb d_TripleLinesModel_hex_4 (by decide) (by omega) (fun c_6 => absurd c_6 (by omega)) (fun c_6 => ?_)
    refine lv_iload_n xe xb d_TripleLinesModel_hex_7 rfl (lv_at xl 0 rfl) ?_
    refine lv_bipush (v := iI (48)) xe xb d_TripleLinesModel_hex_8 (by decide) ?_
    refine tk_isub xe xb d_TripleLinesModel_hex_10 ?_
    refine lv_goto (tgt := 57) xe xb d_TripleLinesModel_hex_11 (by decide) ?_
    exact xret _ _ _ _ (x - 48) () d_TripleLinesModel_hex_57 trivial (by omega) (by unfold hexD; (repeat' split) <;> omega) xP xD xS
  · refine tk_if_eq (tgt := 14) xe xb d_TripleLinesModel_hex_4 (by decide) (by omega) (fun c_7 => ?_) (fun c_7 => absurd c_7 (by omega))
    refine lv_iload_n xe xb d_TripleLinesModel_hex_14 rfl (lv_at xl 0 rfl) ?_
    refine lv_bipush (v := iI (97)) xe xb d_TripleLinesModel_hex_15 (by decide) ?_
    refine lv_bipush (v := iI (102)) xe xb d_TripleLinesModel_hex_17 (by decide) ?_
    refine tk_callSi (As := [.int (iI x), .int (iI 97), .int (iI 102)]) (rest := []) (wr := []) (wn := fun u => []) ⟨xe, xb, xml, xo, xt⟩ (c_TripleLinesModel_in l D cI x 97 102 (by first | assumption | omega) (by first | assumption | omega) (by first | assumption | omega)) k_TripleLinesModel_in mw_TripleLinesModel_63 ⟨Nat.le_of_ble_eq_true rfl, Nat.le_of_ble_eq_true rfl⟩ xK xP xD xS xA rfl xl.1 rfl (Nat.le_of_ble_eq_true rfl) d_TripleLinesModel_hex_19 ⟨Nat.zero_le _, Nat.zero_le _⟩ [] [] [] rfl rfl (by decide) (by decide) (by decide) (by decide) (fun _ => rfl) ?_
    clear xP xD xS
    intro z_9 u H locs hr_10 hw_8 xP xD xS
    try dsimp only at hw_8
    replace xP : va_P D classes [] H := xP
    replace xD : va_D xA0 [] := xD
    rcases hw_8 with ⟨rfl, hb_11⟩ | ⟨rfl, hb_12⟩
    · refine tk_if_eq (tgt := 35) xe xb d_TripleLinesModel_hex_22 (by decide) (by omega) (fun c_13 => absurd c_13 (by omega)) (fun c_13 => ?_)
      refine lv_iload_n xe xb d_TripleLinesModel_hex_25 rfl (lv_at xl 0 rfl) ?_
      refine lv_bipush (v := iI (97)) xe xb d_TripleLinesModel_hex_26 (by decide) ?_
      refine tk_isub xe xb d_TripleLinesModel_hex_28 ?_
      refine lv_bipush (v := iI (10)) xe xb d_TripleLinesModel_hex_29 (by decide) ?_
      refine tk_iadd xe xb d_TripleLinesModel_hex_31 ?_
      refine lv_goto (tgt := 57) xe xb d_TripleLinesModel_hex_32 (by decide) ?_
      exact xret _ _ _ _ ((x - 97) + 10) () d_TripleLinesModel_hex_57 trivial (by omega) (by unfold hexD; (repeat' split) <;> omega) xP xD xS
    · refine tk_if_eq (tgt := 35) xe xb d_TripleLinesModel_hex_22 (by decide) (by omega) (fun c_14 => ?_) (fun c_14 => absurd c_14 (by omega))
      refine lv_iload_n xe xb d_TripleLinesModel_hex_35 rfl (lv_at xl 0 rfl) ?_
      refine lv_bipush (v := iI (65)) xe xb d_TripleLinesModel_hex_36 (by decide) ?_
      refine lv_bipush (v := iI (70)) xe xb d_TripleLinesModel_hex_38 (by decide) ?_
      refine tk_callSi (As := [.int (iI x), .int (iI 65), .int (iI 70)]) (rest := []) (wr := []) (wn := fun u => []) ⟨xe, xb, xml, xo, xt⟩ (c_TripleLinesModel_in l D cI x 65 70 (by first | assumption | omega) (by first | assumption | omega) (by first | assumption | omega)) k_TripleLinesModel_in mw_TripleLinesModel_63 ⟨Nat.le_of_ble_eq_true rfl, Nat.le_of_ble_eq_true rfl⟩ xK xP xD xS xA rfl xl.1 rfl (Nat.le_of_ble_eq_true rfl) d_TripleLinesModel_hex_40 ⟨Nat.zero_le _, Nat.zero_le _⟩ [] [] [] rfl rfl (by decide) (by decide) (by decide) (by decide) (fun _ => rfl) ?_
      clear xP xD xS
      intro z_16 u H locs hr_17 hw_15 xP xD xS
      try dsimp only at hw_15
      replace xP : va_P D classes [] H := xP
      replace xD : va_D xA0 [] := xD
      rcases hw_15 with ⟨rfl, hb_18⟩ | ⟨rfl, hb_19⟩
      · refine tk_if_eq (tgt := 56) xe xb d_TripleLinesModel_hex_43 (by decide) (by omega) (fun c_20 => absurd c_20 (by omega)) (fun c_20 => ?_)
        refine lv_iload_n xe xb d_TripleLinesModel_hex_46 rfl (lv_at xl 0 rfl) ?_
        refine lv_bipush (v := iI (65)) xe xb d_TripleLinesModel_hex_47 (by decide) ?_
        refine tk_isub xe xb d_TripleLinesModel_hex_49 ?_
        refine lv_bipush (v := iI (10)) xe xb d_TripleLinesModel_hex_50 (by decide) ?_
        refine tk_iadd xe xb d_TripleLinesModel_hex_52 ?_
        refine lv_goto (tgt := 57) xe xb d_TripleLinesModel_hex_53 (by decide) ?_
        exact xret _ _ _ _ ((x - 65) + 10) () d_TripleLinesModel_hex_57 trivial (by omega) (by unfold hexD; (repeat' split) <;> omega) xP xD xS
      · refine tk_if_eq (tgt := 56) xe xb d_TripleLinesModel_hex_43 (by decide) (by omega) (fun c_21 => ?_) (fun c_21 => absurd c_21 (by omega))
        refine lv_iconst (v := iI (-1)) xe xb d_TripleLinesModel_hex_56 rfl ?_
        exact xret _ _ _ _ (-1) () d_TripleLinesModel_hex_57 trivial (by omega) (by unfold hexD; (repeat' split) <;> omega) xP xD xS
set_option maxHeartbeats 4000000 in
set_option maxRecDepth 100000 in
theorem c_TripleLinesModel_isCode (l : Launch) (D : va_G) (cI : ClassId) (x : Int) (hx0 : -9223372036854775808 ≤ x ∧ x < 9223372036854775808) : CtI l D [(cI, .int)] y_TripleLinesModel_isCode b_TripleLinesModel_isCode 2 (some .boolean) 0 [.long (jI x)] [] (S := Unit) (fun z u => (z = 1 ∧ (isC x)) ∨ (z = 0 ∧ ¬ (isC x))) (fun u => []) := by
  refine CtI.walk (fun z => z = 0 ∨ z = 1) (fun z hz => by rcases hz with rfl | rfl <;> decide) (by decide) (Nat.le_of_ble_eq_true rfl) ?_
  intro xp xe0 xs xm xar xbelow xmeth xc xA0 xQ xe xb xml xo xt xP xK xD xA xret ls xl xS
  have xl : lv_has ls 2 [(0, .long (jI x))] := xl
  have xo : xs.vm.findClass R_TripleLinesModel = some xm.cls := xo
  refine lv_lload_n xe xb d_TripleLinesModel_isCode_0 rfl (lv_at xl 0 rfl) ?_
  refine lv_lconst (v := jI 0) xe xb d_TripleLinesModel_isCode_1 (by decide) ?_
  refine tk_lif_lt (tgt := 34) xe xb d_TripleLinesModel_isCode_2 d_TripleLinesModel_isCode_3 (by decide) (by omega) (fun c_1 => ?_) (fun c_1 => ?_)
  · refine lv_iconst (v := iI (0)) xe xb d_TripleLinesModel_isCode_34 rfl ?_
    exact xret _ _ _ _ 0 () d_TripleLinesModel_isCode_35 (by omega) (by omega) (by omega) xP xD xS
  · refine lv_lload_n xe xb d_TripleLinesModel_isCode_6 rfl (lv_at xl 0 rfl) ?_
    refine lv_ldc2 (v := jI 1114111) xe xb xo (by have h9 := xt _ mw_TripleLinesModel_98; exact h9) d_TripleLinesModel_isCode_7 ?_
    refine tk_lif_gt (tgt := 34) xe xb d_TripleLinesModel_isCode_10 d_TripleLinesModel_isCode_11 (by decide) (by omega) (fun c_2 => ?_) (fun c_2 => ?_)
    · refine lv_iconst (v := iI (0)) xe xb d_TripleLinesModel_isCode_34 rfl ?_
      exact xret _ _ _ _ 0 () d_TripleLinesModel_isCode_35 (by omega) (by omega) (by omega) xP xD xS
    · refine lv_lload_n xe xb d_TripleLinesModel_isCode_14 rfl (lv_at xl 0 rfl) ?_
      refine lv_ldc2 (v := jI 55296) xe xb xo (by have h9 := xt _ mw_TripleLinesModel_100; exact h9) d_TripleLinesModel_isCode_15 ?_
      refine tk_lif_lt (tgt := 30) xe xb d_TripleLinesModel_isCode_18 d_TripleLinesModel_isCode_19 (by decide) (by omega) (fun c_3 => ?_) (fun c_3 => ?_)
      · refine lv_iconst (v := iI (1)) xe xb d_TripleLinesModel_isCode_30 rfl ?_
        refine lv_goto (tgt := 35) xe xb d_TripleLinesModel_isCode_31 (by decide) ?_
        exact xret _ _ _ _ 1 () d_TripleLinesModel_isCode_35 (by omega) (by omega) (by omega) xP xD xS
      · refine lv_lload_n xe xb d_TripleLinesModel_isCode_22 rfl (lv_at xl 0 rfl) ?_
        refine lv_ldc2 (v := jI 57343) xe xb xo (by have h9 := xt _ mw_TripleLinesModel_102; exact h9) d_TripleLinesModel_isCode_23 ?_
        refine tk_lif_le (tgt := 34) xe xb d_TripleLinesModel_isCode_26 d_TripleLinesModel_isCode_27 (by decide) (by omega) (fun c_4 => ?_) (fun c_4 => ?_)
        · refine lv_iconst (v := iI (0)) xe xb d_TripleLinesModel_isCode_34 rfl ?_
          exact xret _ _ _ _ 0 () d_TripleLinesModel_isCode_35 (by omega) (by omega) (by omega) xP xD xS
        · refine lv_iconst (v := iI (1)) xe xb d_TripleLinesModel_isCode_30 rfl ?_
          refine lv_goto (tgt := 35) xe xb d_TripleLinesModel_isCode_31 (by decide) ?_
          exact xret _ _ _ _ 1 () d_TripleLinesModel_isCode_35 (by omega) (by omega) (by omega) xP xD xS
set_option maxHeartbeats 4000000 in
set_option maxRecDepth 100000 in
theorem c_TripleLinesModel_isNode (l : Launch) (D : va_G) (cI : ClassId) (x : Int) (hx0 : -9223372036854775808 ≤ x ∧ x < 9223372036854775808) : CtI l D [(cI, .int)] y_TripleLinesModel_isNode b_TripleLinesModel_isNode 2 (some .boolean) 0 [.long (jI x)] [] (S := Unit) (fun z u => (z = 1 ∧ (isN x)) ∨ (z = 0 ∧ ¬ (isN x))) (fun u => []) := by
  refine CtI.walk (fun z => z = 0 ∨ z = 1) (fun z hz => by rcases hz with rfl | rfl <;> decide) (by decide) (Nat.le_of_ble_eq_true rfl) ?_
  intro xp xe0 xs xm xar xbelow xmeth xc xA0 xQ xe xb xml xo xt xP xK xD xA xret ls xl xS
  have xl : lv_has ls 2 [(0, .long (jI x))] := xl
  have xo : xs.vm.findClass R_TripleLinesModel = some xm.cls := xo
  refine lv_lload_n xe xb d_TripleLinesModel_isNode_0 rfl (lv_at xl 0 rfl) ?_
  refine lv_ldc2 (v := jI 32) xe xb xo (by have h9 := xt _ mw_TripleLinesModel_109; exact h9) d_TripleLinesModel_isNode_1 ?_
  refine tk_lif_le (tgt := 84) xe xb d_TripleLinesModel_isNode_4 d_TripleLinesModel_isNode_5 (by decide) (by omega) (fun c_1 => ?_) (fun c_1 => ?_)
  · refine lv_iconst (v := iI (0)) xe xb d_TripleLinesModel_isNode_84 rfl ?_
    exact xret _ _ _ _ 0 () d_TripleLinesModel_isNode_85 (by omega) (by omega) (by omega) xP xD xS
  · refine lv_lload_n xe xb d_TripleLinesModel_isNode_8 rfl (lv_at xl 0 rfl) ?_
    refine lv_ldc2 (v := jI 60) xe xb xo (by have h9 := xt _ mw_TripleLinesModel_111; exact h9) d_TripleLinesModel_isNode_9 ?_
    refine tk_lif_eq (tgt := 84) xe xb d_TripleLinesModel_isNode_12 d_TripleLinesModel_isNode_13 (by decide) (by omega) (fun c_2 => ?_) (fun c_2 => ?_)
    · refine lv_iconst (v := iI (0)) xe xb d_TripleLinesModel_isNode_84 rfl ?_
      exact xret _ _ _ _ 0 () d_TripleLinesModel_isNode_85 (by omega) (by omega) (by omega) xP xD xS
    · refine lv_lload_n xe xb d_TripleLinesModel_isNode_16 rfl (lv_at xl 0 rfl) ?_
      refine lv_ldc2 (v := jI 62) xe xb xo (by have h9 := xt _ mw_TripleLinesModel_113; exact h9) d_TripleLinesModel_isNode_17 ?_
      refine tk_lif_eq (tgt := 84) xe xb d_TripleLinesModel_isNode_20 d_TripleLinesModel_isNode_21 (by decide) (by omega) (fun c_3 => ?_) (fun c_3 => ?_)
      · refine lv_iconst (v := iI (0)) xe xb d_TripleLinesModel_isNode_84 rfl ?_
        exact xret _ _ _ _ 0 () d_TripleLinesModel_isNode_85 (by omega) (by omega) (by omega) xP xD xS
      · refine lv_lload_n xe xb d_TripleLinesModel_isNode_24 rfl (lv_at xl 0 rfl) ?_
        refine lv_ldc2 (v := jI 34) xe xb xo (by have h9 := xt _ mw_TripleLinesModel_115; exact h9) d_TripleLinesModel_isNode_25 ?_
        refine tk_lif_eq (tgt := 84) xe xb d_TripleLinesModel_isNode_28 d_TripleLinesModel_isNode_29 (by decide) (by omega) (fun c_4 => ?_) (fun c_4 => ?_)
        · refine lv_iconst (v := iI (0)) xe xb d_TripleLinesModel_isNode_84 rfl ?_
          exact xret _ _ _ _ 0 () d_TripleLinesModel_isNode_85 (by omega) (by omega) (by omega) xP xD xS
        · refine lv_lload_n xe xb d_TripleLinesModel_isNode_32 rfl (lv_at xl 0 rfl) ?_
          refine lv_ldc2 (v := jI 123) xe xb xo (by have h9 := xt _ mw_TripleLinesModel_117; exact h9) d_TripleLinesModel_isNode_33 ?_
          refine tk_lif_eq (tgt := 84) xe xb d_TripleLinesModel_isNode_36 d_TripleLinesModel_isNode_37 (by decide) (by omega) (fun c_5 => ?_) (fun c_5 => ?_)
          · refine lv_iconst (v := iI (0)) xe xb d_TripleLinesModel_isNode_84 rfl ?_
            exact xret _ _ _ _ 0 () d_TripleLinesModel_isNode_85 (by omega) (by omega) (by omega) xP xD xS
          · refine lv_lload_n xe xb d_TripleLinesModel_isNode_40 rfl (lv_at xl 0 rfl) ?_
            refine lv_ldc2 (v := jI 125) xe xb xo (by have h9 := xt _ mw_TripleLinesModel_119; exact h9) d_TripleLinesModel_isNode_41 ?_
            refine tk_lif_eq (tgt := 84) xe xb d_TripleLinesModel_isNode_44 d_TripleLinesModel_isNode_45 (by decide) (by omega) (fun c_6 => ?_) (fun c_6 => ?_)
            · refine lv_iconst (v := iI (0)) xe xb d_TripleLinesModel_isNode_84 rfl ?_
              exact xret _ _ _ _ 0 () d_TripleLinesModel_isNode_85 (by omega) (by omega) (by omega) xP xD xS
            · refine lv_lload_n xe xb d_TripleLinesModel_isNode_48 rfl (lv_at xl 0 rfl) ?_
              refine lv_ldc2 (v := jI 124) xe xb xo (by have h9 := xt _ mw_TripleLinesModel_121; exact h9) d_TripleLinesModel_isNode_49 ?_
              refine tk_lif_eq (tgt := 84) xe xb d_TripleLinesModel_isNode_52 d_TripleLinesModel_isNode_53 (by decide) (by omega) (fun c_7 => ?_) (fun c_7 => ?_)
              · refine lv_iconst (v := iI (0)) xe xb d_TripleLinesModel_isNode_84 rfl ?_
                exact xret _ _ _ _ 0 () d_TripleLinesModel_isNode_85 (by omega) (by omega) (by omega) xP xD xS
              · refine lv_lload_n xe xb d_TripleLinesModel_isNode_56 rfl (lv_at xl 0 rfl) ?_
                refine lv_ldc2 (v := jI 94) xe xb xo (by have h9 := xt _ mw_TripleLinesModel_123; exact h9) d_TripleLinesModel_isNode_57 ?_
                refine tk_lif_eq (tgt := 84) xe xb d_TripleLinesModel_isNode_60 d_TripleLinesModel_isNode_61 (by decide) (by omega) (fun c_8 => ?_) (fun c_8 => ?_)
                · refine lv_iconst (v := iI (0)) xe xb d_TripleLinesModel_isNode_84 rfl ?_
                  exact xret _ _ _ _ 0 () d_TripleLinesModel_isNode_85 (by omega) (by omega) (by omega) xP xD xS
                · refine lv_lload_n xe xb d_TripleLinesModel_isNode_64 rfl (lv_at xl 0 rfl) ?_
                  refine lv_ldc2 (v := jI 96) xe xb xo (by have h9 := xt _ mw_TripleLinesModel_125; exact h9) d_TripleLinesModel_isNode_65 ?_
                  refine tk_lif_eq (tgt := 84) xe xb d_TripleLinesModel_isNode_68 d_TripleLinesModel_isNode_69 (by decide) (by omega) (fun c_9 => ?_) (fun c_9 => ?_)
                  · refine lv_iconst (v := iI (0)) xe xb d_TripleLinesModel_isNode_84 rfl ?_
                    exact xret _ _ _ _ 0 () d_TripleLinesModel_isNode_85 (by omega) (by omega) (by omega) xP xD xS
                  · refine lv_lload_n xe xb d_TripleLinesModel_isNode_72 rfl (lv_at xl 0 rfl) ?_
                    refine lv_ldc2 (v := jI 92) xe xb xo (by have h9 := xt _ mw_TripleLinesModel_127; exact h9) d_TripleLinesModel_isNode_73 ?_
                    refine tk_lif_eq (tgt := 84) xe xb d_TripleLinesModel_isNode_76 d_TripleLinesModel_isNode_77 (by decide) (by omega) (fun c_10 => ?_) (fun c_10 => ?_)
                    · refine lv_iconst (v := iI (0)) xe xb d_TripleLinesModel_isNode_84 rfl ?_
                      exact xret _ _ _ _ 0 () d_TripleLinesModel_isNode_85 (by omega) (by omega) (by omega) xP xD xS
                    · refine lv_iconst (v := iI (1)) xe xb d_TripleLinesModel_isNode_80 rfl ?_
                      refine lv_goto (tgt := 85) xe xb d_TripleLinesModel_isNode_81 (by decide) ?_
                      exact xret _ _ _ _ 1 () d_TripleLinesModel_isNode_85 (by omega) (by omega) (by omega) xP xD xS
set_option maxHeartbeats 4000000 in
set_option maxRecDepth 100000 in
theorem c_TripleLinesModel_sign (l : Launch) (D : va_G) (cI : ClassId) (x : Int) (hx0 : -2147483648 ≤ x ∧ x < 2147483648) : CtI l D [(cI, .int)] y_TripleLinesModel_sign b_TripleLinesModel_sign 1 (some .int) 0 [.int (iI x)] [] (S := Unit) (fun z u => z = sgn x) (fun u => []) := by
  refine CtI.walk (fun _ => True) (fun z _ => vp_nar_int _) (by decide) (Nat.le_of_ble_eq_true rfl) ?_
  intro xp xe0 xs xm xar xbelow xmeth xc xA0 xQ xe xb xml xo xt xP xK xD xA xret ls xl xS
  have xl : lv_has ls 1 [(0, .int (iI x))] := xl
  have xo : xs.vm.findClass R_TripleLinesModel = some xm.cls := xo
  refine lv_iload_n xe xb d_TripleLinesModel_sign_0 rfl (lv_at xl 0 rfl) ?_
  by_cases c_1 : x = 34
  · refine tk_look (off := 90) (tgt := 91) xe xb d_TripleLinesModel_sign_1 (by decide) (by omega) 34 c_1 rfl (by decide) ?_
    refine lv_bipush (v := iI (34)) xe xb d_TripleLinesModel_sign_91 (by decide) ?_
    exact xret _ _ _ _ 34 () d_TripleLinesModel_sign_93 trivial (by omega) (by unfold sgn; (repeat' split) <;> omega) xP xD xS
  by_cases c_2 : x = 39
  · refine tk_look (off := 93) (tgt := 94) xe xb d_TripleLinesModel_sign_1 (by decide) (by omega) 39 c_2 rfl (by decide) ?_
    refine lv_bipush (v := iI (39)) xe xb d_TripleLinesModel_sign_94 (by decide) ?_
    exact xret _ _ _ _ 39 () d_TripleLinesModel_sign_96 trivial (by omega) (by unfold sgn; (repeat' split) <;> omega) xP xD xS
  by_cases c_3 : x = 92
  · refine tk_look (off := 96) (tgt := 97) xe xb d_TripleLinesModel_sign_1 (by decide) (by omega) 92 c_3 rfl (by decide) ?_
    refine lv_bipush (v := iI (92)) xe xb d_TripleLinesModel_sign_97 (by decide) ?_
    exact xret _ _ _ _ 92 () d_TripleLinesModel_sign_99 trivial (by omega) (by unfold sgn; (repeat' split) <;> omega) xP xD xS
  by_cases c_4 : x = 98
  · refine tk_look (off := 78) (tgt := 79) xe xb d_TripleLinesModel_sign_1 (by decide) (by omega) 98 c_4 rfl (by decide) ?_
    refine lv_bipush (v := iI (8)) xe xb d_TripleLinesModel_sign_79 (by decide) ?_
    exact xret _ _ _ _ 8 () d_TripleLinesModel_sign_81 trivial (by omega) (by unfold sgn; (repeat' split) <;> omega) xP xD xS
  by_cases c_5 : x = 102
  · refine tk_look (off := 87) (tgt := 88) xe xb d_TripleLinesModel_sign_1 (by decide) (by omega) 102 c_5 rfl (by decide) ?_
    refine lv_bipush (v := iI (12)) xe xb d_TripleLinesModel_sign_88 (by decide) ?_
    exact xret _ _ _ _ 12 () d_TripleLinesModel_sign_90 trivial (by omega) (by unfold sgn; (repeat' split) <;> omega) xP xD xS
  by_cases c_6 : x = 110
  · refine tk_look (off := 81) (tgt := 82) xe xb d_TripleLinesModel_sign_1 (by decide) (by omega) 110 c_6 rfl (by decide) ?_
    refine lv_bipush (v := iI (10)) xe xb d_TripleLinesModel_sign_82 (by decide) ?_
    exact xret _ _ _ _ 10 () d_TripleLinesModel_sign_84 trivial (by omega) (by unfold sgn; (repeat' split) <;> omega) xP xD xS
  by_cases c_7 : x = 114
  · refine tk_look (off := 84) (tgt := 85) xe xb d_TripleLinesModel_sign_1 (by decide) (by omega) 114 c_7 rfl (by decide) ?_
    refine lv_bipush (v := iI (13)) xe xb d_TripleLinesModel_sign_85 (by decide) ?_
    exact xret _ _ _ _ 13 () d_TripleLinesModel_sign_87 trivial (by omega) (by unfold sgn; (repeat' split) <;> omega) xP xD xS
  by_cases c_8 : x = 116
  · refine tk_look (off := 75) (tgt := 76) xe xb d_TripleLinesModel_sign_1 (by decide) (by omega) 116 c_8 rfl (by decide) ?_
    refine lv_bipush (v := iI (9)) xe xb d_TripleLinesModel_sign_76 (by decide) ?_
    exact xret _ _ _ _ 9 () d_TripleLinesModel_sign_78 trivial (by omega) (by unfold sgn; (repeat' split) <;> omega) xP xD xS
  refine tk_look (off := 99) (tgt := 100) xe xb d_TripleLinesModel_sign_1 (by decide) (by omega) x rfl ((tk_osw c_1).trans ((tk_osw c_2).trans ((tk_osw c_3).trans ((tk_osw c_4).trans ((tk_osw c_5).trans ((tk_osw c_6).trans ((tk_osw c_7).trans ((tk_osw c_8).trans rfl)))))))) (by decide) ?_
  refine lv_iconst (v := iI (-1)) xe xb d_TripleLinesModel_sign_100 rfl ?_
  exact xret _ _ _ _ (-1) () d_TripleLinesModel_sign_101 trivial (by omega) (by unfold sgn; (repeat' split) <;> omega) xP xD xS
set_option maxHeartbeats 4000000 in
set_option maxRecDepth 100000 in
theorem c_TripleLinesModel_isName (l : Launch) (D : va_G) (cI : ClassId) (x : Int) (hx0 : -2147483648 ≤ x ∧ x < 2147483648) : CtI l D [(cI, .int)] y_TripleLinesModel_isName b_TripleLinesModel_isName 1 (some .boolean) 2 [.int (iI x)] [] (S := Unit) (fun z u => (z = 1 ∧ (isNm x)) ∨ (z = 0 ∧ ¬ (isNm x))) (fun u => []) := by
  refine CtI.walk (fun z => z = 0 ∨ z = 1) (fun z hz => by rcases hz with rfl | rfl <;> decide) (by decide) (Nat.le_of_ble_eq_true rfl) ?_
  intro xp xe0 xs xm xar xbelow xmeth xc xA0 xQ xe xb xml xo xt xP xK xD xA xret ls xl xS
  have xl : lv_has ls 1 [(0, .int (iI x))] := xl
  have xo : xs.vm.findClass R_TripleLinesModel = some xm.cls := xo
  refine lv_iload_n xe xb d_TripleLinesModel_isName_0 rfl (lv_at xl 0 rfl) ?_
  refine tk_callSi (As := [.int (iI x)]) (rest := []) (wr := []) (wn := fun u => []) ⟨xe, xb, xml, xo, xt⟩ (c_TripleLinesModel_isLetter l D cI x (by first | assumption | omega)) k_TripleLinesModel_isLetter mw_TripleLinesModel_173 ⟨Nat.le_of_ble_eq_true rfl, Nat.le_of_ble_eq_true rfl⟩ xK xP xD xS xA rfl xl.1 rfl (Nat.le_of_ble_eq_true rfl) d_TripleLinesModel_isName_1 ⟨Nat.zero_le _, Nat.zero_le _⟩ [] [] [] rfl rfl (by decide) (by decide) (by decide) (by decide) (fun _ => rfl) ?_
  clear xP xD xS
  intro z_2 u H locs hr_3 hw_1 xP xD xS
  try dsimp only at hw_1
  replace xP : va_P D classes [] H := xP
  replace xD : va_D xA0 [] := xD
  rcases hw_1 with ⟨rfl, hb_4⟩ | ⟨rfl, hb_5⟩
  · refine tk_if_ne (tgt := 32) xe xb d_TripleLinesModel_isName_4 (by decide) (by omega) (fun c_6 => ?_) (fun c_6 => absurd c_6 (by omega))
    refine lv_iconst (v := iI (1)) xe xb d_TripleLinesModel_isName_32 rfl ?_
    refine lv_goto (tgt := 37) xe xb d_TripleLinesModel_isName_33 (by decide) ?_
    exact xret _ _ _ _ 1 () d_TripleLinesModel_isName_37 (by omega) (by omega) (by omega) xP xD xS
  · refine tk_if_ne (tgt := 32) xe xb d_TripleLinesModel_isName_4 (by decide) (by omega) (fun c_7 => absurd c_7 (by omega)) (fun c_7 => ?_)
    refine lv_iload_n xe xb d_TripleLinesModel_isName_7 rfl (lv_at xl 0 rfl) ?_
    refine tk_callSi (As := [.int (iI x)]) (rest := []) (wr := []) (wn := fun u => []) ⟨xe, xb, xml, xo, xt⟩ (c_TripleLinesModel_isDigit l D cI x (by first | assumption | omega)) k_TripleLinesModel_isDigit mw_TripleLinesModel_67 ⟨Nat.le_of_ble_eq_true rfl, Nat.le_of_ble_eq_true rfl⟩ xK xP xD xS xA rfl xl.1 rfl (Nat.le_of_ble_eq_true rfl) d_TripleLinesModel_isName_8 ⟨Nat.zero_le _, Nat.zero_le _⟩ [] [] [] rfl rfl (by decide) (by decide) (by decide) (by decide) (fun _ => rfl) ?_
    clear xP xD xS
    intro z_9 u H locs hr_10 hw_8 xP xD xS
    try dsimp only at hw_8
    replace xP : va_P D classes [] H := xP
    replace xD : va_D xA0 [] := xD
    rcases hw_8 with ⟨rfl, hb_11⟩ | ⟨rfl, hb_12⟩
    · refine tk_if_ne (tgt := 32) xe xb d_TripleLinesModel_isName_11 (by decide) (by omega) (fun c_13 => ?_) (fun c_13 => absurd c_13 (by omega))
      refine lv_iconst (v := iI (1)) xe xb d_TripleLinesModel_isName_32 rfl ?_
      refine lv_goto (tgt := 37) xe xb d_TripleLinesModel_isName_33 (by decide) ?_
      exact xret _ _ _ _ 1 () d_TripleLinesModel_isName_37 (by omega) (by omega) (by omega) xP xD xS
    · refine tk_if_ne (tgt := 32) xe xb d_TripleLinesModel_isName_11 (by decide) (by omega) (fun c_14 => absurd c_14 (by omega)) (fun c_14 => ?_)
      refine lv_iload_n xe xb d_TripleLinesModel_isName_14 rfl (lv_at xl 0 rfl) ?_
      refine lv_bipush (v := iI (95)) xe xb d_TripleLinesModel_isName_15 (by decide) ?_
      refine tk_icmp_eq (tgt := 32) xe xb d_TripleLinesModel_isName_17 (by decide) (by omega) (fun c_15 => ?_) (fun c_15 => ?_)
      · refine lv_iconst (v := iI (1)) xe xb d_TripleLinesModel_isName_32 rfl ?_
        refine lv_goto (tgt := 37) xe xb d_TripleLinesModel_isName_33 (by decide) ?_
        exact xret _ _ _ _ 1 () d_TripleLinesModel_isName_37 (by omega) (by omega) (by omega) xP xD xS
      · refine lv_iload_n xe xb d_TripleLinesModel_isName_20 rfl (lv_at xl 0 rfl) ?_
        refine lv_bipush (v := iI (45)) xe xb d_TripleLinesModel_isName_21 (by decide) ?_
        refine tk_icmp_eq (tgt := 32) xe xb d_TripleLinesModel_isName_23 (by decide) (by omega) (fun c_16 => ?_) (fun c_16 => ?_)
        · refine lv_iconst (v := iI (1)) xe xb d_TripleLinesModel_isName_32 rfl ?_
          refine lv_goto (tgt := 37) xe xb d_TripleLinesModel_isName_33 (by decide) ?_
          exact xret _ _ _ _ 1 () d_TripleLinesModel_isName_37 (by omega) (by omega) (by omega) xP xD xS
        · refine lv_iload_n xe xb d_TripleLinesModel_isName_26 rfl (lv_at xl 0 rfl) ?_
          refine lv_bipush (v := iI (46)) xe xb d_TripleLinesModel_isName_27 (by decide) ?_
          refine tk_icmp_ne (tgt := 36) xe xb d_TripleLinesModel_isName_29 (by decide) (by omega) (fun c_17 => ?_) (fun c_17 => ?_)
          · refine lv_iconst (v := iI (0)) xe xb d_TripleLinesModel_isName_36 rfl ?_
            exact xret _ _ _ _ 0 () d_TripleLinesModel_isName_37 (by omega) (by omega) (by omega) xP xD xS
          · refine lv_iconst (v := iI (1)) xe xb d_TripleLinesModel_isName_32 rfl ?_
            refine lv_goto (tgt := 37) xe xb d_TripleLinesModel_isName_33 (by decide) ?_
            exact xret _ _ _ _ 1 () d_TripleLinesModel_isName_37 (by omega) (by omega) (by omega) xP xD xS
set_option maxHeartbeats 4000000 in
set_option maxRecDepth 100000 in
theorem c_TripleLinesModel_letterOf (l : Launch) (D : va_G) (cI : ClassId) (x : Int) (hx0 : -2147483648 ≤ x ∧ x < 2147483648) : CtI l D [(cI, .int)] y_TripleLinesModel_letterOf b_TripleLinesModel_letterOf 1 (some .int) 0 [.int (iI x)] [] (S := Unit) (fun z u => z = ltr x) (fun u => []) := by
  refine CtI.walk (fun _ => True) (fun z _ => vp_nar_int _) (by decide) (Nat.le_of_ble_eq_true rfl) ?_
  intro xp xe0 xs xm xar xbelow xmeth xc xA0 xQ xe xb xml xo xt xP xK xD xA xret ls xl xS
  have xl : lv_has ls 1 [(0, .int (iI x))] := xl
  have xo : xs.vm.findClass R_TripleLinesModel = some xm.cls := xo
  refine lv_iload_n xe xb d_TripleLinesModel_letterOf_0 rfl (lv_at xl 0 rfl) ?_
  refine lv_bipush (v := iI (9)) xe xb d_TripleLinesModel_letterOf_1 (by decide) ?_
  refine tk_icmp_ne (tgt := 11) xe xb d_TripleLinesModel_letterOf_3 (by decide) (by omega) (fun c_1 => ?_) (fun c_1 => ?_)
  · refine lv_iload_n xe xb d_TripleLinesModel_letterOf_11 rfl (lv_at xl 0 rfl) ?_
    refine lv_bipush (v := iI (8)) xe xb d_TripleLinesModel_letterOf_12 (by decide) ?_
    refine tk_icmp_ne (tgt := 22) xe xb d_TripleLinesModel_letterOf_14 (by decide) (by omega) (fun c_2 => ?_) (fun c_2 => ?_)
    · refine lv_iload_n xe xb d_TripleLinesModel_letterOf_22 rfl (lv_at xl 0 rfl) ?_
      refine lv_bipush (v := iI (10)) xe xb d_TripleLinesModel_letterOf_23 (by decide) ?_
      refine tk_icmp_ne (tgt := 33) xe xb d_TripleLinesModel_letterOf_25 (by decide) (by omega) (fun c_3 => ?_) (fun c_3 => ?_)
      · refine lv_iload_n xe xb d_TripleLinesModel_letterOf_33 rfl (lv_at xl 0 rfl) ?_
        refine lv_bipush (v := iI (13)) xe xb d_TripleLinesModel_letterOf_34 (by decide) ?_
        refine tk_icmp_ne (tgt := 44) xe xb d_TripleLinesModel_letterOf_36 (by decide) (by omega) (fun c_4 => ?_) (fun c_4 => ?_)
        · refine lv_iload_n xe xb d_TripleLinesModel_letterOf_44 rfl (lv_at xl 0 rfl) ?_
          refine lv_bipush (v := iI (12)) xe xb d_TripleLinesModel_letterOf_45 (by decide) ?_
          refine tk_icmp_ne (tgt := 55) xe xb d_TripleLinesModel_letterOf_47 (by decide) (by omega) (fun c_5 => ?_) (fun c_5 => ?_)
          · refine lv_iconst (v := iI (-1)) xe xb d_TripleLinesModel_letterOf_55 rfl ?_
            exact xret _ _ _ _ (-1) () d_TripleLinesModel_letterOf_56 trivial (by omega) (by unfold ltr; (repeat' split) <;> omega) xP xD xS
          · refine lv_bipush (v := iI (102)) xe xb d_TripleLinesModel_letterOf_50 (by decide) ?_
            refine lv_goto (tgt := 56) xe xb d_TripleLinesModel_letterOf_52 (by decide) ?_
            exact xret _ _ _ _ 102 () d_TripleLinesModel_letterOf_56 trivial (by omega) (by unfold ltr; (repeat' split) <;> omega) xP xD xS
        · refine lv_bipush (v := iI (114)) xe xb d_TripleLinesModel_letterOf_39 (by decide) ?_
          refine lv_goto (tgt := 56) xe xb d_TripleLinesModel_letterOf_41 (by decide) ?_
          exact xret _ _ _ _ 114 () d_TripleLinesModel_letterOf_56 trivial (by omega) (by unfold ltr; (repeat' split) <;> omega) xP xD xS
      · refine lv_bipush (v := iI (110)) xe xb d_TripleLinesModel_letterOf_28 (by decide) ?_
        refine lv_goto (tgt := 56) xe xb d_TripleLinesModel_letterOf_30 (by decide) ?_
        exact xret _ _ _ _ 110 () d_TripleLinesModel_letterOf_56 trivial (by omega) (by unfold ltr; (repeat' split) <;> omega) xP xD xS
    · refine lv_bipush (v := iI (98)) xe xb d_TripleLinesModel_letterOf_17 (by decide) ?_
      refine lv_goto (tgt := 56) xe xb d_TripleLinesModel_letterOf_19 (by decide) ?_
      exact xret _ _ _ _ 98 () d_TripleLinesModel_letterOf_56 trivial (by omega) (by unfold ltr; (repeat' split) <;> omega) xP xD xS
  · refine lv_bipush (v := iI (116)) xe xb d_TripleLinesModel_letterOf_6 (by decide) ?_
    refine lv_goto (tgt := 56) xe xb d_TripleLinesModel_letterOf_8 (by decide) ?_
    exact xret _ _ _ _ 116 () d_TripleLinesModel_letterOf_56 trivial (by omega) (by unfold ltr; (repeat' split) <;> omega) xP xD xS
set_option maxHeartbeats 4000000 in
set_option maxRecDepth 100000 in
theorem c_TripleLinesModel_look (l : Launch) (D : va_G) (cI : ClassId) (mM : Nat) (tm : Int) (aT : Nat) (om : Int) (aO : Nat) (tn : Int) (aK : Nat) (aS : Nat) (aC : Nat) (aU : Nat) (aG : Nat) (aY : Nat) (aX : Nat) (qn : Int) (aP : Nat) (tr : Int) (rg : Int) (ll : Int) (p : Int) (f : Int) (ov : Int) (sz : Int) (aM : Nat) (tz : Int) (aA : Nat) (dm : Int) (aD : Nat) (aB : Nat) (aV : Nat) (aE : Nat) (fT : Nat → Int32) (i : Int) (h0 : 0 ≤ tm ∧ tm ≤ 3000) (hi : 0 ≤ i ∧ i < 2147483648) : CtI l D [(cI, .int)] y_TripleLinesModel_look b_TripleLinesModel_look 2 (some .int) 0 [.ref mM, .int (iI i)] [(mM, .inr (6, [.int (iI tm), .ref aT, .int (iI om), .ref aO, .int (iI tn), .ref aK, .ref aS, .ref aC, .ref aU, .ref aG, .ref aY, .ref aX, .int (iI qn), .ref aP, .int (iI tr), .int (iI rg), .int (iI ll), .int (iI p), .int (iI f), .int (iI ov), .int (iI sz), .ref aM, .int (iI tz), .ref aA, .int (iI dm), .ref aD, .ref aB, .ref aV, .ref aE])), (aT, .inl (cI, 3000, .inl fT))] (S := Unit) (fun z u => z = rd (lst (tI fT) tm) i) (fun u => [(mM, .inr (6, [.int (iI tm), .ref aT, .int (iI om), .ref aO, .int (iI tn), .ref aK, .ref aS, .ref aC, .ref aU, .ref aG, .ref aY, .ref aX, .int (iI qn), .ref aP, .int (iI tr), .int (iI rg), .int (iI ll), .int (iI p), .int (iI f), .int (iI ov), .int (iI sz), .ref aM, .int (iI tz), .ref aA, .int (iI dm), .ref aD, .ref aB, .ref aV, .ref aE])), (aT, .inl (cI, 3000, .inl fT))]) := by
  refine CtI.walk (fun _ => True) (fun z _ => vp_nar_int _) (by decide) (Nat.le_of_ble_eq_true rfl) ?_
  intro xp xe0 xs xm xar xbelow xmeth xc xA0 xQ xe xb xml xo xt xP xK xD xA xret ls xl xS
  have xl : lv_has ls 2 [(0, .ref mM), (1, .int (iI i))] := xl
  have xo : xs.vm.findClass R_TripleLinesModel = some xm.cls := xo
  refine lv_iload_n xe xb d_TripleLinesModel_look_0 rfl (lv_at xl 1 rfl) ?_
  refine lv_aload_n xe xb d_TripleLinesModel_look_1 rfl (lv_at xl 0 rfl) ?_
  refine va_get (D := D) (ci := 6) (v := .int (iI tm)) (C := R_TripleLinesModel) (T := F_TripleLinesModel) (N := 29) xe xb xt i_TripleLinesModel xo xK xP 0 rfl rfl 0 (by decide) (xt _ mw_TripleLinesModel_71) (fun _ h9 => h9) rfl d_TripleLinesModel_look_2 ?_
  refine tk_icmp_ge (tgt := 17) xe xb d_TripleLinesModel_look_5 (by decide) (by omega) (fun c_1 => ?_) (fun c_1 => ?_)
  · refine lv_iconst (v := iI (-1)) xe xb d_TripleLinesModel_look_17 rfl ?_
    exact xret _ _ _ _ (-1) () d_TripleLinesModel_look_18 trivial (by omega) (by first | exact (rd_in (by omega)).symm | exact (rd_out (by omega)).symm) xP xD xS
  · refine lv_aload_n xe xb d_TripleLinesModel_look_8 rfl (lv_at xl 0 rfl) ?_
    refine va_get (D := D) (ci := 6) (v := .ref aT) (C := R_TripleLinesModel) (T := F_TripleLinesModel) (N := 29) xe xb xt i_TripleLinesModel xo xK xP 0 rfl rfl 1 (by decide) (xt _ mw_TripleLinesModel_7) (fun _ h9 => h9) rfl d_TripleLinesModel_look_9 ?_
    refine lv_iload_n xe xb d_TripleLinesModel_look_12 rfl (lv_at xl 1 rfl) ?_
    refine tk_iald xe xb xK xP 1 0 rfl rfl (by omega) d_TripleLinesModel_look_13 ?_
    have hr_2 := tI_rg fT i
    refine lv_goto (tgt := 18) xe xb d_TripleLinesModel_look_14 (by decide) ?_
    exact xret _ _ _ _ (tI fT i) () d_TripleLinesModel_look_18 trivial (by omega) (by first | exact (rd_in (by omega)).symm | exact (rd_out (by omega)).symm) xP xD xS
set_option maxHeartbeats 4000000 in
set_option maxRecDepth 100000 in
theorem c_TripleLinesModel_peek (l : Launch) (D : va_G) (cI : ClassId) (mM : Nat) (tm : Int) (aT : Nat) (om : Int) (aO : Nat) (tn : Int) (aK : Nat) (aS : Nat) (aC : Nat) (aU : Nat) (aG : Nat) (aY : Nat) (aX : Nat) (qn : Int) (aP : Nat) (tr : Int) (rg : Int) (ll : Int) (p : Int) (f : Int) (ov : Int) (sz : Int) (aM : Nat) (tz : Int) (aA : Nat) (dm : Int) (aD : Nat) (aB : Nat) (aV : Nat) (aE : Nat) (fT : Nat → Int32) (h0 : 0 ≤ tm ∧ tm ≤ 3000) (hp : 0 ≤ p ∧ p ≤ 3000) : CtI l D [(cI, .int)] y_TripleLinesModel_peek b_TripleLinesModel_peek 1 (some .int) 1 [.ref mM] [(mM, .inr (6, [.int (iI tm), .ref aT, .int (iI om), .ref aO, .int (iI tn), .ref aK, .ref aS, .ref aC, .ref aU, .ref aG, .ref aY, .ref aX, .int (iI qn), .ref aP, .int (iI tr), .int (iI rg), .int (iI ll), .int (iI p), .int (iI f), .int (iI ov), .int (iI sz), .ref aM, .int (iI tz), .ref aA, .int (iI dm), .ref aD, .ref aB, .ref aV, .ref aE])), (aT, .inl (cI, 3000, .inl fT))] (S := Unit) (fun z u => z = rd (lst (tI fT) tm) p) (fun u => [(mM, .inr (6, [.int (iI tm), .ref aT, .int (iI om), .ref aO, .int (iI tn), .ref aK, .ref aS, .ref aC, .ref aU, .ref aG, .ref aY, .ref aX, .int (iI qn), .ref aP, .int (iI tr), .int (iI rg), .int (iI ll), .int (iI p), .int (iI f), .int (iI ov), .int (iI sz), .ref aM, .int (iI tz), .ref aA, .int (iI dm), .ref aD, .ref aB, .ref aV, .ref aE])), (aT, .inl (cI, 3000, .inl fT))]) := by
  refine CtI.walk (fun _ => True) (fun z _ => vp_nar_int _) (by decide) (Nat.le_of_ble_eq_true rfl) ?_
  intro xp xe0 xs xm xar xbelow xmeth xc xA0 xQ xe xb xml xo xt xP xK xD xA xret ls xl xS
  have xl : lv_has ls 1 [(0, .ref mM)] := xl
  have xo : xs.vm.findClass R_TripleLinesModel = some xm.cls := xo
  refine lv_aload_n xe xb d_TripleLinesModel_peek_0 rfl (lv_at xl 0 rfl) ?_
  refine lv_aload_n xe xb d_TripleLinesModel_peek_1 rfl (lv_at xl 0 rfl) ?_
  refine va_get (D := D) (ci := 6) (v := .int (iI p)) (C := R_TripleLinesModel) (T := F_TripleLinesModel) (N := 29) xe xb xt i_TripleLinesModel xo xK xP 0 rfl rfl 17 (by decide) (xt _ mw_TripleLinesModel_79) (fun _ h9 => h9) rfl d_TripleLinesModel_peek_2 ?_
  refine tk_callVi (As := [.int (iI p)]) (rest := []) (wr := []) (wn := fun u => [(mM, .inr (6, [.int (iI tm), .ref aT, .int (iI om), .ref aO, .int (iI tn), .ref aK, .ref aS, .ref aC, .ref aU, .ref aG, .ref aY, .ref aX, .int (iI qn), .ref aP, .int (iI tr), .int (iI rg), .int (iI ll), .int (iI p), .int (iI f), .int (iI ov), .int (iI sz), .ref aM, .int (iI tz), .ref aA, .int (iI dm), .ref aD, .ref aB, .ref aV, .ref aE])), (aT, .inl (cI, 3000, .inl fT))]) ⟨xe, xb, xml, xo, xt⟩ (c_TripleLinesModel_look l D cI mM tm aT om aO tn aK aS aC aU aG aY aX qn aP tr rg ll p f ov sz aM tz aA dm aD aB aV aE fT p (by first | assumption | omega) (by first | assumption | omega)) k_TripleLinesModel_look mw_TripleLinesModel_82 ⟨Nat.le_of_ble_eq_true rfl, Nat.le_of_ble_eq_true rfl⟩ xK xP xD xS xA rfl xl.1 rfl (Nat.le_of_ble_eq_true rfl) d_TripleLinesModel_peek_5 ⟨Nat.zero_le _, Nat.zero_le _⟩ [0, 1] [] [0, 1] rfl rfl (by decide) (by decide) (by decide) (by decide) (fun _ => rfl) rfl rfl rfl ?_
  clear xP xD xS
  intro z_2 u H locs hr_3 hw_1 xP xD xS
  try dsimp only at hw_1
  replace xP : va_P D classes [(mM, .inr (6, [.int (iI tm), .ref aT, .int (iI om), .ref aO, .int (iI tn), .ref aK, .ref aS, .ref aC, .ref aU, .ref aG, .ref aY, .ref aX, .int (iI qn), .ref aP, .int (iI tr), .int (iI rg), .int (iI ll), .int (iI p), .int (iI f), .int (iI ov), .int (iI sz), .ref aM, .int (iI tz), .ref aA, .int (iI dm), .ref aD, .ref aB, .ref aV, .ref aE])), (aT, .inl (cI, 3000, .inl fT))] H := xP
  replace xD : va_D xA0 [(mM, .inr (6, [.int (iI tm), .ref aT, .int (iI om), .ref aO, .int (iI tn), .ref aK, .ref aS, .ref aC, .ref aU, .ref aG, .ref aY, .ref aX, .int (iI qn), .ref aP, .int (iI tr), .int (iI rg), .int (iI ll), .int (iI p), .int (iI f), .int (iI ov), .int (iI sz), .ref aM, .int (iI tz), .ref aA, .int (iI dm), .ref aD, .ref aB, .ref aV, .ref aE])), (aT, .inl (cI, 3000, .inl fT))] := xD
  have HG := hw_1
  exact xret _ _ _ _ z_2 () d_TripleLinesModel_peek_8 trivial (by omega) HG xP xD xS
set_option maxHeartbeats 4000000 in
set_option maxRecDepth 100000 in
theorem c_TripleLinesModel_goes (l : Launch) (D : va_G) (cI : ClassId) (mM : Nat) (tm : Int) (aT : Nat) (om : Int) (aO : Nat) (tn : Int) (aK : Nat) (aS : Nat) (aC : Nat) (aU : Nat) (aG : Nat) (aY : Nat) (aX : Nat) (qn : Int) (aP : Nat) (tr : Int) (rg : Int) (ll : Int) (p : Int) (f : Int) (ov : Int) (sz : Int) (aM : Nat) (tz : Int) (aA : Nat) (dm : Int) (aD : Nat) (aB : Nat) (aV : Nat) (aE : Nat) (hf : -2147483648 ≤ f ∧ f < 2147483648) : CtI l D [(cI, .int)] y_TripleLinesModel_goes b_TripleLinesModel_goes 1 (some .boolean) 0 [.ref mM] [(mM, .inr (6, [.int (iI tm), .ref aT, .int (iI om), .ref aO, .int (iI tn), .ref aK, .ref aS, .ref aC, .ref aU, .ref aG, .ref aY, .ref aX, .int (iI qn), .ref aP, .int (iI tr), .int (iI rg), .int (iI ll), .int (iI p), .int (iI f), .int (iI ov), .int (iI sz), .ref aM, .int (iI tz), .ref aA, .int (iI dm), .ref aD, .ref aB, .ref aV, .ref aE]))] (S := Unit) (fun z u => (z = 1 ∧ f < 0) ∨ (z = 0 ∧ 0 ≤ f)) (fun u => [(mM, .inr (6, [.int (iI tm), .ref aT, .int (iI om), .ref aO, .int (iI tn), .ref aK, .ref aS, .ref aC, .ref aU, .ref aG, .ref aY, .ref aX, .int (iI qn), .ref aP, .int (iI tr), .int (iI rg), .int (iI ll), .int (iI p), .int (iI f), .int (iI ov), .int (iI sz), .ref aM, .int (iI tz), .ref aA, .int (iI dm), .ref aD, .ref aB, .ref aV, .ref aE]))]) := by
  refine CtI.walk (fun z => z = 0 ∨ z = 1) (fun z hz => by rcases hz with rfl | rfl <;> decide) (by decide) (Nat.le_of_ble_eq_true rfl) ?_
  intro xp xe0 xs xm xar xbelow xmeth xc xA0 xQ xe xb xml xo xt xP xK xD xA xret ls xl xS
  have xl : lv_has ls 1 [(0, .ref mM)] := xl
  have xo : xs.vm.findClass R_TripleLinesModel = some xm.cls := xo
  refine lv_aload_n xe xb d_TripleLinesModel_goes_0 rfl (lv_at xl 0 rfl) ?_
  refine va_get (D := D) (ci := 6) (v := .int (iI f)) (C := R_TripleLinesModel) (T := F_TripleLinesModel) (N := 29) xe xb xt i_TripleLinesModel xo xK xP 0 rfl rfl 18 (by decide) (xt _ mw_TripleLinesModel_59) (fun _ h9 => h9) rfl d_TripleLinesModel_goes_1 ?_
  refine tk_if_ge (tgt := 11) xe xb d_TripleLinesModel_goes_4 (by decide) (by omega) (fun c_1 => ?_) (fun c_1 => ?_)
  · refine lv_iconst (v := iI (0)) xe xb d_TripleLinesModel_goes_11 rfl ?_
    exact xret _ _ _ _ 0 () d_TripleLinesModel_goes_12 (by omega) (by omega) (by omega) xP xD xS
  · refine lv_iconst (v := iI (1)) xe xb d_TripleLinesModel_goes_7 rfl ?_
    refine lv_goto (tgt := 12) xe xb d_TripleLinesModel_goes_8 (by decide) ?_
    exact xret _ _ _ _ 1 () d_TripleLinesModel_goes_12 (by omega) (by omega) (by omega) xP xD xS
set_option maxHeartbeats 4000000 in
set_option maxRecDepth 100000 in
theorem c_TripleLinesModel_fail (l : Launch) (D : va_G) (cI : ClassId) (mM : Nat) (tm : Int) (aT : Nat) (om : Int) (aO : Nat) (tn : Int) (aK : Nat) (aS : Nat) (aC : Nat) (aU : Nat) (aG : Nat) (aY : Nat) (aX : Nat) (qn : Int) (aP : Nat) (tr : Int) (rg : Int) (ll : Int) (p : Int) (f : Int) (ov : Int) (sz : Int) (aM : Nat) (tz : Int) (aA : Nat) (dm : Int) (aD : Nat) (aB : Nat) (aV : Nat) (aE : Nat) (w : Int) (hf : -2147483648 ≤ f ∧ f < 2147483648) : CtV l D [(cI, .int)] y_TripleLinesModel_fail b_TripleLinesModel_fail 2 0 [.ref mM, .int (iI w)] [(mM, .inr (6, [.int (iI tm), .ref aT, .int (iI om), .ref aO, .int (iI tn), .ref aK, .ref aS, .ref aC, .ref aU, .ref aG, .ref aY, .ref aX, .int (iI qn), .ref aP, .int (iI tr), .int (iI rg), .int (iI ll), .int (iI p), .int (iI f), .int (iI ov), .int (iI sz), .ref aM, .int (iI tz), .ref aA, .int (iI dm), .ref aD, .ref aB, .ref aV, .ref aE]))] (S := Int) (fun u => u = if f < 0 then w else f) (fun u => [(mM, .inr (6, [.int (iI tm), .ref aT, .int (iI om), .ref aO, .int (iI tn), .ref aK, .ref aS, .ref aC, .ref aU, .ref aG, .ref aY, .ref aX, .int (iI qn), .ref aP, .int (iI tr), .int (iI rg), .int (iI ll), .int (iI p), .int (iI u), .int (iI ov), .int (iI sz), .ref aM, .int (iI tz), .ref aA, .int (iI dm), .ref aD, .ref aB, .ref aV, .ref aE]))]) := by
  refine CtV.walk (by decide) (Nat.le_of_ble_eq_true rfl) ?_
  intro xp xe0 xs xm xar xbelow xmeth xc xA0 xQ xe xb xml xo xt xP xK xD xA xret ls xl xS
  have xl : lv_has ls 2 [(0, .ref mM), (1, .int (iI w))] := xl
  have xo : xs.vm.findClass R_TripleLinesModel = some xm.cls := xo
  refine lv_aload_n xe xb d_TripleLinesModel_fail_0 rfl (lv_at xl 0 rfl) ?_
  refine lv_aload_n xe xb d_TripleLinesModel_fail_1 rfl (lv_at xl 0 rfl) ?_
  refine va_get (D := D) (ci := 6) (v := .int (iI f)) (C := R_TripleLinesModel) (T := F_TripleLinesModel) (N := 29) xe xb xt i_TripleLinesModel xo xK xP 0 rfl rfl 18 (by decide) (xt _ mw_TripleLinesModel_59) (fun _ h9 => h9) rfl d_TripleLinesModel_fail_2 ?_
  refine tk_if_ge (tgt := 12) xe xb d_TripleLinesModel_fail_5 (by decide) (by omega) (fun c_1 => ?_) (fun c_1 => ?_)
  · refine lv_aload_n xe xb d_TripleLinesModel_fail_12 rfl (lv_at xl 0 rfl) ?_
    refine va_get (D := D) (ci := 6) (v := .int (iI f)) (C := R_TripleLinesModel) (T := F_TripleLinesModel) (N := 29) xe xb xt i_TripleLinesModel xo xK xP 0 rfl rfl 18 (by decide) (xt _ mw_TripleLinesModel_59) (fun _ h9 => h9) rfl d_TripleLinesModel_fail_13 ?_
    refine va_put (D := D) (ci := 6) (v := .int (iI f)) (ty := .int) (C := R_TripleLinesModel) (T := F_TripleLinesModel) (N := 29) xe xb xt i_TripleLinesModel t_TripleLinesModel t_TripleLinesModel_ok n_TripleLinesModel xo xK xP xD xS 0 rfl rfl 18 (by decide) (xt _ mw_TripleLinesModel_59) (fun _ h9 => h9) rfl (by decide +kernel) rfl rfl (Nat.le_of_ble_eq_true rfl) d_TripleLinesModel_fail_16 ?_
    clear xP xD xS
    intro H locs xP xD xS
    replace xP : va_P D classes [(mM, .inr (6, [.int (iI tm), .ref aT, .int (iI om), .ref aO, .int (iI tn), .ref aK, .ref aS, .ref aC, .ref aU, .ref aG, .ref aY, .ref aX, .int (iI qn), .ref aP, .int (iI tr), .int (iI rg), .int (iI ll), .int (iI p), .int (iI f), .int (iI ov), .int (iI sz), .ref aM, .int (iI tz), .ref aA, .int (iI dm), .ref aD, .ref aB, .ref aV, .ref aE]))] H := xP
    replace xD : va_D xA0 [(mM, .inr (6, [.int (iI tm), .ref aT, .int (iI om), .ref aO, .int (iI tn), .ref aK, .ref aS, .ref aC, .ref aU, .ref aG, .ref aY, .ref aX, .int (iI qn), .ref aP, .int (iI tr), .int (iI rg), .int (iI ll), .int (iI p), .int (iI f), .int (iI ov), .int (iI sz), .ref aM, .int (iI tz), .ref aA, .int (iI dm), .ref aD, .ref aB, .ref aV, .ref aE]))] := xD
    exact xret _ _ _ _ f d_TripleLinesModel_fail_19 (by first | exact (by split <;> omega) | (dsimp only; exact (by split <;> omega))) xP xD xS
  · refine lv_iload_n xe xb d_TripleLinesModel_fail_8 rfl (lv_at xl 1 rfl) ?_
    refine lv_goto (tgt := 16) xe xb d_TripleLinesModel_fail_9 (by decide) ?_
    refine va_put (D := D) (ci := 6) (v := .int (iI w)) (ty := .int) (C := R_TripleLinesModel) (T := F_TripleLinesModel) (N := 29) xe xb xt i_TripleLinesModel t_TripleLinesModel t_TripleLinesModel_ok n_TripleLinesModel xo xK xP xD xS 0 rfl rfl 18 (by decide) (xt _ mw_TripleLinesModel_59) (fun _ h9 => h9) rfl (by decide +kernel) rfl rfl (Nat.le_of_ble_eq_true rfl) d_TripleLinesModel_fail_16 ?_
    clear xP xD xS
    intro H locs xP xD xS
    replace xP : va_P D classes [(mM, .inr (6, [.int (iI tm), .ref aT, .int (iI om), .ref aO, .int (iI tn), .ref aK, .ref aS, .ref aC, .ref aU, .ref aG, .ref aY, .ref aX, .int (iI qn), .ref aP, .int (iI tr), .int (iI rg), .int (iI ll), .int (iI p), .int (iI w), .int (iI ov), .int (iI sz), .ref aM, .int (iI tz), .ref aA, .int (iI dm), .ref aD, .ref aB, .ref aV, .ref aE]))] H := xP
    replace xD : va_D xA0 [(mM, .inr (6, [.int (iI tm), .ref aT, .int (iI om), .ref aO, .int (iI tn), .ref aK, .ref aS, .ref aC, .ref aU, .ref aG, .ref aY, .ref aX, .int (iI qn), .ref aP, .int (iI tr), .int (iI rg), .int (iI ll), .int (iI p), .int (iI w), .int (iI ov), .int (iI sz), .ref aM, .int (iI tz), .ref aA, .int (iI dm), .ref aD, .ref aB, .ref aV, .ref aE]))] := xD
    exact xret _ _ _ _ w d_TripleLinesModel_fail_19 (by first | exact (by split <;> omega) | (dsimp only; exact (by split <;> omega))) xP xD xS
set_option maxHeartbeats 4000000 in
set_option maxRecDepth 100000 in
theorem c_TripleLinesModel_must (l : Launch) (D : va_G) (cI : ClassId) (mM : Nat) (tm : Int) (aT : Nat) (om : Int) (aO : Nat) (tn : Int) (aK : Nat) (aS : Nat) (aC : Nat) (aU : Nat) (aG : Nat) (aY : Nat) (aX : Nat) (qn : Int) (aP : Nat) (tr : Int) (rg : Int) (ll : Int) (p : Int) (f : Int) (ov : Int) (sz : Int) (aM : Nat) (tz : Int) (aA : Nat) (dm : Int) (aD : Nat) (aB : Nat) (aV : Nat) (aE : Nat) (fT : Nat → Int32) (c : Int) (h0 : 0 ≤ tm ∧ tm ≤ 3000) (hp : 0 ≤ p ∧ p ≤ 3000) (hf : -2147483648 ≤ f ∧ f < 2147483648) (hc : -2147483648 ≤ c ∧ c < 2147483648) : CtV l D [(cI, .int)] y_TripleLinesModel_must b_TripleLinesModel_must 2 2 [.ref mM, .int (iI c)] [(mM, .inr (6, [.int (iI tm), .ref aT, .int (iI om), .ref aO, .int (iI tn), .ref aK, .ref aS, .ref aC, .ref aU, .ref aG, .ref aY, .ref aX, .int (iI qn), .ref aP, .int (iI tr), .int (iI rg), .int (iI ll), .int (iI p), .int (iI f), .int (iI ov), .int (iI sz), .ref aM, .int (iI tz), .ref aA, .int (iI dm), .ref aD, .ref aB, .ref aV, .ref aE])), (aT, .inl (cI, 3000, .inl fT))] (S := Int × Int) (fun u => (0 ≤ f ∧ u.1 = p ∧ u.2 = f) ∨ (f < 0 ∧ rd (lst (tI fT) tm) p = c ∧ u.1 = p + 1 ∧ u.2 = f) ∨ (f < 0 ∧ rd (lst (tI fT) tm) p ≠ c ∧ u.1 = p ∧ u.2 = p)) (fun u => [(mM, .inr (6, [.int (iI tm), .ref aT, .int (iI om), .ref aO, .int (iI tn), .ref aK, .ref aS, .ref aC, .ref aU, .ref aG, .ref aY, .ref aX, .int (iI qn), .ref aP, .int (iI tr), .int (iI rg), .int (iI ll), .int (iI u.1), .int (iI u.2), .int (iI ov), .int (iI sz), .ref aM, .int (iI tz), .ref aA, .int (iI dm), .ref aD, .ref aB, .ref aV, .ref aE])), (aT, .inl (cI, 3000, .inl fT))]) := by
  refine CtV.walk (by decide) (Nat.le_of_ble_eq_true rfl) ?_
  intro xp xe0 xs xm xar xbelow xmeth xc xA0 xQ xe xb xml xo xt xP xK xD xA xret ls xl xS
  have xl : lv_has ls 2 [(0, .ref mM), (1, .int (iI c))] := xl
  have xo : xs.vm.findClass R_TripleLinesModel = some xm.cls := xo
  refine lv_aload_n xe xb d_TripleLinesModel_must_0 rfl (lv_at xl 0 rfl) ?_
  refine tk_callVi (As := []) (rest := []) (wr := [(aT, .inl (cI, 3000, .inl fT))]) (wn := fun u => [(mM, .inr (6, [.int (iI tm), .ref aT, .int (iI om), .ref aO, .int (iI tn), .ref aK, .ref aS, .ref aC, .ref aU, .ref aG, .ref aY, .ref aX, .int (iI qn), .ref aP, .int (iI tr), .int (iI rg), .int (iI ll), .int (iI p), .int (iI f), .int (iI ov), .int (iI sz), .ref aM, .int (iI tz), .ref aA, .int (iI dm), .ref aD, .ref aB, .ref aV, .ref aE])), (aT, .inl (cI, 3000, .inl fT))]) ⟨xe, xb, xml, xo, xt⟩ (c_TripleLinesModel_goes l D cI mM tm aT om aO tn aK aS aC aU aG aY aX qn aP tr rg ll p f ov sz aM tz aA dm aD aB aV aE (by first | assumption | omega)) k_TripleLinesModel_goes mw_TripleLinesModel_86 ⟨Nat.le_of_ble_eq_true rfl, Nat.le_of_ble_eq_true rfl⟩ xK xP xD xS xA rfl xl.1 rfl (Nat.le_of_ble_eq_true rfl) d_TripleLinesModel_must_1 ⟨Nat.zero_le _, Nat.zero_le _⟩ [0] [1] [1, 0] rfl rfl (by decide) (by decide) (by decide) (by decide) (fun _ => rfl) rfl rfl rfl ?_
  clear xP xD xS
  intro z_2 u H locs hr_3 hw_1 xP xD xS
  try dsimp only at hw_1
  replace xP : va_P D classes [(mM, .inr (6, [.int (iI tm), .ref aT, .int (iI om), .ref aO, .int (iI tn), .ref aK, .ref aS, .ref aC, .ref aU, .ref aG, .ref aY, .ref aX, .int (iI qn), .ref aP, .int (iI tr), .int (iI rg), .int (iI ll), .int (iI p), .int (iI f), .int (iI ov), .int (iI sz), .ref aM, .int (iI tz), .ref aA, .int (iI dm), .ref aD, .ref aB, .ref aV, .ref aE])), (aT, .inl (cI, 3000, .inl fT))] H := xP
  replace xD : va_D xA0 [(mM, .inr (6, [.int (iI tm), .ref aT, .int (iI om), .ref aO, .int (iI tn), .ref aK, .ref aS, .ref aC, .ref aU, .ref aG, .ref aY, .ref aX, .int (iI qn), .ref aP, .int (iI tr), .int (iI rg), .int (iI ll), .int (iI p), .int (iI f), .int (iI ov), .int (iI sz), .ref aM, .int (iI tz), .ref aA, .int (iI dm), .ref aD, .ref aB, .ref aV, .ref aE])), (aT, .inl (cI, 3000, .inl fT))] := xD
  rcases hw_1 with ⟨rfl, Hg⟩ | ⟨rfl, Hg⟩
  · refine tk_if_eq (tgt := 36) xe xb d_TripleLinesModel_must_4 (by decide) (by omega) (fun c_4 => absurd c_4 (by omega)) (fun c_4 => ?_)
    refine lv_aload_n xe xb d_TripleLinesModel_must_7 rfl (lv_at xl 0 rfl) ?_
    refine tk_callVi (As := []) (rest := []) (wr := []) (wn := fun u => [(mM, .inr (6, [.int (iI tm), .ref aT, .int (iI om), .ref aO, .int (iI tn), .ref aK, .ref aS, .ref aC, .ref aU, .ref aG, .ref aY, .ref aX, .int (iI qn), .ref aP, .int (iI tr), .int (iI rg), .int (iI ll), .int (iI p), .int (iI f), .int (iI ov), .int (iI sz), .ref aM, .int (iI tz), .ref aA, .int (iI dm), .ref aD, .ref aB, .ref aV, .ref aE])), (aT, .inl (cI, 3000, .inl fT))]) ⟨xe, xb, xml, xo, xt⟩ (c_TripleLinesModel_peek l D cI mM tm aT om aO tn aK aS aC aU aG aY aX qn aP tr rg ll p f ov sz aM tz aA dm aD aB aV aE fT (by first | assumption | omega) (by first | assumption | omega)) k_TripleLinesModel_peek mw_TripleLinesModel_90 ⟨Nat.le_of_ble_eq_true rfl, Nat.le_of_ble_eq_true rfl⟩ xK xP xD xS xA rfl xl.1 rfl (Nat.le_of_ble_eq_true rfl) d_TripleLinesModel_must_8 ⟨Nat.zero_le _, Nat.zero_le _⟩ [0, 1] [] [0, 1] rfl rfl (by decide) (by decide) (by decide) (by decide) (fun _ => rfl) rfl rfl rfl ?_
    clear xP xD xS
    intro z_6 u H locs hr_7 hw_5 xP xD xS
    try dsimp only at hw_5
    replace xP : va_P D classes [(mM, .inr (6, [.int (iI tm), .ref aT, .int (iI om), .ref aO, .int (iI tn), .ref aK, .ref aS, .ref aC, .ref aU, .ref aG, .ref aY, .ref aX, .int (iI qn), .ref aP, .int (iI tr), .int (iI rg), .int (iI ll), .int (iI p), .int (iI f), .int (iI ov), .int (iI sz), .ref aM, .int (iI tz), .ref aA, .int (iI dm), .ref aD, .ref aB, .ref aV, .ref aE])), (aT, .inl (cI, 3000, .inl fT))] H := xP
    replace xD : va_D xA0 [(mM, .inr (6, [.int (iI tm), .ref aT, .int (iI om), .ref aO, .int (iI tn), .ref aK, .ref aS, .ref aC, .ref aU, .ref aG, .ref aY, .ref aX, .int (iI qn), .ref aP, .int (iI tr), .int (iI rg), .int (iI ll), .int (iI p), .int (iI f), .int (iI ov), .int (iI sz), .ref aM, .int (iI tz), .ref aA, .int (iI dm), .ref aD, .ref aB, .ref aV, .ref aE])), (aT, .inl (cI, 3000, .inl fT))] := xD
    have HG := hw_5
    refine lv_iload_n xe xb d_TripleLinesModel_must_11 rfl (lv_at xl 1 rfl) ?_
    refine tk_icmp_ne (tgt := 28) xe xb d_TripleLinesModel_must_12 (by decide) (by omega) (fun C12 => ?_) (fun C12 => ?_)
    · refine lv_aload_n xe xb d_TripleLinesModel_must_28 rfl (lv_at xl 0 rfl) ?_
      refine lv_aload_n xe xb d_TripleLinesModel_must_29 rfl (lv_at xl 0 rfl) ?_
      refine va_get (D := D) (ci := 6) (v := .int (iI p)) (C := R_TripleLinesModel) (T := F_TripleLinesModel) (N := 29) xe xb xt i_TripleLinesModel xo xK xP 0 rfl rfl 17 (by decide) (xt _ mw_TripleLinesModel_79) (fun _ h9 => h9) rfl d_TripleLinesModel_must_30 ?_
      refine tk_callVv (As := [.int (iI p)]) (rest := []) (wr := [(aT, .inl (cI, 3000, .inl fT))]) (wn := fun u => [(mM, .inr (6, [.int (iI tm), .ref aT, .int (iI om), .ref aO, .int (iI tn), .ref aK, .ref aS, .ref aC, .ref aU, .ref aG, .ref aY, .ref aX, .int (iI qn), .ref aP, .int (iI tr), .int (iI rg), .int (iI ll), .int (iI p), .int (iI u), .int (iI ov), .int (iI sz), .ref aM, .int (iI tz), .ref aA, .int (iI dm), .ref aD, .ref aB, .ref aV, .ref aE])), (aT, .inl (cI, 3000, .inl fT))]) ⟨xe, xb, xml, xo, xt⟩ (c_TripleLinesModel_fail l D cI mM tm aT om aO tn aK aS aC aU aG aY aX qn aP tr rg ll p f ov sz aM tz aA dm aD aB aV aE p (by first | assumption | omega)) k_TripleLinesModel_fail mw_TripleLinesModel_94 ⟨Nat.le_of_ble_eq_true rfl, Nat.le_of_ble_eq_true rfl⟩ xK xP xD xS xA rfl xl.1 rfl (Nat.le_of_ble_eq_true rfl) d_TripleLinesModel_must_33 ⟨Nat.zero_le _, Nat.zero_le _⟩ [0] [1] [1, 0] rfl rfl (by decide) (by decide) (by decide) (by decide) (fun _ => rfl) rfl rfl rfl ?_
      clear xP xD xS
      intro u H locs hw_9 xP xD xS
      obtain ⟨f2_8, rfl⟩ : ∃ v, v = u := ⟨_, rfl⟩
      try dsimp only at hw_9
      replace xP : va_P D classes [(mM, .inr (6, [.int (iI tm), .ref aT, .int (iI om), .ref aO, .int (iI tn), .ref aK, .ref aS, .ref aC, .ref aU, .ref aG, .ref aY, .ref aX, .int (iI qn), .ref aP, .int (iI tr), .int (iI rg), .int (iI ll), .int (iI p), .int (iI f2_8), .int (iI ov), .int (iI sz), .ref aM, .int (iI tz), .ref aA, .int (iI dm), .ref aD, .ref aB, .ref aV, .ref aE])), (aT, .inl (cI, 3000, .inl fT))] H := xP
      replace xD : va_D xA0 [(mM, .inr (6, [.int (iI tm), .ref aT, .int (iI om), .ref aO, .int (iI tn), .ref aK, .ref aS, .ref aC, .ref aU, .ref aG, .ref aY, .ref aX, .int (iI qn), .ref aP, .int (iI tr), .int (iI rg), .int (iI ll), .int (iI p), .int (iI f2_8), .int (iI ov), .int (iI sz), .ref aM, .int (iI tz), .ref aA, .int (iI dm), .ref aD, .ref aB, .ref aV, .ref aE])), (aT, .inl (cI, 3000, .inl fT))] := xD
      have HF := hw_9
      exact xret _ _ _ _ (p, f2_8) d_TripleLinesModel_must_36 (by first | exact (Or.inr (Or.inr ⟨Hg, (by rw [← HG]; exact C12), rfl, HF.trans (if_pos Hg)⟩)) | (dsimp only; exact (Or.inr (Or.inr ⟨Hg, (by rw [← HG]; exact C12), rfl, HF.trans (if_pos Hg)⟩)))) xP xD xS
    · refine lv_aload_n xe xb d_TripleLinesModel_must_15 rfl (lv_at xl 0 rfl) ?_
      refine lv_dup xe xb d_TripleLinesModel_must_16 rfl ?_
      refine va_get (D := D) (ci := 6) (v := .int (iI p)) (C := R_TripleLinesModel) (T := F_TripleLinesModel) (N := 29) xe xb xt i_TripleLinesModel xo xK xP 0 rfl rfl 17 (by decide) (xt _ mw_TripleLinesModel_79) (fun _ h9 => h9) rfl d_TripleLinesModel_must_17 ?_
      refine lv_iconst (v := iI (1)) xe xb d_TripleLinesModel_must_20 rfl ?_
      refine tk_iadd xe xb d_TripleLinesModel_must_21 ?_
      refine va_put (D := D) (ci := 6) (v := .int (iI (p + 1))) (ty := .int) (C := R_TripleLinesModel) (T := F_TripleLinesModel) (N := 29) xe xb xt i_TripleLinesModel t_TripleLinesModel t_TripleLinesModel_ok n_TripleLinesModel xo xK xP xD xS 0 rfl rfl 17 (by decide) (xt _ mw_TripleLinesModel_79) (fun _ h9 => h9) rfl (by decide +kernel) rfl rfl (Nat.le_of_ble_eq_true rfl) d_TripleLinesModel_must_22 ?_
      clear xP xD xS
      intro H locs xP xD xS
      replace xP : va_P D classes [(mM, .inr (6, [.int (iI tm), .ref aT, .int (iI om), .ref aO, .int (iI tn), .ref aK, .ref aS, .ref aC, .ref aU, .ref aG, .ref aY, .ref aX, .int (iI qn), .ref aP, .int (iI tr), .int (iI rg), .int (iI ll), .int (iI (p + 1)), .int (iI f), .int (iI ov), .int (iI sz), .ref aM, .int (iI tz), .ref aA, .int (iI dm), .ref aD, .ref aB, .ref aV, .ref aE])), (aT, .inl (cI, 3000, .inl fT))] H := xP
      replace xD : va_D xA0 [(mM, .inr (6, [.int (iI tm), .ref aT, .int (iI om), .ref aO, .int (iI tn), .ref aK, .ref aS, .ref aC, .ref aU, .ref aG, .ref aY, .ref aX, .int (iI qn), .ref aP, .int (iI tr), .int (iI rg), .int (iI ll), .int (iI (p + 1)), .int (iI f), .int (iI ov), .int (iI sz), .ref aM, .int (iI tz), .ref aA, .int (iI dm), .ref aD, .ref aB, .ref aV, .ref aE])), (aT, .inl (cI, 3000, .inl fT))] := xD
      refine lv_goto (tgt := 36) xe xb d_TripleLinesModel_must_25 (by decide) ?_
      exact xret _ _ _ _ ((p + 1), f) d_TripleLinesModel_must_36 (by first | exact (Or.inr (Or.inl ⟨Hg, HG.symm.trans C12, rfl, rfl⟩)) | (dsimp only; exact (Or.inr (Or.inl ⟨Hg, HG.symm.trans C12, rfl, rfl⟩)))) xP xD xS
  · refine tk_if_eq (tgt := 36) xe xb d_TripleLinesModel_must_4 (by decide) (by omega) (fun c_11 => ?_) (fun c_11 => absurd c_11 (by omega))
    exact xret _ _ _ _ (p, f) d_TripleLinesModel_must_36 (by first | exact (Or.inl ⟨Hg, rfl, rfl⟩) | (dsimp only; exact (Or.inl ⟨Hg, rfl, rfl⟩))) xP xD xS
set_option maxHeartbeats 4000000 in
set_option maxRecDepth 100000 in
theorem c_TripleLinesModel_blanks (l : Launch) (D : va_G) (cI : ClassId) (mM : Nat) (tm : Int) (aT : Nat) (om : Int) (aO : Nat) (tn : Int) (aK : Nat) (aS : Nat) (aC : Nat) (aU : Nat) (aG : Nat) (aY : Nat) (aX : Nat) (qn : Int) (aP : Nat) (tr : Int) (rg : Int) (ll : Int) (p : Int) (f : Int) (ov : Int) (sz : Int) (aM : Nat) (tz : Int) (aA : Nat) (dm : Int) (aD : Nat) (aB : Nat) (aV : Nat) (aE : Nat) (fT : Nat → Int32) (h0 : 0 ≤ tm ∧ tm ≤ 3000) (hp : 0 ≤ p ∧ p ≤ tm) (hf : -2147483648 ≤ f ∧ f < 2147483648) : CtV l D [(cI, .int)] y_TripleLinesModel_blanks b_TripleLinesModel_blanks 1 2 [.ref mM] [(mM, .inr (6, [.int (iI tm), .ref aT, .int (iI om), .ref aO, .int (iI tn), .ref aK, .ref aS, .ref aC, .ref aU, .ref aG, .ref aY, .ref aX, .int (iI qn), .ref aP, .int (iI tr), .int (iI rg), .int (iI ll), .int (iI p), .int (iI f), .int (iI ov), .int (iI sz), .ref aM, .int (iI tz), .ref aA, .int (iI dm), .ref aD, .ref aB, .ref aV, .ref aE])), (aT, .inl (cI, 3000, .inl fT))] (S := Int) (fun u => (0 ≤ f ∧ u = p) ∨ (f < 0 ∧ u = bl (lst (tI fT) tm) p ∧ p ≤ u ∧ u ≤ tm ∧ ¬ isB (rd (lst (tI fT) tm) u))) (fun u => [(mM, .inr (6, [.int (iI tm), .ref aT, .int (iI om), .ref aO, .int (iI tn), .ref aK, .ref aS, .ref aC, .ref aU, .ref aG, .ref aY, .ref aX, .int (iI qn), .ref aP, .int (iI tr), .int (iI rg), .int (iI ll), .int (iI u), .int (iI f), .int (iI ov), .int (iI sz), .ref aM, .int (iI tz), .ref aA, .int (iI dm), .ref aD, .ref aB, .ref aV, .ref aE])), (aT, .inl (cI, 3000, .inl fT))]) := by
  refine CtV.walk (by decide) (Nat.le_of_ble_eq_true rfl) ?_
  intro xp xe0 xs xm xar xbelow xmeth xc xA0 xQ xe xb xml xo xt xP xK xD xA xret ls xl xS
  have xl : lv_has ls 1 [(0, .ref mM)] := xl
  have xo : xs.vm.findClass R_TripleLinesModel = some xm.cls := xo
  have hL : (((lst (tI fT) tm)).length : Int) = tm := by rw [lst_length]; omega
  have loop_0 : ∀ (n9 : Nat) (pv : Int), (tm - pv).toNat < n9 → (p ≤ pv ∧ pv ≤ tm) → (bl (lst (tI fT) tm) pv = bl (lst (tI fT) tm) p) → (0 ≤ f → pv = p) → ∀ (H : Heap) (locs : List Loc), va_P D classes [(mM, .inr (6, [.int (iI tm), .ref aT, .int (iI om), .ref aO, .int (iI tn), .ref aK, .ref aS, .ref aC, .ref aU, .ref aG, .ref aY, .ref aX, .int (iI qn), .ref aP, .int (iI tr), .int (iI rg), .int (iI ll), .int (iI pv), .int (iI f), .int (iI ov), .int (iI sz), .ref aM, .int (iI tz), .ref aA, .int (iI dm), .ref aD, .ref aB, .ref aV, .ref aE])), (aT, .inl (cI, 3000, .inl fT))] H → va_D xA0 [(mM, .inr (6, [.int (iI tm), .ref aT, .int (iI om), .ref aO, .int (iI tn), .ref aK, .ref aS, .ref aC, .ref aU, .ref aG, .ref aY, .ref aX, .int (iI qn), .ref aP, .int (iI tr), .int (iI rg), .int (iI ll), .int (iI pv), .int (iI f), .int (iI ov), .int (iI sz), .ref aM, .int (iI tz), .ref aA, .int (iI dm), .ref aD, .ref aB, .ref aV, .ref aE])), (aT, .inl (cI, 3000, .inl fT))] → va_S xA0 xs.heap H locs → ∀ ls : Array Slot, lv_has ls 1 [(0, .ref mM)] → W xp l xe0 (tk_rm 2) xs xm xar xbelow xmeth xc H locs 0 0 xQ (F0 xm 0 ls []) := by
    intro n9
    induction n9 with
    | zero => intro pv h9; exact absurd h9 (Nat.not_lt_zero _)
    | succ n9 ih9 =>
      intro pv hm9 hi h1 h2 H locs xP xD xS ls xl
      have ih_0 := ih9
      have hm_0 := hm9
      refine lv_aload_n xe xb d_TripleLinesModel_blanks_0 rfl (lv_at xl 0 rfl) ?_
      refine tk_callVi (As := []) (rest := []) (wr := [(aT, .inl (cI, 3000, .inl fT))]) (wn := fun u => [(mM, .inr (6, [.int (iI tm), .ref aT, .int (iI om), .ref aO, .int (iI tn), .ref aK, .ref aS, .ref aC, .ref aU, .ref aG, .ref aY, .ref aX, .int (iI qn), .ref aP, .int (iI tr), .int (iI rg), .int (iI ll), .int (iI pv), .int (iI f), .int (iI ov), .int (iI sz), .ref aM, .int (iI tz), .ref aA, .int (iI dm), .ref aD, .ref aB, .ref aV, .ref aE])), (aT, .inl (cI, 3000, .inl fT))]) ⟨xe, xb, xml, xo, xt⟩ (c_TripleLinesModel_goes l D cI mM tm aT om aO tn aK aS aC aU aG aY aX qn aP tr rg ll pv f ov sz aM tz aA dm aD aB aV aE (by first | assumption | omega)) k_TripleLinesModel_goes mw_TripleLinesModel_86 ⟨Nat.le_of_ble_eq_true rfl, Nat.le_of_ble_eq_true rfl⟩ xK xP xD xS xA rfl xl.1 rfl (Nat.le_of_ble_eq_true rfl) d_TripleLinesModel_blanks_1 ⟨Nat.zero_le _, Nat.zero_le _⟩ [0] [1] [1, 0] rfl rfl (by decide) (by decide) (by decide) (by decide) (fun _ => rfl) rfl rfl rfl ?_
      clear xP xD xS
      intro z_2 u H locs hr_3 hw_1 xP xD xS
      try dsimp only at hw_1
      replace xP : va_P D classes [(mM, .inr (6, [.int (iI tm), .ref aT, .int (iI om), .ref aO, .int (iI tn), .ref aK, .ref aS, .ref aC, .ref aU, .ref aG, .ref aY, .ref aX, .int (iI qn), .ref aP, .int (iI tr), .int (iI rg), .int (iI ll), .int (iI pv), .int (iI f), .int (iI ov), .int (iI sz), .ref aM, .int (iI tz), .ref aA, .int (iI dm), .ref aD, .ref aB, .ref aV, .ref aE])), (aT, .inl (cI, 3000, .inl fT))] H := xP
      replace xD : va_D xA0 [(mM, .inr (6, [.int (iI tm), .ref aT, .int (iI om), .ref aO, .int (iI tn), .ref aK, .ref aS, .ref aC, .ref aU, .ref aG, .ref aY, .ref aX, .int (iI qn), .ref aP, .int (iI tr), .int (iI rg), .int (iI ll), .int (iI pv), .int (iI f), .int (iI ov), .int (iI sz), .ref aM, .int (iI tz), .ref aA, .int (iI dm), .ref aD, .ref aB, .ref aV, .ref aE])), (aT, .inl (cI, 3000, .inl fT))] := xD
      rcases hw_1 with ⟨rfl, Hg⟩ | ⟨rfl, Hg⟩
      · refine tk_if_eq (tgt := 47) xe xb d_TripleLinesModel_blanks_4 (by decide) (by omega) (fun c_4 => absurd c_4 (by omega)) (fun c_4 => ?_)
        refine lv_aload_n xe xb d_TripleLinesModel_blanks_7 rfl (lv_at xl 0 rfl) ?_
        refine tk_callVi (As := []) (rest := []) (wr := []) (wn := fun u => [(mM, .inr (6, [.int (iI tm), .ref aT, .int (iI om), .ref aO, .int (iI tn), .ref aK, .ref aS, .ref aC, .ref aU, .ref aG, .ref aY, .ref aX, .int (iI qn), .ref aP, .int (iI tr), .int (iI rg), .int (iI ll), .int (iI pv), .int (iI f), .int (iI ov), .int (iI sz), .ref aM, .int (iI tz), .ref aA, .int (iI dm), .ref aD, .ref aB, .ref aV, .ref aE])), (aT, .inl (cI, 3000, .inl fT))]) ⟨xe, xb, xml, xo, xt⟩ (c_TripleLinesModel_peek l D cI mM tm aT om aO tn aK aS aC aU aG aY aX qn aP tr rg ll pv f ov sz aM tz aA dm aD aB aV aE fT (by first | assumption | omega) (by first | assumption | omega)) k_TripleLinesModel_peek mw_TripleLinesModel_90 ⟨Nat.le_of_ble_eq_true rfl, Nat.le_of_ble_eq_true rfl⟩ xK xP xD xS xA rfl xl.1 rfl (Nat.le_of_ble_eq_true rfl) d_TripleLinesModel_blanks_8 ⟨Nat.zero_le _, Nat.zero_le _⟩ [0, 1] [] [0, 1] rfl rfl (by decide) (by decide) (by decide) (by decide) (fun _ => rfl) rfl rfl rfl ?_
        clear xP xD xS
        intro z_6 u H locs hr_7 hw_5 xP xD xS
        try dsimp only at hw_5
        replace xP : va_P D classes [(mM, .inr (6, [.int (iI tm), .ref aT, .int (iI om), .ref aO, .int (iI tn), .ref aK, .ref aS, .ref aC, .ref aU, .ref aG, .ref aY, .ref aX, .int (iI qn), .ref aP, .int (iI tr), .int (iI rg), .int (iI ll), .int (iI pv), .int (iI f), .int (iI ov), .int (iI sz), .ref aM, .int (iI tz), .ref aA, .int (iI dm), .ref aD, .ref aB, .ref aV, .ref aE])), (aT, .inl (cI, 3000, .inl fT))] H := xP
        replace xD : va_D xA0 [(mM, .inr (6, [.int (iI tm), .ref aT, .int (iI om), .ref aO, .int (iI tn), .ref aK, .ref aS, .ref aC, .ref aU, .ref aG, .ref aY, .ref aX, .int (iI qn), .ref aP, .int (iI tr), .int (iI rg), .int (iI ll), .int (iI pv), .int (iI f), .int (iI ov), .int (iI sz), .ref aM, .int (iI tz), .ref aA, .int (iI dm), .ref aD, .ref aB, .ref aV, .ref aE])), (aT, .inl (cI, 3000, .inl fT))] := xD
        have HG := hw_5
        refine lv_bipush (v := iI (9)) xe xb d_TripleLinesModel_blanks_11 (by decide) ?_
        refine tk_icmp_eq (tgt := 34) xe xb d_TripleLinesModel_blanks_13 (by decide) (by omega) (fun c_8 => ?_) (fun c_8 => ?_)
        · refine lv_aload_n xe xb d_TripleLinesModel_blanks_34 rfl (lv_at xl 0 rfl) ?_
          refine lv_dup xe xb d_TripleLinesModel_blanks_35 rfl ?_
          refine va_get (D := D) (ci := 6) (v := .int (iI pv)) (C := R_TripleLinesModel) (T := F_TripleLinesModel) (N := 29) xe xb xt i_TripleLinesModel xo xK xP 0 rfl rfl 17 (by decide) (xt _ mw_TripleLinesModel_79) (fun _ h9 => h9) rfl d_TripleLinesModel_blanks_36 ?_
          refine lv_iconst (v := iI (1)) xe xb d_TripleLinesModel_blanks_39 rfl ?_
          refine tk_iadd xe xb d_TripleLinesModel_blanks_40 ?_
          refine va_put (D := D) (ci := 6) (v := .int (iI (pv + 1))) (ty := .int) (C := R_TripleLinesModel) (T := F_TripleLinesModel) (N := 29) xe xb xt i_TripleLinesModel t_TripleLinesModel t_TripleLinesModel_ok n_TripleLinesModel xo xK xP xD xS 0 rfl rfl 17 (by decide) (xt _ mw_TripleLinesModel_79) (fun _ h9 => h9) rfl (by decide +kernel) rfl rfl (Nat.le_of_ble_eq_true rfl) d_TripleLinesModel_blanks_41 ?_
          clear xP xD xS
          intro H locs xP xD xS
          replace xP : va_P D classes [(mM, .inr (6, [.int (iI tm), .ref aT, .int (iI om), .ref aO, .int (iI tn), .ref aK, .ref aS, .ref aC, .ref aU, .ref aG, .ref aY, .ref aX, .int (iI qn), .ref aP, .int (iI tr), .int (iI rg), .int (iI ll), .int (iI (pv + 1)), .int (iI f), .int (iI ov), .int (iI sz), .ref aM, .int (iI tz), .ref aA, .int (iI dm), .ref aD, .ref aB, .ref aV, .ref aE])), (aT, .inl (cI, 3000, .inl fT))] H := xP
          replace xD : va_D xA0 [(mM, .inr (6, [.int (iI tm), .ref aT, .int (iI om), .ref aO, .int (iI tn), .ref aK, .ref aS, .ref aC, .ref aU, .ref aG, .ref aY, .ref aX, .int (iI qn), .ref aP, .int (iI tr), .int (iI rg), .int (iI ll), .int (iI (pv + 1)), .int (iI f), .int (iI ov), .int (iI sz), .ref aM, .int (iI tz), .ref aA, .int (iI dm), .ref aD, .ref aB, .ref aV, .ref aE])), (aT, .inl (cI, 3000, .inl fT))] := xD
          refine lv_goto (tgt := 0) xe xb d_TripleLinesModel_blanks_44 (by decide) ?_
          have hB9 : isB (rd (lst (tI fT) tm) pv) := by omega
          have hl9 := rd_lt (T := (lst (tI fT) tm)) (p := pv) (by omega)
          exact ih_0 (pv + 1) (by omega) (by omega) ((bl_b hB9).symm.trans h1) (fun h9 => by omega) _ _ xP xD xS ls (lv_sub xl [0] rfl)
        · refine lv_aload_n xe xb d_TripleLinesModel_blanks_16 rfl (lv_at xl 0 rfl) ?_
          refine tk_callVi (As := []) (rest := []) (wr := []) (wn := fun u => [(mM, .inr (6, [.int (iI tm), .ref aT, .int (iI om), .ref aO, .int (iI tn), .ref aK, .ref aS, .ref aC, .ref aU, .ref aG, .ref aY, .ref aX, .int (iI qn), .ref aP, .int (iI tr), .int (iI rg), .int (iI ll), .int (iI pv), .int (iI f), .int (iI ov), .int (iI sz), .ref aM, .int (iI tz), .ref aA, .int (iI dm), .ref aD, .ref aB, .ref aV, .ref aE])), (aT, .inl (cI, 3000, .inl fT))]) ⟨xe, xb, xml, xo, xt⟩ (c_TripleLinesModel_peek l D cI mM tm aT om aO tn aK aS aC aU aG aY aX qn aP tr rg ll pv f ov sz aM tz aA dm aD aB aV aE fT (by first | assumption | omega) (by first | assumption | omega)) k_TripleLinesModel_peek mw_TripleLinesModel_90 ⟨Nat.le_of_ble_eq_true rfl, Nat.le_of_ble_eq_true rfl⟩ xK xP xD xS xA rfl xl.1 rfl (Nat.le_of_ble_eq_true rfl) d_TripleLinesModel_blanks_17 ⟨Nat.zero_le _, Nat.zero_le _⟩ [0, 1] [] [0, 1] rfl rfl (by decide) (by decide) (by decide) (by decide) (fun _ => rfl) rfl rfl rfl ?_
          clear xP xD xS
          intro z_10 u H locs hr_11 hw_9 xP xD xS
          try dsimp only at hw_9
          replace xP : va_P D classes [(mM, .inr (6, [.int (iI tm), .ref aT, .int (iI om), .ref aO, .int (iI tn), .ref aK, .ref aS, .ref aC, .ref aU, .ref aG, .ref aY, .ref aX, .int (iI qn), .ref aP, .int (iI tr), .int (iI rg), .int (iI ll), .int (iI pv), .int (iI f), .int (iI ov), .int (iI sz), .ref aM, .int (iI tz), .ref aA, .int (iI dm), .ref aD, .ref aB, .ref aV, .ref aE])), (aT, .inl (cI, 3000, .inl fT))] H := xP
          replace xD : va_D xA0 [(mM, .inr (6, [.int (iI tm), .ref aT, .int (iI om), .ref aO, .int (iI tn), .ref aK, .ref aS, .ref aC, .ref aU, .ref aG, .ref aY, .ref aX, .int (iI qn), .ref aP, .int (iI tr), .int (iI rg), .int (iI ll), .int (iI pv), .int (iI f), .int (iI ov), .int (iI sz), .ref aM, .int (iI tz), .ref aA, .int (iI dm), .ref aD, .ref aB, .ref aV, .ref aE])), (aT, .inl (cI, 3000, .inl fT))] := xD
          have HG2 := hw_9
          refine lv_bipush (v := iI (13)) xe xb d_TripleLinesModel_blanks_20 (by decide) ?_
          refine tk_icmp_eq (tgt := 34) xe xb d_TripleLinesModel_blanks_22 (by decide) (by omega) (fun c_12 => ?_) (fun c_12 => ?_)
          · refine lv_aload_n xe xb d_TripleLinesModel_blanks_34 rfl (lv_at xl 0 rfl) ?_
            refine lv_dup xe xb d_TripleLinesModel_blanks_35 rfl ?_
            refine va_get (D := D) (ci := 6) (v := .int (iI pv)) (C := R_TripleLinesModel) (T := F_TripleLinesModel) (N := 29) xe xb xt i_TripleLinesModel xo xK xP 0 rfl rfl 17 (by decide) (xt _ mw_TripleLinesModel_79) (fun _ h9 => h9) rfl d_TripleLinesModel_blanks_36 ?_
            refine lv_iconst (v := iI (1)) xe xb d_TripleLinesModel_blanks_39 rfl ?_
            refine tk_iadd xe xb d_TripleLinesModel_blanks_40 ?_
            refine va_put (D := D) (ci := 6) (v := .int (iI (pv + 1))) (ty := .int) (C := R_TripleLinesModel) (T := F_TripleLinesModel) (N := 29) xe xb xt i_TripleLinesModel t_TripleLinesModel t_TripleLinesModel_ok n_TripleLinesModel xo xK xP xD xS 0 rfl rfl 17 (by decide) (xt _ mw_TripleLinesModel_79) (fun _ h9 => h9) rfl (by decide +kernel) rfl rfl (Nat.le_of_ble_eq_true rfl) d_TripleLinesModel_blanks_41 ?_
            clear xP xD xS
            intro H locs xP xD xS
            replace xP : va_P D classes [(mM, .inr (6, [.int (iI tm), .ref aT, .int (iI om), .ref aO, .int (iI tn), .ref aK, .ref aS, .ref aC, .ref aU, .ref aG, .ref aY, .ref aX, .int (iI qn), .ref aP, .int (iI tr), .int (iI rg), .int (iI ll), .int (iI (pv + 1)), .int (iI f), .int (iI ov), .int (iI sz), .ref aM, .int (iI tz), .ref aA, .int (iI dm), .ref aD, .ref aB, .ref aV, .ref aE])), (aT, .inl (cI, 3000, .inl fT))] H := xP
            replace xD : va_D xA0 [(mM, .inr (6, [.int (iI tm), .ref aT, .int (iI om), .ref aO, .int (iI tn), .ref aK, .ref aS, .ref aC, .ref aU, .ref aG, .ref aY, .ref aX, .int (iI qn), .ref aP, .int (iI tr), .int (iI rg), .int (iI ll), .int (iI (pv + 1)), .int (iI f), .int (iI ov), .int (iI sz), .ref aM, .int (iI tz), .ref aA, .int (iI dm), .ref aD, .ref aB, .ref aV, .ref aE])), (aT, .inl (cI, 3000, .inl fT))] := xD
            refine lv_goto (tgt := 0) xe xb d_TripleLinesModel_blanks_44 (by decide) ?_
            have hB9 : isB (rd (lst (tI fT) tm) pv) := by omega
            have hl9 := rd_lt (T := (lst (tI fT) tm)) (p := pv) (by omega)
            exact ih_0 (pv + 1) (by omega) (by omega) ((bl_b hB9).symm.trans h1) (fun h9 => by omega) _ _ xP xD xS ls (lv_sub xl [0] rfl)
          · refine lv_aload_n xe xb d_TripleLinesModel_blanks_25 rfl (lv_at xl 0 rfl) ?_
            refine tk_callVi (As := []) (rest := []) (wr := []) (wn := fun u => [(mM, .inr (6, [.int (iI tm), .ref aT, .int (iI om), .ref aO, .int (iI tn), .ref aK, .ref aS, .ref aC, .ref aU, .ref aG, .ref aY, .ref aX, .int (iI qn), .ref aP, .int (iI tr), .int (iI rg), .int (iI ll), .int (iI pv), .int (iI f), .int (iI ov), .int (iI sz), .ref aM, .int (iI tz), .ref aA, .int (iI dm), .ref aD, .ref aB, .ref aV, .ref aE])), (aT, .inl (cI, 3000, .inl fT))]) ⟨xe, xb, xml, xo, xt⟩ (c_TripleLinesModel_peek l D cI mM tm aT om aO tn aK aS aC aU aG aY aX qn aP tr rg ll pv f ov sz aM tz aA dm aD aB aV aE fT (by first | assumption | omega) (by first | assumption | omega)) k_TripleLinesModel_peek mw_TripleLinesModel_90 ⟨Nat.le_of_ble_eq_true rfl, Nat.le_of_ble_eq_true rfl⟩ xK xP xD xS xA rfl xl.1 rfl (Nat.le_of_ble_eq_true rfl) d_TripleLinesModel_blanks_26 ⟨Nat.zero_le _, Nat.zero_le _⟩ [0, 1] [] [0, 1] rfl rfl (by decide) (by decide) (by decide) (by decide) (fun _ => rfl) rfl rfl rfl ?_
            clear xP xD xS
            intro z_14 u H locs hr_15 hw_13 xP xD xS
            try dsimp only at hw_13
            replace xP : va_P D classes [(mM, .inr (6, [.int (iI tm), .ref aT, .int (iI om), .ref aO, .int (iI tn), .ref aK, .ref aS, .ref aC, .ref aU, .ref aG, .ref aY, .ref aX, .int (iI qn), .ref aP, .int (iI tr), .int (iI rg), .int (iI ll), .int (iI pv), .int (iI f), .int (iI ov), .int (iI sz), .ref aM, .int (iI tz), .ref aA, .int (iI dm), .ref aD, .ref aB, .ref aV, .ref aE])), (aT, .inl (cI, 3000, .inl fT))] H := xP
            replace xD : va_D xA0 [(mM, .inr (6, [.int (iI tm), .ref aT, .int (iI om), .ref aO, .int (iI tn), .ref aK, .ref aS, .ref aC, .ref aU, .ref aG, .ref aY, .ref aX, .int (iI qn), .ref aP, .int (iI tr), .int (iI rg), .int (iI ll), .int (iI pv), .int (iI f), .int (iI ov), .int (iI sz), .ref aM, .int (iI tz), .ref aA, .int (iI dm), .ref aD, .ref aB, .ref aV, .ref aE])), (aT, .inl (cI, 3000, .inl fT))] := xD
            have HG3 := hw_13
            refine lv_bipush (v := iI (32)) xe xb d_TripleLinesModel_blanks_29 (by decide) ?_
            refine tk_icmp_ne (tgt := 47) xe xb d_TripleLinesModel_blanks_31 (by decide) (by omega) (fun c_16 => ?_) (fun c_16 => ?_)
            · exact xret _ _ _ _ pv d_TripleLinesModel_blanks_47 (by first | exact (Or.inr ⟨Hg, (by rw [← h1, bl_e (by omega)]), hi.1, hi.2, (by omega)⟩) | (dsimp only; exact (Or.inr ⟨Hg, (by rw [← h1, bl_e (by omega)]), hi.1, hi.2, (by omega)⟩))) xP xD xS
            · refine lv_aload_n xe xb d_TripleLinesModel_blanks_34 rfl (lv_at xl 0 rfl) ?_
              refine lv_dup xe xb d_TripleLinesModel_blanks_35 rfl ?_
              refine va_get (D := D) (ci := 6) (v := .int (iI pv)) (C := R_TripleLinesModel) (T := F_TripleLinesModel) (N := 29) xe xb xt i_TripleLinesModel xo xK xP 0 rfl rfl 17 (by decide) (xt _ mw_TripleLinesModel_79) (fun _ h9 => h9) rfl d_TripleLinesModel_blanks_36 ?_
              refine lv_iconst (v := iI (1)) xe xb d_TripleLinesModel_blanks_39 rfl ?_
              refine tk_iadd xe xb d_TripleLinesModel_blanks_40 ?_
              refine va_put (D := D) (ci := 6) (v := .int (iI (pv + 1))) (ty := .int) (C := R_TripleLinesModel) (T := F_TripleLinesModel) (N := 29) xe xb xt i_TripleLinesModel t_TripleLinesModel t_TripleLinesModel_ok n_TripleLinesModel xo xK xP xD xS 0 rfl rfl 17 (by decide) (xt _ mw_TripleLinesModel_79) (fun _ h9 => h9) rfl (by decide +kernel) rfl rfl (Nat.le_of_ble_eq_true rfl) d_TripleLinesModel_blanks_41 ?_
              clear xP xD xS
              intro H locs xP xD xS
              replace xP : va_P D classes [(mM, .inr (6, [.int (iI tm), .ref aT, .int (iI om), .ref aO, .int (iI tn), .ref aK, .ref aS, .ref aC, .ref aU, .ref aG, .ref aY, .ref aX, .int (iI qn), .ref aP, .int (iI tr), .int (iI rg), .int (iI ll), .int (iI (pv + 1)), .int (iI f), .int (iI ov), .int (iI sz), .ref aM, .int (iI tz), .ref aA, .int (iI dm), .ref aD, .ref aB, .ref aV, .ref aE])), (aT, .inl (cI, 3000, .inl fT))] H := xP
              replace xD : va_D xA0 [(mM, .inr (6, [.int (iI tm), .ref aT, .int (iI om), .ref aO, .int (iI tn), .ref aK, .ref aS, .ref aC, .ref aU, .ref aG, .ref aY, .ref aX, .int (iI qn), .ref aP, .int (iI tr), .int (iI rg), .int (iI ll), .int (iI (pv + 1)), .int (iI f), .int (iI ov), .int (iI sz), .ref aM, .int (iI tz), .ref aA, .int (iI dm), .ref aD, .ref aB, .ref aV, .ref aE])), (aT, .inl (cI, 3000, .inl fT))] := xD
              refine lv_goto (tgt := 0) xe xb d_TripleLinesModel_blanks_44 (by decide) ?_
              have hB9 : isB (rd (lst (tI fT) tm) pv) := by omega
              have hl9 := rd_lt (T := (lst (tI fT) tm)) (p := pv) (by omega)
              exact ih_0 (pv + 1) (by omega) (by omega) ((bl_b hB9).symm.trans h1) (fun h9 => by omega) _ _ xP xD xS ls (lv_sub xl [0] rfl)
      · refine tk_if_eq (tgt := 47) xe xb d_TripleLinesModel_blanks_4 (by decide) (by omega) (fun c_17 => ?_) (fun c_17 => absurd c_17 (by omega))
        exact xret _ _ _ _ pv d_TripleLinesModel_blanks_47 (by first | exact (Or.inl ⟨Hg, h2 Hg⟩) | (dsimp only; exact (Or.inl ⟨Hg, h2 Hg⟩))) xP xD xS
  exact loop_0 _ p (Nat.lt_succ_self _) (by first | assumption | omega) rfl (fun _ => rfl) _ _ xP xD xS ls (lv_sub xl [0] rfl)
set_option maxHeartbeats 4000000 in
set_option maxRecDepth 100000 in
theorem c_TripleLinesModel_take (l : Launch) (D : va_G) (cI : ClassId) (mM : Nat) (tm : Int) (aT : Nat) (om : Int) (aO : Nat) (tn : Int) (aK : Nat) (aS : Nat) (aC : Nat) (aU : Nat) (aG : Nat) (aY : Nat) (aX : Nat) (qn : Int) (aP : Nat) (tr : Int) (rg : Int) (ll : Int) (p : Int) (f : Int) (ov : Int) (sz : Int) (aM : Nat) (tz : Int) (aA : Nat) (dm : Int) (aD : Nat) (aB : Nat) (aV : Nat) (aE : Nat) (MD : Nat → Int32) (c : Int) (b : Int) (hf : -2147483648 ≤ f ∧ f < 2147483648) (hsz : 0 ≤ sz ∧ sz ≤ 40) : CtV l D [(cI, .int)] y_TripleLinesModel_take b_TripleLinesModel_take 4 1 [.ref mM, .long (jI c), .int (iI b)] [(mM, .inr (6, [.int (iI tm), .ref aT, .int (iI om), .ref aO, .int (iI tn), .ref aK, .ref aS, .ref aC, .ref aU, .ref aG, .ref aY, .ref aX, .int (iI qn), .ref aP, .int (iI tr), .int (iI rg), .int (iI ll), .int (iI p), .int (iI f), .int (iI ov), .int (iI sz), .ref aM, .int (iI tz), .ref aA, .int (iI dm), .ref aD, .ref aB, .ref aV, .ref aE])), (aM, .inl (cI, 40, .inl MD))] (S := Int × Int × Int × (Nat → Int32)) (fun u => (sz = 40 ∧ u.1 = p ∧ u.2.1 = (if f < 0 then p else f) ∧ u.2.2.1 = sz ∧ u.2.2.2 = MD) ∨ (sz < 40 ∧ u.1 = p + b ∧ u.2.1 = f ∧ u.2.2.1 = sz + 1 ∧ u.2.2.2 = fu MD sz c)) (fun u => [(mM, .inr (6, [.int (iI tm), .ref aT, .int (iI om), .ref aO, .int (iI tn), .ref aK, .ref aS, .ref aC, .ref aU, .ref aG, .ref aY, .ref aX, .int (iI qn), .ref aP, .int (iI tr), .int (iI rg), .int (iI ll), .int (iI u.1), .int (iI u.2.1), .int (iI ov), .int (iI u.2.2.1), .ref aM, .int (iI tz), .ref aA, .int (iI dm), .ref aD, .ref aB, .ref aV, .ref aE])), (aM, .inl (cI, 40, .inl u.2.2.2))]) := by
  refine CtV.walk (by decide) (Nat.le_of_ble_eq_true rfl) ?_
  intro xp xe0 xs xm xar xbelow xmeth xc xA0 xQ xe xb xml xo xt xP xK xD xA xret ls xl xS
  have xl : lv_has ls 4 [(0, .ref mM), (1, .long (jI c)), (3, .int (iI b))] := xl
  have xo : xs.vm.findClass R_TripleLinesModel = some xm.cls := xo
  refine lv_aload_n xe xb d_TripleLinesModel_take_0 rfl (lv_at xl 0 rfl) ?_
  refine va_get (D := D) (ci := 6) (v := .int (iI sz)) (C := R_TripleLinesModel) (T := F_TripleLinesModel) (N := 29) xe xb xt i_TripleLinesModel xo xK xP 0 rfl rfl 20 (by decide) (xt _ mw_TripleLinesModel_129) (fun _ h9 => h9) rfl d_TripleLinesModel_take_1 ?_
  refine lv_bipush (v := iI (40)) xe xb d_TripleLinesModel_take_4 (by decide) ?_
  refine tk_icmp_ne (tgt := 20) xe xb d_TripleLinesModel_take_6 (by decide) (by omega) (fun c_1 => ?_) (fun c_1 => ?_)
  · refine lv_aload_n xe xb d_TripleLinesModel_take_20 rfl (lv_at xl 0 rfl) ?_
    refine va_get (D := D) (ci := 6) (v := .ref aM) (C := R_TripleLinesModel) (T := F_TripleLinesModel) (N := 29) xe xb xt i_TripleLinesModel xo xK xP 0 rfl rfl 21 (by decide) (xt _ mw_TripleLinesModel_40) (fun _ h9 => h9) rfl d_TripleLinesModel_take_21 ?_
    refine lv_aload_n xe xb d_TripleLinesModel_take_24 rfl (lv_at xl 0 rfl) ?_
    refine va_get (D := D) (ci := 6) (v := .int (iI sz)) (C := R_TripleLinesModel) (T := F_TripleLinesModel) (N := 29) xe xb xt i_TripleLinesModel xo xK xP 0 rfl rfl 20 (by decide) (xt _ mw_TripleLinesModel_129) (fun _ h9 => h9) rfl d_TripleLinesModel_take_25 ?_
    refine lv_lload_n xe xb d_TripleLinesModel_take_28 rfl (lv_at xl 1 rfl) ?_
    refine tk_l2i xe xb d_TripleLinesModel_take_29 ?_
    refine tk_iast xe xb xK xP xD xS 1 0 rfl rfl (by omega) d_TripleLinesModel_take_30 ?_
    clear xP xD xS
    intro H locs xP xD xS
    replace xP : va_P D classes [(mM, .inr (6, [.int (iI tm), .ref aT, .int (iI om), .ref aO, .int (iI tn), .ref aK, .ref aS, .ref aC, .ref aU, .ref aG, .ref aY, .ref aX, .int (iI qn), .ref aP, .int (iI tr), .int (iI rg), .int (iI ll), .int (iI p), .int (iI f), .int (iI ov), .int (iI sz), .ref aM, .int (iI tz), .ref aA, .int (iI dm), .ref aD, .ref aB, .ref aV, .ref aE])), (aM, .inl (cI, 40, .inl (fu MD sz c)))] H := xP
    replace xD : va_D xA0 [(mM, .inr (6, [.int (iI tm), .ref aT, .int (iI om), .ref aO, .int (iI tn), .ref aK, .ref aS, .ref aC, .ref aU, .ref aG, .ref aY, .ref aX, .int (iI qn), .ref aP, .int (iI tr), .int (iI rg), .int (iI ll), .int (iI p), .int (iI f), .int (iI ov), .int (iI sz), .ref aM, .int (iI tz), .ref aA, .int (iI dm), .ref aD, .ref aB, .ref aV, .ref aE])), (aM, .inl (cI, 40, .inl (fu MD sz c)))] := xD
    refine lv_aload_n xe xb d_TripleLinesModel_take_31 rfl (lv_at xl 0 rfl) ?_
    refine lv_dup xe xb d_TripleLinesModel_take_32 rfl ?_
    refine va_get (D := D) (ci := 6) (v := .int (iI sz)) (C := R_TripleLinesModel) (T := F_TripleLinesModel) (N := 29) xe xb xt i_TripleLinesModel xo xK xP 0 rfl rfl 20 (by decide) (xt _ mw_TripleLinesModel_129) (fun _ h9 => h9) rfl d_TripleLinesModel_take_33 ?_
    refine lv_iconst (v := iI (1)) xe xb d_TripleLinesModel_take_36 rfl ?_
    refine tk_iadd xe xb d_TripleLinesModel_take_37 ?_
    refine va_put (D := D) (ci := 6) (v := .int (iI (sz + 1))) (ty := .int) (C := R_TripleLinesModel) (T := F_TripleLinesModel) (N := 29) xe xb xt i_TripleLinesModel t_TripleLinesModel t_TripleLinesModel_ok n_TripleLinesModel xo xK xP xD xS 0 rfl rfl 20 (by decide) (xt _ mw_TripleLinesModel_129) (fun _ h9 => h9) rfl (by decide +kernel) rfl rfl (Nat.le_of_ble_eq_true rfl) d_TripleLinesModel_take_38 ?_
    clear xP xD xS
    intro H locs xP xD xS
    replace xP : va_P D classes [(mM, .inr (6, [.int (iI tm), .ref aT, .int (iI om), .ref aO, .int (iI tn), .ref aK, .ref aS, .ref aC, .ref aU, .ref aG, .ref aY, .ref aX, .int (iI qn), .ref aP, .int (iI tr), .int (iI rg), .int (iI ll), .int (iI p), .int (iI f), .int (iI ov), .int (iI (sz + 1)), .ref aM, .int (iI tz), .ref aA, .int (iI dm), .ref aD, .ref aB, .ref aV, .ref aE])), (aM, .inl (cI, 40, .inl (fu MD sz c)))] H := xP
    replace xD : va_D xA0 [(mM, .inr (6, [.int (iI tm), .ref aT, .int (iI om), .ref aO, .int (iI tn), .ref aK, .ref aS, .ref aC, .ref aU, .ref aG, .ref aY, .ref aX, .int (iI qn), .ref aP, .int (iI tr), .int (iI rg), .int (iI ll), .int (iI p), .int (iI f), .int (iI ov), .int (iI (sz + 1)), .ref aM, .int (iI tz), .ref aA, .int (iI dm), .ref aD, .ref aB, .ref aV, .ref aE])), (aM, .inl (cI, 40, .inl (fu MD sz c)))] := xD
    refine lv_aload_n xe xb d_TripleLinesModel_take_41 rfl (lv_at xl 0 rfl) ?_
    refine lv_dup xe xb d_TripleLinesModel_take_42 rfl ?_
    refine va_get (D := D) (ci := 6) (v := .int (iI p)) (C := R_TripleLinesModel) (T := F_TripleLinesModel) (N := 29) xe xb xt i_TripleLinesModel xo xK xP 0 rfl rfl 17 (by decide) (xt _ mw_TripleLinesModel_79) (fun _ h9 => h9) rfl d_TripleLinesModel_take_43 ?_
    refine lv_iload_n xe xb d_TripleLinesModel_take_46 rfl (lv_at xl 2 rfl) ?_
    refine tk_iadd xe xb d_TripleLinesModel_take_47 ?_
    refine va_put (D := D) (ci := 6) (v := .int (iI (p + b))) (ty := .int) (C := R_TripleLinesModel) (T := F_TripleLinesModel) (N := 29) xe xb xt i_TripleLinesModel t_TripleLinesModel t_TripleLinesModel_ok n_TripleLinesModel xo xK xP xD xS 0 rfl rfl 17 (by decide) (xt _ mw_TripleLinesModel_79) (fun _ h9 => h9) rfl (by decide +kernel) rfl rfl (Nat.le_of_ble_eq_true rfl) d_TripleLinesModel_take_48 ?_
    clear xP xD xS
    intro H locs xP xD xS
    replace xP : va_P D classes [(mM, .inr (6, [.int (iI tm), .ref aT, .int (iI om), .ref aO, .int (iI tn), .ref aK, .ref aS, .ref aC, .ref aU, .ref aG, .ref aY, .ref aX, .int (iI qn), .ref aP, .int (iI tr), .int (iI rg), .int (iI ll), .int (iI (p + b)), .int (iI f), .int (iI ov), .int (iI (sz + 1)), .ref aM, .int (iI tz), .ref aA, .int (iI dm), .ref aD, .ref aB, .ref aV, .ref aE])), (aM, .inl (cI, 40, .inl (fu MD sz c)))] H := xP
    replace xD : va_D xA0 [(mM, .inr (6, [.int (iI tm), .ref aT, .int (iI om), .ref aO, .int (iI tn), .ref aK, .ref aS, .ref aC, .ref aU, .ref aG, .ref aY, .ref aX, .int (iI qn), .ref aP, .int (iI tr), .int (iI rg), .int (iI ll), .int (iI (p + b)), .int (iI f), .int (iI ov), .int (iI (sz + 1)), .ref aM, .int (iI tz), .ref aA, .int (iI dm), .ref aD, .ref aB, .ref aV, .ref aE])), (aM, .inl (cI, 40, .inl (fu MD sz c)))] := xD
    exact xret _ _ _ _ ((p + b), f, (sz + 1), (fu MD sz c)) d_TripleLinesModel_take_51 (by first | exact (by first | exact Or.inl ⟨by omega, rfl, HF, rfl, rfl⟩ | exact Or.inr ⟨by omega, rfl, rfl, rfl, rfl⟩) | (dsimp only; exact (by first | exact Or.inl ⟨by omega, rfl, HF, rfl, rfl⟩ | exact Or.inr ⟨by omega, rfl, rfl, rfl, rfl⟩))) xP xD xS
  · refine lv_aload_n xe xb d_TripleLinesModel_take_9 rfl (lv_at xl 0 rfl) ?_
    refine lv_aload_n xe xb d_TripleLinesModel_take_10 rfl (lv_at xl 0 rfl) ?_
    refine va_get (D := D) (ci := 6) (v := .int (iI p)) (C := R_TripleLinesModel) (T := F_TripleLinesModel) (N := 29) xe xb xt i_TripleLinesModel xo xK xP 0 rfl rfl 17 (by decide) (xt _ mw_TripleLinesModel_79) (fun _ h9 => h9) rfl d_TripleLinesModel_take_11 ?_
    refine tk_callVv (As := [.int (iI p)]) (rest := []) (wr := [(aM, .inl (cI, 40, .inl MD))]) (wn := fun u => [(mM, .inr (6, [.int (iI tm), .ref aT, .int (iI om), .ref aO, .int (iI tn), .ref aK, .ref aS, .ref aC, .ref aU, .ref aG, .ref aY, .ref aX, .int (iI qn), .ref aP, .int (iI tr), .int (iI rg), .int (iI ll), .int (iI p), .int (iI u), .int (iI ov), .int (iI sz), .ref aM, .int (iI tz), .ref aA, .int (iI dm), .ref aD, .ref aB, .ref aV, .ref aE])), (aM, .inl (cI, 40, .inl MD))]) ⟨xe, xb, xml, xo, xt⟩ (c_TripleLinesModel_fail l D cI mM tm aT om aO tn aK aS aC aU aG aY aX qn aP tr rg ll p f ov sz aM tz aA dm aD aB aV aE p (by first | assumption | omega)) k_TripleLinesModel_fail mw_TripleLinesModel_94 ⟨Nat.le_of_ble_eq_true rfl, Nat.le_of_ble_eq_true rfl⟩ xK xP xD xS xA rfl xl.1 rfl (Nat.le_of_ble_eq_true rfl) d_TripleLinesModel_take_14 ⟨Nat.zero_le _, Nat.zero_le _⟩ [0] [1] [1, 0] rfl rfl (by decide) (by decide) (by decide) (by decide) (fun _ => rfl) rfl rfl rfl ?_
    clear xP xD xS
    intro u H locs hw_3 xP xD xS
    obtain ⟨f2_2, rfl⟩ : ∃ v, v = u := ⟨_, rfl⟩
    try dsimp only at hw_3
    replace xP : va_P D classes [(mM, .inr (6, [.int (iI tm), .ref aT, .int (iI om), .ref aO, .int (iI tn), .ref aK, .ref aS, .ref aC, .ref aU, .ref aG, .ref aY, .ref aX, .int (iI qn), .ref aP, .int (iI tr), .int (iI rg), .int (iI ll), .int (iI p), .int (iI f2_2), .int (iI ov), .int (iI sz), .ref aM, .int (iI tz), .ref aA, .int (iI dm), .ref aD, .ref aB, .ref aV, .ref aE])), (aM, .inl (cI, 40, .inl MD))] H := xP
    replace xD : va_D xA0 [(mM, .inr (6, [.int (iI tm), .ref aT, .int (iI om), .ref aO, .int (iI tn), .ref aK, .ref aS, .ref aC, .ref aU, .ref aG, .ref aY, .ref aX, .int (iI qn), .ref aP, .int (iI tr), .int (iI rg), .int (iI ll), .int (iI p), .int (iI f2_2), .int (iI ov), .int (iI sz), .ref aM, .int (iI tz), .ref aA, .int (iI dm), .ref aD, .ref aB, .ref aV, .ref aE])), (aM, .inl (cI, 40, .inl MD))] := xD
    have HF := hw_3
    refine lv_goto (tgt := 51) xe xb d_TripleLinesModel_take_17 (by decide) ?_
    exact xret _ _ _ _ (p, f2_2, sz, MD) d_TripleLinesModel_take_51 (by first | exact (by first | exact Or.inl ⟨by omega, rfl, HF, rfl, rfl⟩ | exact Or.inr ⟨by omega, rfl, rfl, rfl, rfl⟩) | (dsimp only; exact (by first | exact Or.inl ⟨by omega, rfl, HF, rfl, rfl⟩ | exact Or.inr ⟨by omega, rfl, rfl, rfl, rfl⟩))) xP xD xS
