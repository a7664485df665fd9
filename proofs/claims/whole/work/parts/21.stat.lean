theorem d_Reader_isBlank_0 : decode b_Reader_isBlank 0 = .ok (.iload_n 0, 1) := by decide +kernel
theorem d_Reader_isBlank_1 : decode b_Reader_isBlank 1 = .ok (.bipush 9, 2) := by decide +kernel
theorem d_Reader_isBlank_3 : decode b_Reader_isBlank 3 = .ok (.if_icmp .eq 15, 3) := by decide +kernel
theorem d_Reader_isBlank_6 : decode b_Reader_isBlank 6 = .ok (.iload_n 0, 1) := by decide +kernel
theorem d_Reader_isBlank_7 : decode b_Reader_isBlank 7 = .ok (.bipush 13, 2) := by decide +kernel
theorem d_Reader_isBlank_9 : decode b_Reader_isBlank 9 = .ok (.if_icmp .eq 9, 3) := by decide +kernel
theorem d_Reader_isBlank_12 : decode b_Reader_isBlank 12 = .ok (.iload_n 0, 1) := by decide +kernel
theorem d_Reader_isBlank_13 : decode b_Reader_isBlank 13 = .ok (.bipush 32, 2) := by decide +kernel
theorem d_Reader_isBlank_15 : decode b_Reader_isBlank 15 = .ok (.if_icmp .ne 7, 3) := by decide +kernel
theorem d_Reader_isBlank_18 : decode b_Reader_isBlank 18 = .ok (.iconst 1, 1) := by decide +kernel
theorem d_Reader_isBlank_19 : decode b_Reader_isBlank 19 = .ok (.goto 4, 3) := by decide +kernel
theorem d_Reader_isBlank_22 : decode b_Reader_isBlank 22 = .ok (.iconst 0, 1) := by decide +kernel
theorem d_Reader_isBlank_23 : decode b_Reader_isBlank 23 = .ok (.ireturn, 1) := by decide +kernel
theorem d_Reader_isLetter_0 : decode b_Reader_isLetter 0 = .ok (.iload_n 0, 1) := by decide +kernel
theorem d_Reader_isLetter_1 : decode b_Reader_isLetter 1 = .ok (.bipush 97, 2) := by decide +kernel
theorem d_Reader_isLetter_3 : decode b_Reader_isLetter 3 = .ok (.if_icmp .lt 9, 3) := by decide +kernel
theorem d_Reader_isLetter_6 : decode b_Reader_isLetter 6 = .ok (.iload_n 0, 1) := by decide +kernel
theorem d_Reader_isLetter_7 : decode b_Reader_isLetter 7 = .ok (.bipush 122, 2) := by decide +kernel
theorem d_Reader_isLetter_9 : decode b_Reader_isLetter 9 = .ok (.if_icmp .le 15, 3) := by decide +kernel
theorem d_Reader_isLetter_12 : decode b_Reader_isLetter 12 = .ok (.iload_n 0, 1) := by decide +kernel
theorem d_Reader_isLetter_13 : decode b_Reader_isLetter 13 = .ok (.bipush 65, 2) := by decide +kernel
theorem d_Reader_isLetter_15 : decode b_Reader_isLetter 15 = .ok (.if_icmp .lt 13, 3) := by decide +kernel
theorem d_Reader_isLetter_18 : decode b_Reader_isLetter 18 = .ok (.iload_n 0, 1) := by decide +kernel
theorem d_Reader_isLetter_19 : decode b_Reader_isLetter 19 = .ok (.bipush 90, 2) := by decide +kernel
theorem d_Reader_isLetter_21 : decode b_Reader_isLetter 21 = .ok (.if_icmp .gt 7, 3) := by decide +kernel
theorem d_Reader_isLetter_24 : decode b_Reader_isLetter 24 = .ok (.iconst 1, 1) := by decide +kernel
theorem d_Reader_isLetter_25 : decode b_Reader_isLetter 25 = .ok (.goto 4, 3) := by decide +kernel
theorem d_Reader_isLetter_28 : decode b_Reader_isLetter 28 = .ok (.iconst 0, 1) := by decide +kernel
theorem d_Reader_isLetter_29 : decode b_Reader_isLetter 29 = .ok (.ireturn, 1) := by decide +kernel
theorem d_Reader_isDigit_0 : decode b_Reader_isDigit 0 = .ok (.iload_n 0, 1) := by decide +kernel
theorem d_Reader_isDigit_1 : decode b_Reader_isDigit 1 = .ok (.bipush 48, 2) := by decide +kernel
theorem d_Reader_isDigit_3 : decode b_Reader_isDigit 3 = .ok (.if_icmp .lt 13, 3) := by decide +kernel
theorem d_Reader_isDigit_6 : decode b_Reader_isDigit 6 = .ok (.iload_n 0, 1) := by decide +kernel
theorem d_Reader_isDigit_7 : decode b_Reader_isDigit 7 = .ok (.bipush 57, 2) := by decide +kernel
theorem d_Reader_isDigit_9 : decode b_Reader_isDigit 9 = .ok (.if_icmp .gt 7, 3) := by decide +kernel
theorem d_Reader_isDigit_12 : decode b_Reader_isDigit 12 = .ok (.iconst 1, 1) := by decide +kernel
theorem d_Reader_isDigit_13 : decode b_Reader_isDigit 13 = .ok (.goto 4, 3) := by decide +kernel
theorem d_Reader_isDigit_16 : decode b_Reader_isDigit 16 = .ok (.iconst 0, 1) := by decide +kernel
theorem d_Reader_isDigit_17 : decode b_Reader_isDigit 17 = .ok (.ireturn, 1) := by decide +kernel
theorem d_Reader_isNameSign_0 : decode b_Reader_isNameSign 0 = .ok (.iload_n 0, 1) := by decide +kernel
theorem d_Reader_isNameSign_1 : decode b_Reader_isNameSign 1 = .ok (.invokestatic 122, 3) := by decide +kernel
theorem d_Reader_isNameSign_4 : decode b_Reader_isNameSign 4 = .ok (.ifCond .ne 28, 3) := by decide +kernel
theorem d_Reader_isNameSign_7 : decode b_Reader_isNameSign 7 = .ok (.iload_n 0, 1) := by decide +kernel
theorem d_Reader_isNameSign_8 : decode b_Reader_isNameSign 8 = .ok (.invokestatic 125, 3) := by decide +kernel
theorem d_Reader_isNameSign_11 : decode b_Reader_isNameSign 11 = .ok (.ifCond .ne 21, 3) := by decide +kernel
theorem d_Reader_isNameSign_14 : decode b_Reader_isNameSign 14 = .ok (.iload_n 0, 1) := by decide +kernel
theorem d_Reader_isNameSign_15 : decode b_Reader_isNameSign 15 = .ok (.bipush 95, 2) := by decide +kernel
theorem d_Reader_isNameSign_17 : decode b_Reader_isNameSign 17 = .ok (.if_icmp .eq 15, 3) := by decide +kernel
theorem d_Reader_isNameSign_20 : decode b_Reader_isNameSign 20 = .ok (.iload_n 0, 1) := by decide +kernel
theorem d_Reader_isNameSign_21 : decode b_Reader_isNameSign 21 = .ok (.bipush 45, 2) := by decide +kernel
theorem d_Reader_isNameSign_23 : decode b_Reader_isNameSign 23 = .ok (.if_icmp .eq 9, 3) := by decide +kernel
theorem d_Reader_isNameSign_26 : decode b_Reader_isNameSign 26 = .ok (.iload_n 0, 1) := by decide +kernel
theorem d_Reader_isNameSign_27 : decode b_Reader_isNameSign 27 = .ok (.bipush 46, 2) := by decide +kernel
theorem d_Reader_isNameSign_29 : decode b_Reader_isNameSign 29 = .ok (.if_icmp .ne 7, 3) := by decide +kernel
theorem d_Reader_isNameSign_32 : decode b_Reader_isNameSign 32 = .ok (.iconst 1, 1) := by decide +kernel
theorem d_Reader_isNameSign_33 : decode b_Reader_isNameSign 33 = .ok (.goto 4, 3) := by decide +kernel
theorem d_Reader_isNameSign_36 : decode b_Reader_isNameSign 36 = .ok (.iconst 0, 1) := by decide +kernel
theorem d_Reader_isNameSign_37 : decode b_Reader_isNameSign 37 = .ok (.ireturn, 1) := by decide +kernel
theorem d_Reader_smallLetter_0 : decode b_Reader_smallLetter 0 = .ok (.iload_n 0, 1) := by decide +kernel
theorem d_Reader_smallLetter_1 : decode b_Reader_smallLetter 1 = .ok (.bipush 65, 2) := by decide +kernel
theorem d_Reader_smallLetter_3 : decode b_Reader_smallLetter 3 = .ok (.if_icmp .lt 16, 3) := by decide +kernel
theorem d_Reader_smallLetter_6 : decode b_Reader_smallLetter 6 = .ok (.iload_n 0, 1) := by decide +kernel
theorem d_Reader_smallLetter_7 : decode b_Reader_smallLetter 7 = .ok (.bipush 90, 2) := by decide +kernel
theorem d_Reader_smallLetter_9 : decode b_Reader_smallLetter 9 = .ok (.if_icmp .gt 10, 3) := by decide +kernel
theorem d_Reader_smallLetter_12 : decode b_Reader_smallLetter 12 = .ok (.iload_n 0, 1) := by decide +kernel
theorem d_Reader_smallLetter_13 : decode b_Reader_smallLetter 13 = .ok (.bipush 32, 2) := by decide +kernel
theorem d_Reader_smallLetter_15 : decode b_Reader_smallLetter 15 = .ok (.iadd, 1) := by decide +kernel
theorem d_Reader_smallLetter_16 : decode b_Reader_smallLetter 16 = .ok (.goto 4, 3) := by decide +kernel
theorem d_Reader_smallLetter_19 : decode b_Reader_smallLetter 19 = .ok (.iload_n 0, 1) := by decide +kernel
theorem d_Reader_smallLetter_20 : decode b_Reader_smallLetter 20 = .ok (.ireturn, 1) := by decide +kernel
theorem d_Reader_hexDigit_0 : decode b_Reader_hexDigit 0 = .ok (.iload_n 0, 1) := by decide +kernel
theorem d_Reader_hexDigit_1 : decode b_Reader_hexDigit 1 = .ok (.bipush 48, 2) := by decide +kernel
theorem d_Reader_hexDigit_3 : decode b_Reader_hexDigit 3 = .ok (.if_icmp .lt 14, 3) := by decide +kernel
theorem d_Reader_hexDigit_6 : decode b_Reader_hexDigit 6 = .ok (.iload_n 0, 1) := by decide +kernel
theorem d_Reader_hexDigit_7 : decode b_Reader_hexDigit 7 = .ok (.bipush 57, 2) := by decide +kernel
theorem d_Reader_hexDigit_9 : decode b_Reader_hexDigit 9 = .ok (.if_icmp .gt 8, 3) := by decide +kernel
theorem d_Reader_hexDigit_12 : decode b_Reader_hexDigit 12 = .ok (.iload_n 0, 1) := by decide +kernel
theorem d_Reader_hexDigit_13 : decode b_Reader_hexDigit 13 = .ok (.bipush 48, 2) := by decide +kernel
theorem d_Reader_hexDigit_15 : decode b_Reader_hexDigit 15 = .ok (.isub, 1) := by decide +kernel
theorem d_Reader_hexDigit_16 : decode b_Reader_hexDigit 16 = .ok (.ireturn, 1) := by decide +kernel
theorem d_Reader_hexDigit_17 : decode b_Reader_hexDigit 17 = .ok (.iload_n 0, 1) := by decide +kernel
theorem d_Reader_hexDigit_18 : decode b_Reader_hexDigit 18 = .ok (.bipush 65, 2) := by decide +kernel
theorem d_Reader_hexDigit_20 : decode b_Reader_hexDigit 20 = .ok (.if_icmp .lt 17, 3) := by decide +kernel
theorem d_Reader_hexDigit_23 : decode b_Reader_hexDigit 23 = .ok (.iload_n 0, 1) := by decide +kernel
theorem d_Reader_hexDigit_24 : decode b_Reader_hexDigit 24 = .ok (.bipush 70, 2) := by decide +kernel
theorem d_Reader_hexDigit_26 : decode b_Reader_hexDigit 26 = .ok (.if_icmp .gt 11, 3) := by decide +kernel
theorem d_Reader_hexDigit_29 : decode b_Reader_hexDigit 29 = .ok (.iload_n 0, 1) := by decide +kernel
theorem d_Reader_hexDigit_30 : decode b_Reader_hexDigit 30 = .ok (.bipush 65, 2) := by decide +kernel
theorem d_Reader_hexDigit_32 : decode b_Reader_hexDigit 32 = .ok (.isub, 1) := by decide +kernel
theorem d_Reader_hexDigit_33 : decode b_Reader_hexDigit 33 = .ok (.bipush 10, 2) := by decide +kernel
theorem d_Reader_hexDigit_35 : decode b_Reader_hexDigit 35 = .ok (.iadd, 1) := by decide +kernel
theorem d_Reader_hexDigit_36 : decode b_Reader_hexDigit 36 = .ok (.ireturn, 1) := by decide +kernel
theorem d_Reader_hexDigit_37 : decode b_Reader_hexDigit 37 = .ok (.iload_n 0, 1) := by decide +kernel
theorem d_Reader_hexDigit_38 : decode b_Reader_hexDigit 38 = .ok (.bipush 97, 2) := by decide +kernel
theorem d_Reader_hexDigit_40 : decode b_Reader_hexDigit 40 = .ok (.if_icmp .lt 19, 3) := by decide +kernel
theorem d_Reader_hexDigit_43 : decode b_Reader_hexDigit 43 = .ok (.iload_n 0, 1) := by decide +kernel
theorem d_Reader_hexDigit_44 : decode b_Reader_hexDigit 44 = .ok (.bipush 102, 2) := by decide +kernel
theorem d_Reader_hexDigit_46 : decode b_Reader_hexDigit 46 = .ok (.if_icmp .gt 13, 3) := by decide +kernel
theorem d_Reader_hexDigit_49 : decode b_Reader_hexDigit 49 = .ok (.iload_n 0, 1) := by decide +kernel
theorem d_Reader_hexDigit_50 : decode b_Reader_hexDigit 50 = .ok (.bipush 97, 2) := by decide +kernel
theorem d_Reader_hexDigit_52 : decode b_Reader_hexDigit 52 = .ok (.isub, 1) := by decide +kernel
theorem d_Reader_hexDigit_53 : decode b_Reader_hexDigit 53 = .ok (.bipush 10, 2) := by decide +kernel
theorem d_Reader_hexDigit_55 : decode b_Reader_hexDigit 55 = .ok (.iadd, 1) := by decide +kernel
theorem d_Reader_hexDigit_56 : decode b_Reader_hexDigit 56 = .ok (.goto 4, 3) := by decide +kernel
theorem d_Reader_hexDigit_59 : decode b_Reader_hexDigit 59 = .ok (.iconst (-1), 1) := by decide +kernel
theorem d_Reader_hexDigit_60 : decode b_Reader_hexDigit 60 = .ok (.ireturn, 1) := by decide +kernel
theorem d_Reader_signCode_0 : decode b_Reader_signCode 0 = .ok (.iload_n 0, 1) := by decide +kernel
theorem d_Reader_signCode_1 : decode b_Reader_signCode 1 = .ok (.lookupswitch 92 #[(34, 90), (39, 90), (92, 90), (98, 78), (102, 87), (110, 81), (114, 84), (116, 75)], 75) := by decide +kernel
theorem d_Reader_signCode_76 : decode b_Reader_signCode 76 = .ok (.bipush 9, 2) := by decide +kernel
theorem d_Reader_signCode_78 : decode b_Reader_signCode 78 = .ok (.ireturn, 1) := by decide +kernel
theorem d_Reader_signCode_79 : decode b_Reader_signCode 79 = .ok (.bipush 8, 2) := by decide +kernel
theorem d_Reader_signCode_81 : decode b_Reader_signCode 81 = .ok (.ireturn, 1) := by decide +kernel
theorem d_Reader_signCode_82 : decode b_Reader_signCode 82 = .ok (.bipush 10, 2) := by decide +kernel
theorem d_Reader_signCode_84 : decode b_Reader_signCode 84 = .ok (.ireturn, 1) := by decide +kernel
theorem d_Reader_signCode_85 : decode b_Reader_signCode 85 = .ok (.bipush 13, 2) := by decide +kernel
theorem d_Reader_signCode_87 : decode b_Reader_signCode 87 = .ok (.ireturn, 1) := by decide +kernel
theorem d_Reader_signCode_88 : decode b_Reader_signCode 88 = .ok (.bipush 12, 2) := by decide +kernel
theorem d_Reader_signCode_90 : decode b_Reader_signCode 90 = .ok (.ireturn, 1) := by decide +kernel
theorem d_Reader_signCode_91 : decode b_Reader_signCode 91 = .ok (.iload_n 0, 1) := by decide +kernel
theorem d_Reader_signCode_92 : decode b_Reader_signCode 92 = .ok (.ireturn, 1) := by decide +kernel
theorem d_Reader_signCode_93 : decode b_Reader_signCode 93 = .ok (.iconst (-1), 1) := by decide +kernel
theorem d_Reader_signCode_94 : decode b_Reader_signCode 94 = .ok (.ireturn, 1) := by decide +kernel
theorem d_Reader_isCode_0 : decode b_Reader_isCode 0 = .ok (.lload_n 0, 1) := by decide +kernel
theorem d_Reader_isCode_1 : decode b_Reader_isCode 1 = .ok (.lconst 0, 1) := by decide +kernel
theorem d_Reader_isCode_2 : decode b_Reader_isCode 2 = .ok (.lcmp, 1) := by decide +kernel
theorem d_Reader_isCode_3 : decode b_Reader_isCode 3 = .ok (.ifCond .lt 31, 3) := by decide +kernel
theorem d_Reader_isCode_6 : decode b_Reader_isCode 6 = .ok (.lload_n 0, 1) := by decide +kernel
theorem d_Reader_isCode_7 : decode b_Reader_isCode 7 = .ok (.ldc2_w 156, 3) := by decide +kernel
theorem d_Reader_isCode_10 : decode b_Reader_isCode 10 = .ok (.lcmp, 1) := by decide +kernel
theorem d_Reader_isCode_11 : decode b_Reader_isCode 11 = .ok (.ifCond .gt 23, 3) := by decide +kernel
theorem d_Reader_isCode_14 : decode b_Reader_isCode 14 = .ok (.lload_n 0, 1) := by decide +kernel
theorem d_Reader_isCode_15 : decode b_Reader_isCode 15 = .ok (.ldc2_w 158, 3) := by decide +kernel
theorem d_Reader_isCode_18 : decode b_Reader_isCode 18 = .ok (.lcmp, 1) := by decide +kernel
theorem d_Reader_isCode_19 : decode b_Reader_isCode 19 = .ok (.ifCond .lt 11, 3) := by decide +kernel
theorem d_Reader_isCode_22 : decode b_Reader_isCode 22 = .ok (.lload_n 0, 1) := by decide +kernel
theorem d_Reader_isCode_23 : decode b_Reader_isCode 23 = .ok (.ldc2_w 160, 3) := by decide +kernel
theorem d_Reader_isCode_26 : decode b_Reader_isCode 26 = .ok (.lcmp, 1) := by decide +kernel
theorem d_Reader_isCode_27 : decode b_Reader_isCode 27 = .ok (.ifCond .le 7, 3) := by decide +kernel
theorem d_Reader_isCode_30 : decode b_Reader_isCode 30 = .ok (.iconst 1, 1) := by decide +kernel
theorem d_Reader_isCode_31 : decode b_Reader_isCode 31 = .ok (.goto 4, 3) := by decide +kernel
theorem d_Reader_isCode_34 : decode b_Reader_isCode 34 = .ok (.iconst 0, 1) := by decide +kernel
theorem d_Reader_isCode_35 : decode b_Reader_isCode 35 = .ok (.ireturn, 1) := by decide +kernel
theorem d_Reader_isLiteralCode_0 : decode b_Reader_isLiteralCode 0 = .ok (.iload_n 1, 1) := by decide +kernel
theorem d_Reader_isLiteralCode_1 : decode b_Reader_isLiteralCode 1 = .ok (.ifCond .eq 29, 3) := by decide +kernel
theorem d_Reader_isLiteralCode_4 : decode b_Reader_isLiteralCode 4 = .ok (.iload_n 0, 1) := by decide +kernel
theorem d_Reader_isLiteralCode_5 : decode b_Reader_isLiteralCode 5 = .ok (.bipush 9, 2) := by decide +kernel
theorem d_Reader_isLiteralCode_7 : decode b_Reader_isLiteralCode 7 = .ok (.if_icmp .eq 15, 3) := by decide +kernel
theorem d_Reader_isLiteralCode_10 : decode b_Reader_isLiteralCode 10 = .ok (.iload_n 0, 1) := by decide +kernel
theorem d_Reader_isLiteralCode_11 : decode b_Reader_isLiteralCode 11 = .ok (.bipush 32, 2) := by decide +kernel
theorem d_Reader_isLiteralCode_13 : decode b_Reader_isLiteralCode 13 = .ok (.if_icmp .lt 13, 3) := by decide +kernel
theorem d_Reader_isLiteralCode_16 : decode b_Reader_isLiteralCode 16 = .ok (.iload_n 0, 1) := by decide +kernel
theorem d_Reader_isLiteralCode_17 : decode b_Reader_isLiteralCode 17 = .ok (.bipush 126, 2) := by decide +kernel
theorem d_Reader_isLiteralCode_19 : decode b_Reader_isLiteralCode 19 = .ok (.if_icmp .gt 7, 3) := by decide +kernel
theorem d_Reader_isLiteralCode_22 : decode b_Reader_isLiteralCode 22 = .ok (.iconst 1, 1) := by decide +kernel
theorem d_Reader_isLiteralCode_23 : decode b_Reader_isLiteralCode 23 = .ok (.goto 17, 3) := by decide +kernel
theorem d_Reader_isLiteralCode_26 : decode b_Reader_isLiteralCode 26 = .ok (.iconst 0, 1) := by decide +kernel
theorem d_Reader_isLiteralCode_27 : decode b_Reader_isLiteralCode 27 = .ok (.goto 13, 3) := by decide +kernel
theorem d_Reader_isLiteralCode_30 : decode b_Reader_isLiteralCode 30 = .ok (.iload_n 0, 1) := by decide +kernel
theorem d_Reader_isLiteralCode_31 : decode b_Reader_isLiteralCode 31 = .ok (.iconst (-1), 1) := by decide +kernel
theorem d_Reader_isLiteralCode_32 : decode b_Reader_isLiteralCode 32 = .ok (.if_icmp .eq 7, 3) := by decide +kernel
theorem d_Reader_isLiteralCode_35 : decode b_Reader_isLiteralCode 35 = .ok (.iconst 1, 1) := by decide +kernel
theorem d_Reader_isLiteralCode_36 : decode b_Reader_isLiteralCode 36 = .ok (.goto 4, 3) := by decide +kernel
theorem d_Reader_isLiteralCode_39 : decode b_Reader_isLiteralCode 39 = .ok (.iconst 0, 1) := by decide +kernel
theorem d_Reader_isLiteralCode_40 : decode b_Reader_isLiteralCode 40 = .ok (.ireturn, 1) := by decide +kernel
theorem d_Reader_isNodeCode_0 : decode b_Reader_isNodeCode 0 = .ok (.iload_n 0, 1) := by decide +kernel
theorem d_Reader_isNodeCode_1 : decode b_Reader_isNodeCode 1 = .ok (.bipush 32, 2) := by decide +kernel
theorem d_Reader_isNodeCode_3 : decode b_Reader_isNodeCode 3 = .ok (.if_icmp .le 13, 3) := by decide +kernel
theorem d_Reader_isNodeCode_6 : decode b_Reader_isNodeCode 6 = .ok (.iload_n 1, 1) := by decide +kernel
theorem d_Reader_isNodeCode_7 : decode b_Reader_isNodeCode 7 = .ok (.ifCond .eq 11, 3) := by decide +kernel
theorem d_Reader_isNodeCode_10 : decode b_Reader_isNodeCode 10 = .ok (.iload_n 0, 1) := by decide +kernel
theorem d_Reader_isNodeCode_11 : decode b_Reader_isNodeCode 11 = .ok (.bipush 126, 2) := by decide +kernel
theorem d_Reader_isNodeCode_13 : decode b_Reader_isNodeCode 13 = .ok (.if_icmp .le 5, 3) := by decide +kernel
theorem d_Reader_isNodeCode_16 : decode b_Reader_isNodeCode 16 = .ok (.iconst 0, 1) := by decide +kernel
theorem d_Reader_isNodeCode_17 : decode b_Reader_isNodeCode 17 = .ok (.ireturn, 1) := by decide +kernel
theorem d_Reader_isNodeCode_18 : decode b_Reader_isNodeCode 18 = .ok (.iload_n 0, 1) := by decide +kernel
theorem d_Reader_isNodeCode_19 : decode b_Reader_isNodeCode 19 = .ok (.lookupswitch 83 #[(34, 81), (60, 81), (62, 81), (92, 81), (94, 81), (96, 81), (123, 81), (124, 81), (125, 81)], 81) := by decide +kernel
theorem d_Reader_isNodeCode_100 : decode b_Reader_isNodeCode 100 = .ok (.iconst 0, 1) := by decide +kernel
theorem d_Reader_isNodeCode_101 : decode b_Reader_isNodeCode 101 = .ok (.ireturn, 1) := by decide +kernel
theorem d_Reader_isNodeCode_102 : decode b_Reader_isNodeCode 102 = .ok (.iconst 1, 1) := by decide +kernel
theorem d_Reader_isNodeCode_103 : decode b_Reader_isNodeCode 103 = .ok (.ireturn, 1) := by decide +kernel
theorem d_Printer_signLetter_0 : decode b_Printer_signLetter 0 = .ok (.iload_n 0, 1) := by decide +kernel
theorem d_Printer_signLetter_1 : decode b_Printer_signLetter 1 = .ok (.lookupswitch 84 #[(8, 70), (9, 67), (10, 73), (12, 79), (13, 76), (34, 82), (92, 82)], 67) := by decide +kernel
theorem d_Printer_signLetter_68 : decode b_Printer_signLetter 68 = .ok (.bipush 116, 2) := by decide +kernel
theorem d_Printer_signLetter_70 : decode b_Printer_signLetter 70 = .ok (.ireturn, 1) := by decide +kernel
theorem d_Printer_signLetter_71 : decode b_Printer_signLetter 71 = .ok (.bipush 98, 2) := by decide +kernel
theorem d_Printer_signLetter_73 : decode b_Printer_signLetter 73 = .ok (.ireturn, 1) := by decide +kernel
theorem d_Printer_signLetter_74 : decode b_Printer_signLetter 74 = .ok (.bipush 110, 2) := by decide +kernel
theorem d_Printer_signLetter_76 : decode b_Printer_signLetter 76 = .ok (.ireturn, 1) := by decide +kernel
theorem d_Printer_signLetter_77 : decode b_Printer_signLetter 77 = .ok (.bipush 114, 2) := by decide +kernel
theorem d_Printer_signLetter_79 : decode b_Printer_signLetter 79 = .ok (.ireturn, 1) := by decide +kernel
theorem d_Printer_signLetter_80 : decode b_Printer_signLetter 80 = .ok (.bipush 102, 2) := by decide +kernel
theorem d_Printer_signLetter_82 : decode b_Printer_signLetter 82 = .ok (.ireturn, 1) := by decide +kernel
theorem d_Printer_signLetter_83 : decode b_Printer_signLetter 83 = .ok (.iload_n 0, 1) := by decide +kernel
theorem d_Printer_signLetter_84 : decode b_Printer_signLetter 84 = .ok (.ireturn, 1) := by decide +kernel
theorem d_Printer_signLetter_85 : decode b_Printer_signLetter 85 = .ok (.iconst (-1), 1) := by decide +kernel
theorem d_Printer_signLetter_86 : decode b_Printer_signLetter 86 = .ok (.ireturn, 1) := by decide +kernel
set_option maxHeartbeats 4000000 in
set_option maxRecDepth 100000 in
theorem c_Reader_isBlank (l : Launch) (D : va_G) (cI : ClassId) (x : Int) (hx0 : -2147483648 ≤ x ∧ x < 2147483648) : CtI l D [(cI, .int)] y_Reader_isBlank b_Reader_isBlank 1 (some .boolean) 0 [.int (iI x)] [] (S := Unit) (fun z u => (z = 1 ∧ (isB x)) ∨ (z = 0 ∧ ¬ (isB x))) (fun u => []) := by
  refine CtI.walk (fun z => z = 0 ∨ z = 1) (fun z hz => by rcases hz with rfl | rfl <;> decide) (by decide) (Nat.le_of_ble_eq_true rfl) ?_
  intro xp xe0 xs xm xar xbelow xmeth xc xA0 xQ xe xb xml xo xt xP xK xD xA xret ls xl xS
  have xl : lv_has ls 1 [(0, .int (iI x))] := xl
  have xo : xs.vm.findClass R_Reader = some xm.cls := xo
  refine lv_iload_n xe xb d_Reader_isBlank_0 rfl (lv_at xl 0 rfl) ?_
  refine lv_bipush (v := iI (9)) xe xb d_Reader_isBlank_1 (by decide) ?_
  refine tk_icmp_eq (tgt := 18) xe xb d_Reader_isBlank_3 (by decide) (by omega) (fun c_1 => ?_) (fun c_1 => ?_)
  · refine lv_iconst (v := iI (1)) xe xb d_Reader_isBlank_18 rfl ?_
    refine lv_goto (tgt := 23) xe xb d_Reader_isBlank_19 (by decide) ?_
    exact xret _ _ _ _ 1 () d_Reader_isBlank_23 (by omega) (by omega) (by omega) xP xD xS
  · refine lv_iload_n xe xb d_Reader_isBlank_6 rfl (lv_at xl 0 rfl) ?_
    refine lv_bipush (v := iI (13)) xe xb d_Reader_isBlank_7 (by decide) ?_
    refine tk_icmp_eq (tgt := 18) xe xb d_Reader_isBlank_9 (by decide) (by omega) (fun c_2 => ?_) (fun c_2 => ?_)
    · refine lv_iconst (v := iI (1)) xe xb d_Reader_isBlank_18 rfl ?_
      refine lv_goto (tgt := 23) xe xb d_Reader_isBlank_19 (by decide) ?_
      exact xret _ _ _ _ 1 () d_Reader_isBlank_23 (by omega) (by omega) (by omega) xP xD xS
    · refine lv_iload_n xe xb d_Reader_isBlank_12 rfl (lv_at xl 0 rfl) ?_
      refine lv_bipush (v := iI (32)) xe xb d_Reader_isBlank_13 (by decide) ?_
      refine tk_icmp_ne (tgt := 22) xe xb d_Reader_isBlank_15 (by decide) (by omega) (fun c_3 => ?_) (fun c_3 => ?_)
      · refine lv_iconst (v := iI (0)) xe xb d_Reader_isBlank_22 rfl ?_
        exact xret _ _ _ _ 0 () d_Reader_isBlank_23 (by omega) (by omega) (by omega) xP xD xS
      · refine lv_iconst (v := iI (1)) xe xb d_Reader_isBlank_18 rfl ?_
        refine lv_goto (tgt := 23) xe xb d_Reader_isBlank_19 (by decide) ?_
        exact xret _ _ _ _ 1 () d_Reader_isBlank_23 (by omega) (by omega) (by omega) xP xD xS
set_option maxHeartbeats 4000000 in
set_option maxRecDepth 100000 in
theorem c_Reader_isLetter (l : Launch) (D : va_G) (cI : ClassId) (x : Int) (hx0 : -2147483648 ≤ x ∧ x < 2147483648) : CtI l D [(cI, .int)] y_Reader_isLetter b_Reader_isLetter 1 (some .boolean) 0 [.int (iI x)] [] (S := Unit) (fun z u => (z = 1 ∧ (isL x)) ∨ (z = 0 ∧ ¬ (isL x))) (fun u => []) := by
  refine CtI.walk (fun z => z = 0 ∨ z = 1) (fun z hz => by rcases hz with rfl | rfl <;> decide) (by decide) (Nat.le_of_ble_eq_true rfl) ?_
  intro xp xe0 xs xm xar xbelow xmeth xc xA0 xQ xe xb xml xo xt xP xK xD xA xret ls xl xS
  have xl : lv_has ls 1 [(0, .int (iI x))] := xl
  have xo : xs.vm.findClass R_Reader = some xm.cls := xo
  refine lv_iload_n xe xb d_Reader_isLetter_0 rfl (lv_at xl 0 rfl) ?_
  refine lv_bipush (v := iI (97)) xe xb d_Reader_isLetter_1 (by decide) ?_
  refine tk_icmp_lt (tgt := 12) xe xb d_Reader_isLetter_3 (by decide) (by omega) (fun c_1 => ?_) (fun c_1 => ?_)
  · refine lv_iload_n xe xb d_Reader_isLetter_12 rfl (lv_at xl 0 rfl) ?_
    refine lv_bipush (v := iI (65)) xe xb d_Reader_isLetter_13 (by decide) ?_
    refine tk_icmp_lt (tgt := 28) xe xb d_Reader_isLetter_15 (by decide) (by omega) (fun c_2 => ?_) (fun c_2 => ?_)
    · refine lv_iconst (v := iI (0)) xe xb d_Reader_isLetter_28 rfl ?_
      exact xret _ _ _ _ 0 () d_Reader_isLetter_29 (by omega) (by omega) (by omega) xP xD xS
    · refine lv_iload_n xe xb d_Reader_isLetter_18 rfl (lv_at xl 0 rfl) ?_
      refine lv_bipush (v := iI (90)) xe xb d_Reader_isLetter_19 (by decide) ?_
      refine tk_icmp_gt (tgt := 28) xe xb d_Reader_isLetter_21 (by decide) (by omega) (fun c_3 => ?_) (fun c_3 => ?_)
      · refine lv_iconst (v := iI (0)) xe xb d_Reader_isLetter_28 rfl ?_
        exact xret _ _ _ _ 0 () d_Reader_isLetter_29 (by omega) (by omega) (by omega) xP xD xS
      · refine lv_iconst (v := iI (1)) xe xb d_Reader_isLetter_24 rfl ?_
        refine lv_goto (tgt := 29) xe xb d_Reader_isLetter_25 (by decide) ?_
        exact xret _ _ _ _ 1 () d_Reader_isLetter_29 (by omega) (by omega) (by omega) xP xD xS
  · refine lv_iload_n xe xb d_Reader_isLetter_6 rfl (lv_at xl 0 rfl) ?_
    refine lv_bipush (v := iI (122)) xe xb d_Reader_isLetter_7 (by decide) ?_
    refine tk_icmp_le (tgt := 24) xe xb d_Reader_isLetter_9 (by decide) (by omega) (fun c_4 => ?_) (fun c_4 => ?_)
    · refine lv_iconst (v := iI (1)) xe xb d_Reader_isLetter_24 rfl ?_
      refine lv_goto (tgt := 29) xe xb d_Reader_isLetter_25 (by decide) ?_
      exact xret _ _ _ _ 1 () d_Reader_isLetter_29 (by omega) (by omega) (by omega) xP xD xS
    · refine lv_iload_n xe xb d_Reader_isLetter_12 rfl (lv_at xl 0 rfl) ?_
      refine lv_bipush (v := iI (65)) xe xb d_Reader_isLetter_13 (by decide) ?_
      refine tk_icmp_lt (tgt := 28) xe xb d_Reader_isLetter_15 (by decide) (by omega) (fun c_5 => ?_) (fun c_5 => ?_)
      · refine lv_iconst (v := iI (0)) xe xb d_Reader_isLetter_28 rfl ?_
        exact xret _ _ _ _ 0 () d_Reader_isLetter_29 (by omega) (by omega) (by omega) xP xD xS
      · refine lv_iload_n xe xb d_Reader_isLetter_18 rfl (lv_at xl 0 rfl) ?_
        refine lv_bipush (v := iI (90)) xe xb d_Reader_isLetter_19 (by decide) ?_
        refine tk_icmp_gt (tgt := 28) xe xb d_Reader_isLetter_21 (by decide) (by omega) (fun c_6 => ?_) (fun c_6 => ?_)
        · refine lv_iconst (v := iI (0)) xe xb d_Reader_isLetter_28 rfl ?_
          exact xret _ _ _ _ 0 () d_Reader_isLetter_29 (by omega) (by omega) (by omega) xP xD xS
        · refine lv_iconst (v := iI (1)) xe xb d_Reader_isLetter_24 rfl ?_
          refine lv_goto (tgt := 29) xe xb d_Reader_isLetter_25 (by decide) ?_
          exact xret _ _ _ _ 1 () d_Reader_isLetter_29 (by omega) (by omega) (by omega) xP xD xS
set_option maxHeartbeats 4000000 in
set_option maxRecDepth 100000 in
theorem c_Reader_isDigit (l : Launch) (D : va_G) (cI : ClassId) (x : Int) (hx0 : -2147483648 ≤ x ∧ x < 2147483648) : CtI l D [(cI, .int)] y_Reader_isDigit b_Reader_isDigit 1 (some .boolean) 0 [.int (iI x)] [] (S := Unit) (fun z u => (z = 1 ∧ (isG x)) ∨ (z = 0 ∧ ¬ (isG x))) (fun u => []) := by
  refine CtI.walk (fun z => z = 0 ∨ z = 1) (fun z hz => by rcases hz with rfl | rfl <;> decide) (by decide) (Nat.le_of_ble_eq_true rfl) ?_
  intro xp xe0 xs xm xar xbelow xmeth xc xA0 xQ xe xb xml xo xt xP xK xD xA xret ls xl xS
  have xl : lv_has ls 1 [(0, .int (iI x))] := xl
  have xo : xs.vm.findClass R_Reader = some xm.cls := xo
  refine lv_iload_n xe xb d_Reader_isDigit_0 rfl (lv_at xl 0 rfl) ?_
  refine lv_bipush (v := iI (48)) xe xb d_Reader_isDigit_1 (by decide) ?_
  refine tk_icmp_lt (tgt := 16) xe xb d_Reader_isDigit_3 (by decide) (by omega) (fun c_1 => ?_) (fun c_1 => ?_)
  · refine lv_iconst (v := iI (0)) xe xb d_Reader_isDigit_16 rfl ?_
    exact xret _ _ _ _ 0 () d_Reader_isDigit_17 (by omega) (by omega) (by omega) xP xD xS
  · refine lv_iload_n xe xb d_Reader_isDigit_6 rfl (lv_at xl 0 rfl) ?_
    refine lv_bipush (v := iI (57)) xe xb d_Reader_isDigit_7 (by decide) ?_
    refine tk_icmp_gt (tgt := 16) xe xb d_Reader_isDigit_9 (by decide) (by omega) (fun c_2 => ?_) (fun c_2 => ?_)
    · refine lv_iconst (v := iI (0)) xe xb d_Reader_isDigit_16 rfl ?_
      exact xret _ _ _ _ 0 () d_Reader_isDigit_17 (by omega) (by omega) (by omega) xP xD xS
    · refine lv_iconst (v := iI (1)) xe xb d_Reader_isDigit_12 rfl ?_
      refine lv_goto (tgt := 17) xe xb d_Reader_isDigit_13 (by decide) ?_
      exact xret _ _ _ _ 1 () d_Reader_isDigit_17 (by omega) (by omega) (by omega) xP xD xS
set_option maxHeartbeats 4000000 in
set_option maxRecDepth 100000 in
theorem c_Reader_isNameSign (l : Launch) (D : va_G) (cI : ClassId) (x : Int) (hx0 : -2147483648 ≤ x ∧ x < 2147483648) : CtI l D [(cI, .int)] y_Reader_isNameSign b_Reader_isNameSign 1 (some .boolean) 1 [.int (iI x)] [] (S := Unit) (fun z u => (z = 1 ∧ (isNm x)) ∨ (z = 0 ∧ ¬ (isNm x))) (fun u => []) := by
  refine CtI.walk (fun z => z = 0 ∨ z = 1) (fun z hz => by rcases hz with rfl | rfl <;> decide) (by decide) (Nat.le_of_ble_eq_true rfl) ?_
  intro xp xe0 xs xm xar xbelow xmeth xc xA0 xQ xe xb xml xo xt xP xK xD xA xret ls xl xS
  have xl : lv_has ls 1 [(0, .int (iI x))] := xl
  have xo : xs.vm.findClass R_Reader = some xm.cls := xo
  refine lv_iload_n xe xb d_Reader_isNameSign_0 rfl (lv_at xl 0 rfl) ?_
  refine tk_callSi (As := [.int (iI x)]) (rest := []) (wr := []) (wn := fun u => []) ⟨xe, xb, xml, xo, xt⟩ (c_Reader_isLetter l D cI x (by first | assumption | omega)) k_Reader_isLetter mw_Reader_122 ⟨Nat.le_of_ble_eq_true rfl, Nat.le_of_ble_eq_true rfl⟩ xK xP xD xS xA rfl xl.1 rfl (Nat.le_of_ble_eq_true rfl) d_Reader_isNameSign_1 ⟨Nat.zero_le _, Nat.zero_le _⟩ [] [] [] rfl rfl (by decide) (by decide) (by decide) (by decide) (fun _ => rfl) (fun z_2 u H locs hr_3 hw_1 xP xD xS => ?_)
  try dsimp only at hw_1
  have xP : va_P D classes [] H := xP
  have xD : va_D xA0 [] := xD
  rcases hw_1 with ⟨rfl, hb_4⟩ | ⟨rfl, hb_5⟩
  · refine tk_if_ne (tgt := 32) xe xb d_Reader_isNameSign_4 (by decide) (by omega) (fun c_6 => ?_) (fun c_6 => absurd c_6 (by omega))
    refine lv_iconst (v := iI (1)) xe xb d_Reader_isNameSign_32 rfl ?_
    refine lv_goto (tgt := 37) xe xb d_Reader_isNameSign_33 (by decide) ?_
    exact xret _ _ _ _ 1 () d_Reader_isNameSign_37 (by omega) (by omega) (by omega) xP xD xS
  · refine tk_if_ne (tgt := 32) xe xb d_Reader_isNameSign_4 (by decide) (by omega) (fun c_7 => absurd c_7 (by omega)) (fun c_7 => ?_)
    refine lv_iload_n xe xb d_Reader_isNameSign_7 rfl (lv_at xl 0 rfl) ?_
    refine tk_callSi (As := [.int (iI x)]) (rest := []) (wr := []) (wn := fun u => []) ⟨xe, xb, xml, xo, xt⟩ (c_Reader_isDigit l D cI x (by first | assumption | omega)) k_Reader_isDigit mw_Reader_125 ⟨Nat.le_of_ble_eq_true rfl, Nat.le_of_ble_eq_true rfl⟩ xK xP xD xS xA rfl xl.1 rfl (Nat.le_of_ble_eq_true rfl) d_Reader_isNameSign_8 ⟨Nat.zero_le _, Nat.zero_le _⟩ [] [] [] rfl rfl (by decide) (by decide) (by decide) (by decide) (fun _ => rfl) (fun z_9 u H locs hr_10 hw_8 xP xD xS => ?_)
    try dsimp only at hw_8
    have xP : va_P D classes [] H := xP
    have xD : va_D xA0 [] := xD
    rcases hw_8 with ⟨rfl, hb_11⟩ | ⟨rfl, hb_12⟩
    · refine tk_if_ne (tgt := 32) xe xb d_Reader_isNameSign_11 (by decide) (by omega) (fun c_13 => ?_) (fun c_13 => absurd c_13 (by omega))
      refine lv_iconst (v := iI (1)) xe xb d_Reader_isNameSign_32 rfl ?_
      refine lv_goto (tgt := 37) xe xb d_Reader_isNameSign_33 (by decide) ?_
      exact xret _ _ _ _ 1 () d_Reader_isNameSign_37 (by omega) (by omega) (by omega) xP xD xS
    · refine tk_if_ne (tgt := 32) xe xb d_Reader_isNameSign_11 (by decide) (by omega) (fun c_14 => absurd c_14 (by omega)) (fun c_14 => ?_)
      refine lv_iload_n xe xb d_Reader_isNameSign_14 rfl (lv_at xl 0 rfl) ?_
      refine lv_bipush (v := iI (95)) xe xb d_Reader_isNameSign_15 (by decide) ?_
      refine tk_icmp_eq (tgt := 32) xe xb d_Reader_isNameSign_17 (by decide) (by omega) (fun c_15 => ?_) (fun c_15 => ?_)
      · refine lv_iconst (v := iI (1)) xe xb d_Reader_isNameSign_32 rfl ?_
        refine lv_goto (tgt := 37) xe xb d_Reader_isNameSign_33 (by decide) ?_
        exact xret _ _ _ _ 1 () d_Reader_isNameSign_37 (by omega) (by omega) (by omega) xP xD xS
      · refine lv_iload_n xe xb d_Reader_isNameSign_20 rfl (lv_at xl 0 rfl) ?_
        refine lv_bipush (v := iI (45)) xe xb d_Reader_isNameSign_21 (by decide) ?_
        refine tk_icmp_eq (tgt := 32) xe xb d_Reader_isNameSign_23 (by decide) (by omega) (fun c_16 => ?_) (fun c_16 => ?_)
        · refine lv_iconst (v := iI (1)) xe xb d_Reader_isNameSign_32 rfl ?_
          refine lv_goto (tgt := 37) xe xb d_Reader_isNameSign_33 (by decide) ?_
          exact xret _ _ _ _ 1 () d_Reader_isNameSign_37 (by omega) (by omega) (by omega) xP xD xS
        · refine lv_iload_n xe xb d_Reader_isNameSign_26 rfl (lv_at xl 0 rfl) ?_
          refine lv_bipush (v := iI (46)) xe xb d_Reader_isNameSign_27 (by decide) ?_
          refine tk_icmp_ne (tgt := 36) xe xb d_Reader_isNameSign_29 (by decide) (by omega) (fun c_17 => ?_) (fun c_17 => ?_)
          · refine lv_iconst (v := iI (0)) xe xb d_Reader_isNameSign_36 rfl ?_
            exact xret _ _ _ _ 0 () d_Reader_isNameSign_37 (by omega) (by omega) (by omega) xP xD xS
          · refine lv_iconst (v := iI (1)) xe xb d_Reader_isNameSign_32 rfl ?_
            refine lv_goto (tgt := 37) xe xb d_Reader_isNameSign_33 (by decide) ?_
            exact xret _ _ _ _ 1 () d_Reader_isNameSign_37 (by omega) (by omega) (by omega) xP xD xS
set_option maxHeartbeats 4000000 in
set_option maxRecDepth 100000 in
theorem c_Reader_smallLetter (l : Launch) (D : va_G) (cI : ClassId) (x : Int) (hx0 : -2147483648 ≤ x ∧ x < 2147483648) : CtI l D [(cI, .int)] y_Reader_smallLetter b_Reader_smallLetter 1 (some .int) 0 [.int (iI x)] [] (S := Unit) (fun z u => z = lowL x) (fun u => []) := by
  refine CtI.walk (fun _ => True) (fun z _ => vp_nar_int _) (by decide) (Nat.le_of_ble_eq_true rfl) ?_
  intro xp xe0 xs xm xar xbelow xmeth xc xA0 xQ xe xb xml xo xt xP xK xD xA xret ls xl xS
  have xl : lv_has ls 1 [(0, .int (iI x))] := xl
  have xo : xs.vm.findClass R_Reader = some xm.cls := xo
  refine lv_iload_n xe xb d_Reader_smallLetter_0 rfl (lv_at xl 0 rfl) ?_
  refine lv_bipush (v := iI (65)) xe xb d_Reader_smallLetter_1 (by decide) ?_
  refine tk_icmp_lt (tgt := 19) xe xb d_Reader_smallLetter_3 (by decide) (by omega) (fun c_1 => ?_) (fun c_1 => ?_)
  · refine lv_iload_n xe xb d_Reader_smallLetter_19 rfl (lv_at xl 0 rfl) ?_
    exact xret _ _ _ _ x () d_Reader_smallLetter_20 trivial (by omega) (by unfold lowL; (repeat' split) <;> omega) xP xD xS
  · refine lv_iload_n xe xb d_Reader_smallLetter_6 rfl (lv_at xl 0 rfl) ?_
    refine lv_bipush (v := iI (90)) xe xb d_Reader_smallLetter_7 (by decide) ?_
    refine tk_icmp_gt (tgt := 19) xe xb d_Reader_smallLetter_9 (by decide) (by omega) (fun c_2 => ?_) (fun c_2 => ?_)
    · refine lv_iload_n xe xb d_Reader_smallLetter_19 rfl (lv_at xl 0 rfl) ?_
      exact xret _ _ _ _ x () d_Reader_smallLetter_20 trivial (by omega) (by unfold lowL; (repeat' split) <;> omega) xP xD xS
    · refine lv_iload_n xe xb d_Reader_smallLetter_12 rfl (lv_at xl 0 rfl) ?_
      refine lv_bipush (v := iI (32)) xe xb d_Reader_smallLetter_13 (by decide) ?_
      refine tk_iadd xe xb d_Reader_smallLetter_15 ?_
      refine lv_goto (tgt := 20) xe xb d_Reader_smallLetter_16 (by decide) ?_
      exact xret _ _ _ _ (x + 32) () d_Reader_smallLetter_20 trivial (by omega) (by unfold lowL; (repeat' split) <;> omega) xP xD xS
set_option maxHeartbeats 4000000 in
set_option maxRecDepth 100000 in
theorem c_Reader_hexDigit (l : Launch) (D : va_G) (cI : ClassId) (x : Int) (hx0 : -2147483648 ≤ x ∧ x < 2147483648) : CtI l D [(cI, .int)] y_Reader_hexDigit b_Reader_hexDigit 1 (some .int) 0 [.int (iI x)] [] (S := Unit) (fun z u => z = hexD x) (fun u => []) := by
  refine CtI.walk (fun _ => True) (fun z _ => vp_nar_int _) (by decide) (Nat.le_of_ble_eq_true rfl) ?_
  intro xp xe0 xs xm xar xbelow xmeth xc xA0 xQ xe xb xml xo xt xP xK xD xA xret ls xl xS
  have xl : lv_has ls 1 [(0, .int (iI x))] := xl
  have xo : xs.vm.findClass R_Reader = some xm.cls := xo
  refine lv_iload_n xe xb d_Reader_hexDigit_0 rfl (lv_at xl 0 rfl) ?_
  refine lv_bipush (v := iI (48)) xe xb d_Reader_hexDigit_1 (by decide) ?_
  refine tk_icmp_lt (tgt := 17) xe xb d_Reader_hexDigit_3 (by decide) (by omega) (fun c_1 => ?_) (fun c_1 => ?_)
  · refine lv_iload_n xe xb d_Reader_hexDigit_17 rfl (lv_at xl 0 rfl) ?_
    refine lv_bipush (v := iI (65)) xe xb d_Reader_hexDigit_18 (by decide) ?_
    refine tk_icmp_lt (tgt := 37) xe xb d_Reader_hexDigit_20 (by decide) (by omega) (fun c_2 => ?_) (fun c_2 => ?_)
    · refine lv_iload_n xe xb d_Reader_hexDigit_37 rfl (lv_at xl 0 rfl) ?_
      refine lv_bipush (v := iI (97)) xe xb d_Reader_hexDigit_38 (by decide) ?_
      refine tk_icmp_lt (tgt := 59) xe xb d_Reader_hexDigit_40 (by decide) (by omega) (fun c_3 => ?_) (fun c_3 => ?_)
      · refine lv_iconst (v := iI (-1)) xe xb d_Reader_hexDigit_59 rfl ?_
        exact xret _ _ _ _ (-1) () d_Reader_hexDigit_60 trivial (by omega) (by unfold hexD; (repeat' split) <;> omega) xP xD xS
      · refine lv_iload_n xe xb d_Reader_hexDigit_43 rfl (lv_at xl 0 rfl) ?_
        refine lv_bipush (v := iI (102)) xe xb d_Reader_hexDigit_44 (by decide) ?_
        refine tk_icmp_gt (tgt := 59) xe xb d_Reader_hexDigit_46 (by decide) (by omega) (fun c_4 => ?_) (fun c_4 => ?_)
        · refine lv_iconst (v := iI (-1)) xe xb d_Reader_hexDigit_59 rfl ?_
          exact xret _ _ _ _ (-1) () d_Reader_hexDigit_60 trivial (by omega) (by unfold hexD; (repeat' split) <;> omega) xP xD xS
        · refine lv_iload_n xe xb d_Reader_hexDigit_49 rfl (lv_at xl 0 rfl) ?_
          refine lv_bipush (v := iI (97)) xe xb d_Reader_hexDigit_50 (by decide) ?_
          refine tk_isub xe xb d_Reader_hexDigit_52 ?_
          refine lv_bipush (v := iI (10)) xe xb d_Reader_hexDigit_53 (by decide) ?_
          refine tk_iadd xe xb d_Reader_hexDigit_55 ?_
          refine lv_goto (tgt := 60) xe xb d_Reader_hexDigit_56 (by decide) ?_
          exact xret _ _ _ _ ((x - 97) + 10) () d_Reader_hexDigit_60 trivial (by omega) (by unfold hexD; (repeat' split) <;> omega) xP xD xS
    · refine lv_iload_n xe xb d_Reader_hexDigit_23 rfl (lv_at xl 0 rfl) ?_
      refine lv_bipush (v := iI (70)) xe xb d_Reader_hexDigit_24 (by decide) ?_
      refine tk_icmp_gt (tgt := 37) xe xb d_Reader_hexDigit_26 (by decide) (by omega) (fun c_5 => ?_) (fun c_5 => ?_)
      · refine lv_iload_n xe xb d_Reader_hexDigit_37 rfl (lv_at xl 0 rfl) ?_
        refine lv_bipush (v := iI (97)) xe xb d_Reader_hexDigit_38 (by decide) ?_
        refine tk_icmp_lt (tgt := 59) xe xb d_Reader_hexDigit_40 (by decide) (by omega) (fun c_6 => ?_) (fun c_6 => ?_)
        · refine lv_iconst (v := iI (-1)) xe xb d_Reader_hexDigit_59 rfl ?_
          exact xret _ _ _ _ (-1) () d_Reader_hexDigit_60 trivial (by omega) (by unfold hexD; (repeat' split) <;> omega) xP xD xS
        · refine lv_iload_n xe xb d_Reader_hexDigit_43 rfl (lv_at xl 0 rfl) ?_
          refine lv_bipush (v := iI (102)) xe xb d_Reader_hexDigit_44 (by decide) ?_
          refine tk_icmp_gt (tgt := 59) xe xb d_Reader_hexDigit_46 (by decide) (by omega) (fun c_7 => ?_) (fun c_7 => ?_)
          · refine lv_iconst (v := iI (-1)) xe xb d_Reader_hexDigit_59 rfl ?_
            exact xret _ _ _ _ (-1) () d_Reader_hexDigit_60 trivial (by omega) (by unfold hexD; (repeat' split) <;> omega) xP xD xS
          · refine lv_iload_n xe xb d_Reader_hexDigit_49 rfl (lv_at xl 0 rfl) ?_
            refine lv_bipush (v := iI (97)) xe xb d_Reader_hexDigit_50 (by decide) ?_
            refine tk_isub xe xb d_Reader_hexDigit_52 ?_
            refine lv_bipush (v := iI (10)) xe xb d_Reader_hexDigit_53 (by decide) ?_
            refine tk_iadd xe xb d_Reader_hexDigit_55 ?_
            refine lv_goto (tgt := 60) xe xb d_Reader_hexDigit_56 (by decide) ?_
            exact xret _ _ _ _ ((x - 97) + 10) () d_Reader_hexDigit_60 trivial (by omega) (by unfold hexD; (repeat' split) <;> omega) xP xD xS
      · refine lv_iload_n xe xb d_Reader_hexDigit_29 rfl (lv_at xl 0 rfl) ?_
        refine lv_bipush (v := iI (65)) xe xb d_Reader_hexDigit_30 (by decide) ?_
        refine tk_isub xe xb d_Reader_hexDigit_32 ?_
        refine lv_bipush (v := iI (10)) xe xb d_Reader_hexDigit_33 (by decide) ?_
        refine tk_iadd xe xb d_Reader_hexDigit_35 ?_
        exact xret _ _ _ _ ((x - 65) + 10) () d_Reader_hexDigit_36 trivial (by omega) (by unfold hexD; (repeat' split) <;> omega) xP xD xS
  · refine lv_iload_n xe xb d_Reader_hexDigit_6 rfl (lv_at xl 0 rfl) ?_
    refine lv_bipush (v := iI (57)) xe xb d_Reader_hexDigit_7 (by decide) ?_
    refine tk_icmp_gt (tgt := 17) xe xb d_Reader_hexDigit_9 (by decide) (by omega) (fun c_8 => ?_) (fun c_8 => ?_)
    · refine lv_iload_n xe xb d_Reader_hexDigit_17 rfl (lv_at xl 0 rfl) ?_
      refine lv_bipush (v := iI (65)) xe xb d_Reader_hexDigit_18 (by decide) ?_
      refine tk_icmp_lt (tgt := 37) xe xb d_Reader_hexDigit_20 (by decide) (by omega) (fun c_9 => ?_) (fun c_9 => ?_)
      · refine lv_iload_n xe xb d_Reader_hexDigit_37 rfl (lv_at xl 0 rfl) ?_
        refine lv_bipush (v := iI (97)) xe xb d_Reader_hexDigit_38 (by decide) ?_
        refine tk_icmp_lt (tgt := 59) xe xb d_Reader_hexDigit_40 (by decide) (by omega) (fun c_10 => ?_) (fun c_10 => ?_)
        · refine lv_iconst (v := iI (-1)) xe xb d_Reader_hexDigit_59 rfl ?_
          exact xret _ _ _ _ (-1) () d_Reader_hexDigit_60 trivial (by omega) (by unfold hexD; (repeat' split) <;> omega) xP xD xS
        · refine lv_iload_n xe xb d_Reader_hexDigit_43 rfl (lv_at xl 0 rfl) ?_
          refine lv_bipush (v := iI (102)) xe xb d_Reader_hexDigit_44 (by decide) ?_
          refine tk_icmp_gt (tgt := 59) xe xb d_Reader_hexDigit_46 (by decide) (by omega) (fun c_11 => ?_) (fun c_11 => ?_)
          · refine lv_iconst (v := iI (-1)) xe xb d_Reader_hexDigit_59 rfl ?_
            exact xret _ _ _ _ (-1) () d_Reader_hexDigit_60 trivial (by omega) (by unfold hexD; (repeat' split) <;> omega) xP xD xS
          · refine lv_iload_n xe xb d_Reader_hexDigit_49 rfl (lv_at xl 0 rfl) ?_
            refine lv_bipush (v := iI (97)) xe xb d_Reader_hexDigit_50 (by decide) ?_
            refine tk_isub xe xb d_Reader_hexDigit_52 ?_
            refine lv_bipush (v := iI (10)) xe xb d_Reader_hexDigit_53 (by decide) ?_
            refine tk_iadd xe xb d_Reader_hexDigit_55 ?_
            refine lv_goto (tgt := 60) xe xb d_Reader_hexDigit_56 (by decide) ?_
            exact xret _ _ _ _ ((x - 97) + 10) () d_Reader_hexDigit_60 trivial (by omega) (by unfold hexD; (repeat' split) <;> omega) xP xD xS
      · refine lv_iload_n xe xb d_Reader_hexDigit_23 rfl (lv_at xl 0 rfl) ?_
        refine lv_bipush (v := iI (70)) xe xb d_Reader_hexDigit_24 (by decide) ?_
        refine tk_icmp_gt (tgt := 37) xe xb d_Reader_hexDigit_26 (by decide) (by omega) (fun c_12 => ?_) (fun c_12 => ?_)
        · refine lv_iload_n xe xb d_Reader_hexDigit_37 rfl (lv_at xl 0 rfl) ?_
          refine lv_bipush (v := iI (97)) xe xb d_Reader_hexDigit_38 (by decide) ?_
          refine tk_icmp_lt (tgt := 59) xe xb d_Reader_hexDigit_40 (by decide) (by omega) (fun c_13 => ?_) (fun c_13 => ?_)
          · refine lv_iconst (v := iI (-1)) xe xb d_Reader_hexDigit_59 rfl ?_
            exact xret _ _ _ _ (-1) () d_Reader_hexDigit_60 trivial (by omega) (by unfold hexD; (repeat' split) <;> omega) xP xD xS
          · refine lv_iload_n xe xb d_Reader_hexDigit_43 rfl (lv_at xl 0 rfl) ?_
            refine lv_bipush (v := iI (102)) xe xb d_Reader_hexDigit_44 (by decide) ?_
            refine tk_icmp_gt (tgt := 59) xe xb d_Reader_hexDigit_46 (by decide) (by omega) (fun c_14 => ?_) (fun c_14 => ?_)
            · refine lv_iconst (v := iI (-1)) xe xb d_Reader_hexDigit_59 rfl ?_
              exact xret _ _ _ _ (-1) () d_Reader_hexDigit_60 trivial (by omega) (by unfold hexD; (repeat' split) <;> omega) xP xD xS
            · refine lv_iload_n xe xb d_Reader_hexDigit_49 rfl (lv_at xl 0 rfl) ?_
              refine lv_bipush (v := iI (97)) xe xb d_Reader_hexDigit_50 (by decide) ?_
              refine tk_isub xe xb d_Reader_hexDigit_52 ?_
              refine lv_bipush (v := iI (10)) xe xb d_Reader_hexDigit_53 (by decide) ?_
              refine tk_iadd xe xb d_Reader_hexDigit_55 ?_
              refine lv_goto (tgt := 60) xe xb d_Reader_hexDigit_56 (by decide) ?_
              exact xret _ _ _ _ ((x - 97) + 10) () d_Reader_hexDigit_60 trivial (by omega) (by unfold hexD; (repeat' split) <;> omega) xP xD xS
        · refine lv_iload_n xe xb d_Reader_hexDigit_29 rfl (lv_at xl 0 rfl) ?_
          refine lv_bipush (v := iI (65)) xe xb d_Reader_hexDigit_30 (by decide) ?_
          refine tk_isub xe xb d_Reader_hexDigit_32 ?_
          refine lv_bipush (v := iI (10)) xe xb d_Reader_hexDigit_33 (by decide) ?_
          refine tk_iadd xe xb d_Reader_hexDigit_35 ?_
          exact xret _ _ _ _ ((x - 65) + 10) () d_Reader_hexDigit_36 trivial (by omega) (by unfold hexD; (repeat' split) <;> omega) xP xD xS
    · refine lv_iload_n xe xb d_Reader_hexDigit_12 rfl (lv_at xl 0 rfl) ?_
      refine lv_bipush (v := iI (48)) xe xb d_Reader_hexDigit_13 (by decide) ?_
      refine tk_isub xe xb d_Reader_hexDigit_15 ?_
      exact xret _ _ _ _ (x - 48) () d_Reader_hexDigit_16 trivial (by omega) (by unfold hexD; (repeat' split) <;> omega) xP xD xS
set_option maxHeartbeats 4000000 in
set_option maxRecDepth 100000 in
theorem c_Reader_signCode (l : Launch) (D : va_G) (cI : ClassId) (x : Int) (hx0 : -2147483648 ≤ x ∧ x < 2147483648) : CtI l D [(cI, .int)] y_Reader_signCode b_Reader_signCode 1 (some .int) 0 [.int (iI x)] [] (S := Unit) (fun z u => z = sgn x) (fun u => []) := by
  refine CtI.walk (fun _ => True) (fun z _ => vp_nar_int _) (by decide) (Nat.le_of_ble_eq_true rfl) ?_
  intro xp xe0 xs xm xar xbelow xmeth xc xA0 xQ xe xb xml xo xt xP xK xD xA xret ls xl xS
  have xl : lv_has ls 1 [(0, .int (iI x))] := xl
  have xo : xs.vm.findClass R_Reader = some xm.cls := xo
  refine lv_iload_n xe xb d_Reader_signCode_0 rfl (lv_at xl 0 rfl) ?_
  by_cases c_1 : x = 34
  · refine tk_look (off := 90) (tgt := 91) xe xb d_Reader_signCode_1 (by decide) (by omega) 34 c_1 rfl (by decide) ?_
    refine lv_iload_n xe xb d_Reader_signCode_91 rfl (lv_at xl 0 rfl) ?_
    exact xret _ _ _ _ x () d_Reader_signCode_92 trivial (by omega) (by unfold sgn; (repeat' split) <;> omega) xP xD xS
  by_cases c_2 : x = 39
  · refine tk_look (off := 90) (tgt := 91) xe xb d_Reader_signCode_1 (by decide) (by omega) 39 c_2 rfl (by decide) ?_
    refine lv_iload_n xe xb d_Reader_signCode_91 rfl (lv_at xl 0 rfl) ?_
    exact xret _ _ _ _ x () d_Reader_signCode_92 trivial (by omega) (by unfold sgn; (repeat' split) <;> omega) xP xD xS
  by_cases c_3 : x = 92
  · refine tk_look (off := 90) (tgt := 91) xe xb d_Reader_signCode_1 (by decide) (by omega) 92 c_3 rfl (by decide) ?_
    refine lv_iload_n xe xb d_Reader_signCode_91 rfl (lv_at xl 0 rfl) ?_
    exact xret _ _ _ _ x () d_Reader_signCode_92 trivial (by omega) (by unfold sgn; (repeat' split) <;> omega) xP xD xS
  by_cases c_4 : x = 98
  · refine tk_look (off := 78) (tgt := 79) xe xb d_Reader_signCode_1 (by decide) (by omega) 98 c_4 rfl (by decide) ?_
    refine lv_bipush (v := iI (8)) xe xb d_Reader_signCode_79 (by decide) ?_
    exact xret _ _ _ _ 8 () d_Reader_signCode_81 trivial (by omega) (by unfold sgn; (repeat' split) <;> omega) xP xD xS
  by_cases c_5 : x = 102
  · refine tk_look (off := 87) (tgt := 88) xe xb d_Reader_signCode_1 (by decide) (by omega) 102 c_5 rfl (by decide) ?_
    refine lv_bipush (v := iI (12)) xe xb d_Reader_signCode_88 (by decide) ?_
    exact xret _ _ _ _ 12 () d_Reader_signCode_90 trivial (by omega) (by unfold sgn; (repeat' split) <;> omega) xP xD xS
  by_cases c_6 : x = 110
  · refine tk_look (off := 81) (tgt := 82) xe xb d_Reader_signCode_1 (by decide) (by omega) 110 c_6 rfl (by decide) ?_
    refine lv_bipush (v := iI (10)) xe xb d_Reader_signCode_82 (by decide) ?_
    exact xret _ _ _ _ 10 () d_Reader_signCode_84 trivial (by omega) (by unfold sgn; (repeat' split) <;> omega) xP xD xS
  by_cases c_7 : x = 114
  · refine tk_look (off := 84) (tgt := 85) xe xb d_Reader_signCode_1 (by decide) (by omega) 114 c_7 rfl (by decide) ?_
    refine lv_bipush (v := iI (13)) xe xb d_Reader_signCode_85 (by decide) ?_
    exact xret _ _ _ _ 13 () d_Reader_signCode_87 trivial (by omega) (by unfold sgn; (repeat' split) <;> omega) xP xD xS
  by_cases c_8 : x = 116
  · refine tk_look (off := 75) (tgt := 76) xe xb d_Reader_signCode_1 (by decide) (by omega) 116 c_8 rfl (by decide) ?_
    refine lv_bipush (v := iI (9)) xe xb d_Reader_signCode_76 (by decide) ?_
    exact xret _ _ _ _ 9 () d_Reader_signCode_78 trivial (by omega) (by unfold sgn; (repeat' split) <;> omega) xP xD xS
  refine tk_look (off := 92) (tgt := 93) xe xb d_Reader_signCode_1 (by decide) (by omega) x rfl ((tk_osw c_1).trans ((tk_osw c_2).trans ((tk_osw c_3).trans ((tk_osw c_4).trans ((tk_osw c_5).trans ((tk_osw c_6).trans ((tk_osw c_7).trans ((tk_osw c_8).trans rfl)))))))) (by decide) ?_
  refine lv_iconst (v := iI (-1)) xe xb d_Reader_signCode_93 rfl ?_
  exact xret _ _ _ _ (-1) () d_Reader_signCode_94 trivial (by omega) (by unfold sgn; (repeat' split) <;> omega) xP xD xS
set_option maxHeartbeats 4000000 in
set_option maxRecDepth 100000 in
theorem c_Reader_isCode (l : Launch) (D : va_G) (cI : ClassId) (x : Int) (hx0 : -9223372036854775808 ≤ x ∧ x < 9223372036854775808) : CtI l D [(cI, .int)] y_Reader_isCode b_Reader_isCode 2 (some .boolean) 0 [.long (jI x)] [] (S := Unit) (fun z u => (z = 1 ∧ (isC x)) ∨ (z = 0 ∧ ¬ (isC x))) (fun u => []) := by
  refine CtI.walk (fun z => z = 0 ∨ z = 1) (fun z hz => by rcases hz with rfl | rfl <;> decide) (by decide) (Nat.le_of_ble_eq_true rfl) ?_
  intro xp xe0 xs xm xar xbelow xmeth xc xA0 xQ xe xb xml xo xt xP xK xD xA xret ls xl xS
  have xl : lv_has ls 2 [(0, .long (jI x))] := xl
  have xo : xs.vm.findClass R_Reader = some xm.cls := xo
  refine lv_lload_n xe xb d_Reader_isCode_0 rfl (lv_at xl 0 rfl) ?_
  refine lv_lconst (v := jI 0) xe xb d_Reader_isCode_1 (by decide) ?_
  refine tk_lcmp xe xb d_Reader_isCode_2 (by omega) (fun c_1 => ?_) (fun c_1 => ?_) (fun c_1 => ?_)
  · refine tk_if_lt (tgt := 34) xe xb d_Reader_isCode_3 (by decide) (by omega) (fun c_2 => absurd c_2 (by omega)) (fun c_2 => ?_)
    refine lv_lload_n xe xb d_Reader_isCode_6 rfl (lv_at xl 0 rfl) ?_
    refine lv_ldc2 (v := jI 1114111) xe xb xo (by have h9 := xt _ mw_Reader_156; exact h9) d_Reader_isCode_7 ?_
    refine tk_lcmp xe xb d_Reader_isCode_10 (by omega) (fun c_3 => ?_) (fun c_3 => ?_) (fun c_3 => ?_)
    · refine tk_if_gt (tgt := 34) xe xb d_Reader_isCode_11 (by decide) (by omega) (fun c_4 => ?_) (fun c_4 => absurd c_4 (by omega))
      refine lv_iconst (v := iI (0)) xe xb d_Reader_isCode_34 rfl ?_
      exact xret _ _ _ _ 0 () d_Reader_isCode_35 (by omega) (by omega) (by omega) xP xD xS
    · refine tk_if_gt (tgt := 34) xe xb d_Reader_isCode_11 (by decide) (by omega) (fun c_5 => absurd c_5 (by omega)) (fun c_5 => ?_)
      refine lv_lload_n xe xb d_Reader_isCode_14 rfl (lv_at xl 0 rfl) ?_
      refine lv_ldc2 (v := jI 55296) xe xb xo (by have h9 := xt _ mw_Reader_158; exact h9) d_Reader_isCode_15 ?_
      refine tk_lcmp xe xb d_Reader_isCode_18 (by omega) (fun c_6 => ?_) (fun c_6 => ?_) (fun c_6 => ?_)
      · refine tk_if_lt (tgt := 30) xe xb d_Reader_isCode_19 (by decide) (by omega) (fun c_7 => absurd c_7 (by omega)) (fun c_7 => ?_)
        refine lv_lload_n xe xb d_Reader_isCode_22 rfl (lv_at xl 0 rfl) ?_
        refine lv_ldc2 (v := jI 57343) xe xb xo (by have h9 := xt _ mw_Reader_160; exact h9) d_Reader_isCode_23 ?_
        refine tk_lcmp xe xb d_Reader_isCode_26 (by omega) (fun c_8 => ?_) (fun c_8 => ?_) (fun c_8 => ?_)
        · refine tk_if_le (tgt := 34) xe xb d_Reader_isCode_27 (by decide) (by omega) (fun c_9 => absurd c_9 (by omega)) (fun c_9 => ?_)
          refine lv_iconst (v := iI (1)) xe xb d_Reader_isCode_30 rfl ?_
          refine lv_goto (tgt := 35) xe xb d_Reader_isCode_31 (by decide) ?_
          exact xret _ _ _ _ 1 () d_Reader_isCode_35 (by omega) (by omega) (by omega) xP xD xS
        · refine tk_if_le (tgt := 34) xe xb d_Reader_isCode_27 (by decide) (by omega) (fun c_10 => ?_) (fun c_10 => absurd c_10 (by omega))
          refine lv_iconst (v := iI (0)) xe xb d_Reader_isCode_34 rfl ?_
          exact xret _ _ _ _ 0 () d_Reader_isCode_35 (by omega) (by omega) (by omega) xP xD xS
        · refine tk_if_le (tgt := 34) xe xb d_Reader_isCode_27 (by decide) (by omega) (fun c_11 => ?_) (fun c_11 => absurd c_11 (by omega))
          refine lv_iconst (v := iI (0)) xe xb d_Reader_isCode_34 rfl ?_
          exact xret _ _ _ _ 0 () d_Reader_isCode_35 (by omega) (by omega) (by omega) xP xD xS
      · refine tk_if_lt (tgt := 30) xe xb d_Reader_isCode_19 (by decide) (by omega) (fun c_12 => absurd c_12 (by omega)) (fun c_12 => ?_)
        refine lv_lload_n xe xb d_Reader_isCode_22 rfl (lv_at xl 0 rfl) ?_
        refine lv_ldc2 (v := jI 57343) xe xb xo (by have h9 := xt _ mw_Reader_160; exact h9) d_Reader_isCode_23 ?_
        refine tk_lcmp xe xb d_Reader_isCode_26 (by omega) (fun c_13 => ?_) (fun c_13 => ?_) (fun c_13 => ?_)
        · refine tk_if_le (tgt := 34) xe xb d_Reader_isCode_27 (by decide) (by omega) (fun c_14 => absurd c_14 (by omega)) (fun c_14 => ?_)
          refine lv_iconst (v := iI (1)) xe xb d_Reader_isCode_30 rfl ?_
          refine lv_goto (tgt := 35) xe xb d_Reader_isCode_31 (by decide) ?_
          exact xret _ _ _ _ 1 () d_Reader_isCode_35 (by omega) (by omega) (by omega) xP xD xS
        · refine tk_if_le (tgt := 34) xe xb d_Reader_isCode_27 (by decide) (by omega) (fun c_15 => ?_) (fun c_15 => absurd c_15 (by omega))
          refine lv_iconst (v := iI (0)) xe xb d_Reader_isCode_34 rfl ?_
          exact xret _ _ _ _ 0 () d_Reader_isCode_35 (by omega) (by omega) (by omega) xP xD xS
        · refine tk_if_le (tgt := 34) xe xb d_Reader_isCode_27 (by decide) (by omega) (fun c_16 => ?_) (fun c_16 => absurd c_16 (by omega))
          refine lv_iconst (v := iI (0)) xe xb d_Reader_isCode_34 rfl ?_
          exact xret _ _ _ _ 0 () d_Reader_isCode_35 (by omega) (by omega) (by omega) xP xD xS
      · refine tk_if_lt (tgt := 30) xe xb d_Reader_isCode_19 (by decide) (by omega) (fun c_17 => ?_) (fun c_17 => absurd c_17 (by omega))
        refine lv_iconst (v := iI (1)) xe xb d_Reader_isCode_30 rfl ?_
        refine lv_goto (tgt := 35) xe xb d_Reader_isCode_31 (by decide) ?_
        exact xret _ _ _ _ 1 () d_Reader_isCode_35 (by omega) (by omega) (by omega) xP xD xS
    · refine tk_if_gt (tgt := 34) xe xb d_Reader_isCode_11 (by decide) (by omega) (fun c_18 => absurd c_18 (by omega)) (fun c_18 => ?_)
      refine lv_lload_n xe xb d_Reader_isCode_14 rfl (lv_at xl 0 rfl) ?_
      refine lv_ldc2 (v := jI 55296) xe xb xo (by have h9 := xt _ mw_Reader_158; exact h9) d_Reader_isCode_15 ?_
      refine tk_lcmp xe xb d_Reader_isCode_18 (by omega) (fun c_19 => ?_) (fun c_19 => ?_) (fun c_19 => ?_)
      · refine tk_if_lt (tgt := 30) xe xb d_Reader_isCode_19 (by decide) (by omega) (fun c_20 => absurd c_20 (by omega)) (fun c_20 => ?_)
        refine lv_lload_n xe xb d_Reader_isCode_22 rfl (lv_at xl 0 rfl) ?_
        refine lv_ldc2 (v := jI 57343) xe xb xo (by have h9 := xt _ mw_Reader_160; exact h9) d_Reader_isCode_23 ?_
        refine tk_lcmp xe xb d_Reader_isCode_26 (by omega) (fun c_21 => ?_) (fun c_21 => ?_) (fun c_21 => ?_)
        · refine tk_if_le (tgt := 34) xe xb d_Reader_isCode_27 (by decide) (by omega) (fun c_22 => absurd c_22 (by omega)) (fun c_22 => ?_)
          refine lv_iconst (v := iI (1)) xe xb d_Reader_isCode_30 rfl ?_
          refine lv_goto (tgt := 35) xe xb d_Reader_isCode_31 (by decide) ?_
          exact xret _ _ _ _ 1 () d_Reader_isCode_35 (by omega) (by omega) (by omega) xP xD xS
        · refine tk_if_le (tgt := 34) xe xb d_Reader_isCode_27 (by decide) (by omega) (fun c_23 => ?_) (fun c_23 => absurd c_23 (by omega))
          refine lv_iconst (v := iI (0)) xe xb d_Reader_isCode_34 rfl ?_
          exact xret _ _ _ _ 0 () d_Reader_isCode_35 (by omega) (by omega) (by omega) xP xD xS
        · refine tk_if_le (tgt := 34) xe xb d_Reader_isCode_27 (by decide) (by omega) (fun c_24 => ?_) (fun c_24 => absurd c_24 (by omega))
          refine lv_iconst (v := iI (0)) xe xb d_Reader_isCode_34 rfl ?_
          exact xret _ _ _ _ 0 () d_Reader_isCode_35 (by omega) (by omega) (by omega) xP xD xS
      · refine tk_if_lt (tgt := 30) xe xb d_Reader_isCode_19 (by decide) (by omega) (fun c_25 => absurd c_25 (by omega)) (fun c_25 => ?_)
        refine lv_lload_n xe xb d_Reader_isCode_22 rfl (lv_at xl 0 rfl) ?_
        refine lv_ldc2 (v := jI 57343) xe xb xo (by have h9 := xt _ mw_Reader_160; exact h9) d_Reader_isCode_23 ?_
        refine tk_lcmp xe xb d_Reader_isCode_26 (by omega) (fun c_26 => ?_) (fun c_26 => ?_) (fun c_26 => ?_)
        · refine tk_if_le (tgt := 34) xe xb d_Reader_isCode_27 (by decide) (by omega) (fun c_27 => absurd c_27 (by omega)) (fun c_27 => ?_)
          refine lv_iconst (v := iI (1)) xe xb d_Reader_isCode_30 rfl ?_
          refine lv_goto (tgt := 35) xe xb d_Reader_isCode_31 (by decide) ?_
          exact xret _ _ _ _ 1 () d_Reader_isCode_35 (by omega) (by omega) (by omega) xP xD xS
        · refine tk_if_le (tgt := 34) xe xb d_Reader_isCode_27 (by decide) (by omega) (fun c_28 => ?_) (fun c_28 => absurd c_28 (by omega))
          refine lv_iconst (v := iI (0)) xe xb d_Reader_isCode_34 rfl ?_
          exact xret _ _ _ _ 0 () d_Reader_isCode_35 (by omega) (by omega) (by omega) xP xD xS
        · refine tk_if_le (tgt := 34) xe xb d_Reader_isCode_27 (by decide) (by omega) (fun c_29 => ?_) (fun c_29 => absurd c_29 (by omega))
          refine lv_iconst (v := iI (0)) xe xb d_Reader_isCode_34 rfl ?_
          exact xret _ _ _ _ 0 () d_Reader_isCode_35 (by omega) (by omega) (by omega) xP xD xS
      · refine tk_if_lt (tgt := 30) xe xb d_Reader_isCode_19 (by decide) (by omega) (fun c_30 => ?_) (fun c_30 => absurd c_30 (by omega))
        refine lv_iconst (v := iI (1)) xe xb d_Reader_isCode_30 rfl ?_
        refine lv_goto (tgt := 35) xe xb d_Reader_isCode_31 (by decide) ?_
        exact xret _ _ _ _ 1 () d_Reader_isCode_35 (by omega) (by omega) (by omega) xP xD xS
  · refine tk_if_lt (tgt := 34) xe xb d_Reader_isCode_3 (by decide) (by omega) (fun c_31 => absurd c_31 (by omega)) (fun c_31 => ?_)
    refine lv_lload_n xe xb d_Reader_isCode_6 rfl (lv_at xl 0 rfl) ?_
    refine lv_ldc2 (v := jI 1114111) xe xb xo (by have h9 := xt _ mw_Reader_156; exact h9) d_Reader_isCode_7 ?_
    refine tk_lcmp xe xb d_Reader_isCode_10 (by omega) (fun c_32 => ?_) (fun c_32 => ?_) (fun c_32 => ?_)
    · refine tk_if_gt (tgt := 34) xe xb d_Reader_isCode_11 (by decide) (by omega) (fun c_33 => ?_) (fun c_33 => absurd c_33 (by omega))
      refine lv_iconst (v := iI (0)) xe xb d_Reader_isCode_34 rfl ?_
      exact xret _ _ _ _ 0 () d_Reader_isCode_35 (by omega) (by omega) (by omega) xP xD xS
    · refine tk_if_gt (tgt := 34) xe xb d_Reader_isCode_11 (by decide) (by omega) (fun c_34 => absurd c_34 (by omega)) (fun c_34 => ?_)
      refine lv_lload_n xe xb d_Reader_isCode_14 rfl (lv_at xl 0 rfl) ?_
      refine lv_ldc2 (v := jI 55296) xe xb xo (by have h9 := xt _ mw_Reader_158; exact h9) d_Reader_isCode_15 ?_
      refine tk_lcmp xe xb d_Reader_isCode_18 (by omega) (fun c_35 => ?_) (fun c_35 => ?_) (fun c_35 => ?_)
      · refine tk_if_lt (tgt := 30) xe xb d_Reader_isCode_19 (by decide) (by omega) (fun c_36 => absurd c_36 (by omega)) (fun c_36 => ?_)
        refine lv_lload_n xe xb d_Reader_isCode_22 rfl (lv_at xl 0 rfl) ?_
        refine lv_ldc2 (v := jI 57343) xe xb xo (by have h9 := xt _ mw_Reader_160; exact h9) d_Reader_isCode_23 ?_
        refine tk_lcmp xe xb d_Reader_isCode_26 (by omega) (fun c_37 => ?_) (fun c_37 => ?_) (fun c_37 => ?_)
        · refine tk_if_le (tgt := 34) xe xb d_Reader_isCode_27 (by decide) (by omega) (fun c_38 => absurd c_38 (by omega)) (fun c_38 => ?_)
          refine lv_iconst (v := iI (1)) xe xb d_Reader_isCode_30 rfl ?_
          refine lv_goto (tgt := 35) xe xb d_Reader_isCode_31 (by decide) ?_
          exact xret _ _ _ _ 1 () d_Reader_isCode_35 (by omega) (by omega) (by omega) xP xD xS
        · refine tk_if_le (tgt := 34) xe xb d_Reader_isCode_27 (by decide) (by omega) (fun c_39 => ?_) (fun c_39 => absurd c_39 (by omega))
          refine lv_iconst (v := iI (0)) xe xb d_Reader_isCode_34 rfl ?_
          exact xret _ _ _ _ 0 () d_Reader_isCode_35 (by omega) (by omega) (by omega) xP xD xS
        · refine tk_if_le (tgt := 34) xe xb d_Reader_isCode_27 (by decide) (by omega) (fun c_40 => ?_) (fun c_40 => absurd c_40 (by omega))
          refine lv_iconst (v := iI (0)) xe xb d_Reader_isCode_34 rfl ?_
          exact xret _ _ _ _ 0 () d_Reader_isCode_35 (by omega) (by omega) (by omega) xP xD xS
      · refine tk_if_lt (tgt := 30) xe xb d_Reader_isCode_19 (by decide) (by omega) (fun c_41 => absurd c_41 (by omega)) (fun c_41 => ?_)
        refine lv_lload_n xe xb d_Reader_isCode_22 rfl (lv_at xl 0 rfl) ?_
        refine lv_ldc2 (v := jI 57343) xe xb xo (by have h9 := xt _ mw_Reader_160; exact h9) d_Reader_isCode_23 ?_
        refine tk_lcmp xe xb d_Reader_isCode_26 (by omega) (fun c_42 => ?_) (fun c_42 => ?_) (fun c_42 => ?_)
        · refine tk_if_le (tgt := 34) xe xb d_Reader_isCode_27 (by decide) (by omega) (fun c_43 => absurd c_43 (by omega)) (fun c_43 => ?_)
          refine lv_iconst (v := iI (1)) xe xb d_Reader_isCode_30 rfl ?_
          refine lv_goto (tgt := 35) xe xb d_Reader_isCode_31 (by decide) ?_
          exact xret _ _ _ _ 1 () d_Reader_isCode_35 (by omega) (by omega) (by omega) xP xD xS
        · refine tk_if_le (tgt := 34) xe xb d_Reader_isCode_27 (by decide) (by omega) (fun c_44 => ?_) (fun c_44 => absurd c_44 (by omega))
          refine lv_iconst (v := iI (0)) xe xb d_Reader_isCode_34 rfl ?_
          exact xret _ _ _ _ 0 () d_Reader_isCode_35 (by omega) (by omega) (by omega) xP xD xS
        · refine tk_if_le (tgt := 34) xe xb d_Reader_isCode_27 (by decide) (by omega) (fun c_45 => ?_) (fun c_45 => absurd c_45 (by omega))
          refine lv_iconst (v := iI (0)) xe xb d_Reader_isCode_34 rfl ?_
          exact xret _ _ _ _ 0 () d_Reader_isCode_35 (by omega) (by omega) (by omega) xP xD xS
      · refine tk_if_lt (tgt := 30) xe xb d_Reader_isCode_19 (by decide) (by omega) (fun c_46 => ?_) (fun c_46 => absurd c_46 (by omega))
        refine lv_iconst (v := iI (1)) xe xb d_Reader_isCode_30 rfl ?_
        refine lv_goto (tgt := 35) xe xb d_Reader_isCode_31 (by decide) ?_
        exact xret _ _ _ _ 1 () d_Reader_isCode_35 (by omega) (by omega) (by omega) xP xD xS
    · refine tk_if_gt (tgt := 34) xe xb d_Reader_isCode_11 (by decide) (by omega) (fun c_47 => absurd c_47 (by omega)) (fun c_47 => ?_)
      refine lv_lload_n xe xb d_Reader_isCode_14 rfl (lv_at xl 0 rfl) ?_
      refine lv_ldc2 (v := jI 55296) xe xb xo (by have h9 := xt _ mw_Reader_158; exact h9) d_Reader_isCode_15 ?_
      refine tk_lcmp xe xb d_Reader_isCode_18 (by omega) (fun c_48 => ?_) (fun c_48 => ?_) (fun c_48 => ?_)
      · refine tk_if_lt (tgt := 30) xe xb d_Reader_isCode_19 (by decide) (by omega) (fun c_49 => absurd c_49 (by omega)) (fun c_49 => ?_)
        refine lv_lload_n xe xb d_Reader_isCode_22 rfl (lv_at xl 0 rfl) ?_
        refine lv_ldc2 (v := jI 57343) xe xb xo (by have h9 := xt _ mw_Reader_160; exact h9) d_Reader_isCode_23 ?_
        refine tk_lcmp xe xb d_Reader_isCode_26 (by omega) (fun c_50 => ?_) (fun c_50 => ?_) (fun c_50 => ?_)
        · refine tk_if_le (tgt := 34) xe xb d_Reader_isCode_27 (by decide) (by omega) (fun c_51 => absurd c_51 (by omega)) (fun c_51 => ?_)
          refine lv_iconst (v := iI (1)) xe xb d_Reader_isCode_30 rfl ?_
          refine lv_goto (tgt := 35) xe xb d_Reader_isCode_31 (by decide) ?_
          exact xret _ _ _ _ 1 () d_Reader_isCode_35 (by omega) (by omega) (by omega) xP xD xS
        · refine tk_if_le (tgt := 34) xe xb d_Reader_isCode_27 (by decide) (by omega) (fun c_52 => ?_) (fun c_52 => absurd c_52 (by omega))
          refine lv_iconst (v := iI (0)) xe xb d_Reader_isCode_34 rfl ?_
          exact xret _ _ _ _ 0 () d_Reader_isCode_35 (by omega) (by omega) (by omega) xP xD xS
        · refine tk_if_le (tgt := 34) xe xb d_Reader_isCode_27 (by decide) (by omega) (fun c_53 => ?_) (fun c_53 => absurd c_53 (by omega))
          refine lv_iconst (v := iI (0)) xe xb d_Reader_isCode_34 rfl ?_
          exact xret _ _ _ _ 0 () d_Reader_isCode_35 (by omega) (by omega) (by omega) xP xD xS
      · refine tk_if_lt (tgt := 30) xe xb d_Reader_isCode_19 (by decide) (by omega) (fun c_54 => absurd c_54 (by omega)) (fun c_54 => ?_)
        refine lv_lload_n xe xb d_Reader_isCode_22 rfl (lv_at xl 0 rfl) ?_
        refine lv_ldc2 (v := jI 57343) xe xb xo (by have h9 := xt _ mw_Reader_160; exact h9) d_Reader_isCode_23 ?_
        refine tk_lcmp xe xb d_Reader_isCode_26 (by omega) (fun c_55 => ?_) (fun c_55 => ?_) (fun c_55 => ?_)
        · refine tk_if_le (tgt := 34) xe xb d_Reader_isCode_27 (by decide) (by omega) (fun c_56 => absurd c_56 (by omega)) (fun c_56 => ?_)
          refine lv_iconst (v := iI (1)) xe xb d_Reader_isCode_30 rfl ?_
          refine lv_goto (tgt := 35) xe xb d_Reader_isCode_31 (by decide) ?_
          exact xret _ _ _ _ 1 () d_Reader_isCode_35 (by omega) (by omega) (by omega) xP xD xS
        · refine tk_if_le (tgt := 34) xe xb d_Reader_isCode_27 (by decide) (by omega) (fun c_57 => ?_) (fun c_57 => absurd c_57 (by omega))
          refine lv_iconst (v := iI (0)) xe xb d_Reader_isCode_34 rfl ?_
          exact xret _ _ _ _ 0 () d_Reader_isCode_35 (by omega) (by omega) (by omega) xP xD xS
        · refine tk_if_le (tgt := 34) xe xb d_Reader_isCode_27 (by decide) (by omega) (fun c_58 => ?_) (fun c_58 => absurd c_58 (by omega))
          refine lv_iconst (v := iI (0)) xe xb d_Reader_isCode_34 rfl ?_
          exact xret _ _ _ _ 0 () d_Reader_isCode_35 (by omega) (by omega) (by omega) xP xD xS
      · refine tk_if_lt (tgt := 30) xe xb d_Reader_isCode_19 (by decide) (by omega) (fun c_59 => ?_) (fun c_59 => absurd c_59 (by omega))
        refine lv_iconst (v := iI (1)) xe xb d_Reader_isCode_30 rfl ?_
        refine lv_goto (tgt := 35) xe xb d_Reader_isCode_31 (by decide) ?_
        exact xret _ _ _ _ 1 () d_Reader_isCode_35 (by omega) (by omega) (by omega) xP xD xS
  · refine tk_if_lt (tgt := 34) xe xb d_Reader_isCode_3 (by decide) (by omega) (fun c_60 => ?_) (fun c_60 => absurd c_60 (by omega))
    refine lv_iconst (v := iI (0)) xe xb d_Reader_isCode_34 rfl ?_
    exact xret _ _ _ _ 0 () d_Reader_isCode_35 (by omega) (by omega) (by omega) xP xD xS
set_option maxHeartbeats 4000000 in
set_option maxRecDepth 100000 in
theorem c_Reader_isLiteralCode (l : Launch) (D : va_G) (cI : ClassId) (x : Int) (r : Int) (hx0 : -2147483648 ≤ x ∧ x < 2147483648) (hr0 : r = 0 ∨ r = 1) : CtI l D [(cI, .int)] y_Reader_isLiteralCode b_Reader_isLiteralCode 2 (some .boolean) 0 [.int (iI x), .int (iI r)] [] (S := Unit) (fun z u => (z = 1 ∧ ((r = 1 ∧ (x = 9 ∨ (32 ≤ x ∧ x ≤ 126))) ∨ (r = 0 ∧ x ≠ -1))) ∨ (z = 0 ∧ ¬ ((r = 1 ∧ (x = 9 ∨ (32 ≤ x ∧ x ≤ 126))) ∨ (r = 0 ∧ x ≠ -1)))) (fun u => []) := by
  refine CtI.walk (fun z => z = 0 ∨ z = 1) (fun z hz => by rcases hz with rfl | rfl <;> decide) (by decide) (Nat.le_of_ble_eq_true rfl) ?_
  intro xp xe0 xs xm xar xbelow xmeth xc xA0 xQ xe xb xml xo xt xP xK xD xA xret ls xl xS
  have xl : lv_has ls 2 [(0, .int (iI x)), (1, .int (iI r))] := xl
  have xo : xs.vm.findClass R_Reader = some xm.cls := xo
  refine lv_iload_n xe xb d_Reader_isLiteralCode_0 rfl (lv_at xl 1 rfl) ?_
  refine tk_if_eq (tgt := 30) xe xb d_Reader_isLiteralCode_1 (by decide) (by omega) (fun c_1 => ?_) (fun c_1 => ?_)
  · refine lv_iload_n xe xb d_Reader_isLiteralCode_30 rfl (lv_at xl 0 rfl) ?_
    refine lv_iconst (v := iI (-1)) xe xb d_Reader_isLiteralCode_31 rfl ?_
    refine tk_icmp_eq (tgt := 39) xe xb d_Reader_isLiteralCode_32 (by decide) (by omega) (fun c_2 => ?_) (fun c_2 => ?_)
    · refine lv_iconst (v := iI (0)) xe xb d_Reader_isLiteralCode_39 rfl ?_
      exact xret _ _ _ _ 0 () d_Reader_isLiteralCode_40 (by omega) (by omega) (by omega) xP xD xS
    · refine lv_iconst (v := iI (1)) xe xb d_Reader_isLiteralCode_35 rfl ?_
      refine lv_goto (tgt := 40) xe xb d_Reader_isLiteralCode_36 (by decide) ?_
      exact xret _ _ _ _ 1 () d_Reader_isLiteralCode_40 (by omega) (by omega) (by omega) xP xD xS
  · refine lv_iload_n xe xb d_Reader_isLiteralCode_4 rfl (lv_at xl 0 rfl) ?_
    refine lv_bipush (v := iI (9)) xe xb d_Reader_isLiteralCode_5 (by decide) ?_
    refine tk_icmp_eq (tgt := 22) xe xb d_Reader_isLiteralCode_7 (by decide) (by omega) (fun c_3 => ?_) (fun c_3 => ?_)
    · refine lv_iconst (v := iI (1)) xe xb d_Reader_isLiteralCode_22 rfl ?_
      refine lv_goto (tgt := 40) xe xb d_Reader_isLiteralCode_23 (by decide) ?_
      exact xret _ _ _ _ 1 () d_Reader_isLiteralCode_40 (by omega) (by omega) (by omega) xP xD xS
    · refine lv_iload_n xe xb d_Reader_isLiteralCode_10 rfl (lv_at xl 0 rfl) ?_
      refine lv_bipush (v := iI (32)) xe xb d_Reader_isLiteralCode_11 (by decide) ?_
      refine tk_icmp_lt (tgt := 26) xe xb d_Reader_isLiteralCode_13 (by decide) (by omega) (fun c_4 => ?_) (fun c_4 => ?_)
      · refine lv_iconst (v := iI (0)) xe xb d_Reader_isLiteralCode_26 rfl ?_
        refine lv_goto (tgt := 40) xe xb d_Reader_isLiteralCode_27 (by decide) ?_
        exact xret _ _ _ _ 0 () d_Reader_isLiteralCode_40 (by omega) (by omega) (by omega) xP xD xS
      · refine lv_iload_n xe xb d_Reader_isLiteralCode_16 rfl (lv_at xl 0 rfl) ?_
        refine lv_bipush (v := iI (126)) xe xb d_Reader_isLiteralCode_17 (by decide) ?_
        refine tk_icmp_gt (tgt := 26) xe xb d_Reader_isLiteralCode_19 (by decide) (by omega) (fun c_5 => ?_) (fun c_5 => ?_)
        · refine lv_iconst (v := iI (0)) xe xb d_Reader_isLiteralCode_26 rfl ?_
          refine lv_goto (tgt := 40) xe xb d_Reader_isLiteralCode_27 (by decide) ?_
          exact xret _ _ _ _ 0 () d_Reader_isLiteralCode_40 (by omega) (by omega) (by omega) xP xD xS
        · refine lv_iconst (v := iI (1)) xe xb d_Reader_isLiteralCode_22 rfl ?_
          refine lv_goto (tgt := 40) xe xb d_Reader_isLiteralCode_23 (by decide) ?_
          exact xret _ _ _ _ 1 () d_Reader_isLiteralCode_40 (by omega) (by omega) (by omega) xP xD xS
set_option maxHeartbeats 4000000 in
set_option maxRecDepth 100000 in
theorem c_Reader_isNodeCode (l : Launch) (D : va_G) (cI : ClassId) (x : Int) (r : Int) (hx0 : -2147483648 ≤ x ∧ x < 2147483648) (hr0 : r = 0 ∨ r = 1) : CtI l D [(cI, .int)] y_Reader_isNodeCode b_Reader_isNodeCode 2 (some .boolean) 0 [.int (iI x), .int (iI r)] [] (S := Unit) (fun z u => (z = 1 ∧ (isN x ∧ (r = 0 ∨ x ≤ 126))) ∨ (z = 0 ∧ ¬ (isN x ∧ (r = 0 ∨ x ≤ 126)))) (fun u => []) := by
  refine CtI.walk (fun z => z = 0 ∨ z = 1) (fun z hz => by rcases hz with rfl | rfl <;> decide) (by decide) (Nat.le_of_ble_eq_true rfl) ?_
  intro xp xe0 xs xm xar xbelow xmeth xc xA0 xQ xe xb xml xo xt xP xK xD xA xret ls xl xS
  have xl : lv_has ls 2 [(0, .int (iI x)), (1, .int (iI r))] := xl
  have xo : xs.vm.findClass R_Reader = some xm.cls := xo
  refine lv_iload_n xe xb d_Reader_isNodeCode_0 rfl (lv_at xl 0 rfl) ?_
  refine lv_bipush (v := iI (32)) xe xb d_Reader_isNodeCode_1 (by decide) ?_
  refine tk_icmp_le (tgt := 16) xe xb d_Reader_isNodeCode_3 (by decide) (by omega) (fun c_1 => ?_) (fun c_1 => ?_)
  · refine lv_iconst (v := iI (0)) xe xb d_Reader_isNodeCode_16 rfl ?_
    exact xret _ _ _ _ 0 () d_Reader_isNodeCode_17 (by omega) (by omega) (by omega) xP xD xS
  · refine lv_iload_n xe xb d_Reader_isNodeCode_6 rfl (lv_at xl 1 rfl) ?_
    refine tk_if_eq (tgt := 18) xe xb d_Reader_isNodeCode_7 (by decide) (by omega) (fun c_2 => ?_) (fun c_2 => ?_)
    · refine lv_iload_n xe xb d_Reader_isNodeCode_18 rfl (lv_at xl 0 rfl) ?_
      by_cases c_3 : x = 34
      · refine tk_look (off := 81) (tgt := 100) xe xb d_Reader_isNodeCode_19 (by decide) (by omega) 34 c_3 rfl (by decide) ?_
        refine lv_iconst (v := iI (0)) xe xb d_Reader_isNodeCode_100 rfl ?_
        exact xret _ _ _ _ 0 () d_Reader_isNodeCode_101 (by omega) (by omega) (by omega) xP xD xS
      by_cases c_4 : x = 60
      · refine tk_look (off := 81) (tgt := 100) xe xb d_Reader_isNodeCode_19 (by decide) (by omega) 60 c_4 rfl (by decide) ?_
        refine lv_iconst (v := iI (0)) xe xb d_Reader_isNodeCode_100 rfl ?_
        exact xret _ _ _ _ 0 () d_Reader_isNodeCode_101 (by omega) (by omega) (by omega) xP xD xS
      by_cases c_5 : x = 62
      · refine tk_look (off := 81) (tgt := 100) xe xb d_Reader_isNodeCode_19 (by decide) (by omega) 62 c_5 rfl (by decide) ?_
        refine lv_iconst (v := iI (0)) xe xb d_Reader_isNodeCode_100 rfl ?_
        exact xret _ _ _ _ 0 () d_Reader_isNodeCode_101 (by omega) (by omega) (by omega) xP xD xS
      by_cases c_6 : x = 92
      · refine tk_look (off := 81) (tgt := 100) xe xb d_Reader_isNodeCode_19 (by decide) (by omega) 92 c_6 rfl (by decide) ?_
        refine lv_iconst (v := iI (0)) xe xb d_Reader_isNodeCode_100 rfl ?_
        exact xret _ _ _ _ 0 () d_Reader_isNodeCode_101 (by omega) (by omega) (by omega) xP xD xS
      by_cases c_7 : x = 94
      · refine tk_look (off := 81) (tgt := 100) xe xb d_Reader_isNodeCode_19 (by decide) (by omega) 94 c_7 rfl (by decide) ?_
        refine lv_iconst (v := iI (0)) xe xb d_Reader_isNodeCode_100 rfl ?_
        exact xret _ _ _ _ 0 () d_Reader_isNodeCode_101 (by omega) (by omega) (by omega) xP xD xS
      by_cases c_8 : x = 96
      · refine tk_look (off := 81) (tgt := 100) xe xb d_Reader_isNodeCode_19 (by decide) (by omega) 96 c_8 rfl (by decide) ?_
        refine lv_iconst (v := iI (0)) xe xb d_Reader_isNodeCode_100 rfl ?_
        exact xret _ _ _ _ 0 () d_Reader_isNodeCode_101 (by omega) (by omega) (by omega) xP xD xS
      by_cases c_9 : x = 123
      · refine tk_look (off := 81) (tgt := 100) xe xb d_Reader_isNodeCode_19 (by decide) (by omega) 123 c_9 rfl (by decide) ?_
        refine lv_iconst (v := iI (0)) xe xb d_Reader_isNodeCode_100 rfl ?_
        exact xret _ _ _ _ 0 () d_Reader_isNodeCode_101 (by omega) (by omega) (by omega) xP xD xS
      by_cases c_10 : x = 124
      · refine tk_look (off := 81) (tgt := 100) xe xb d_Reader_isNodeCode_19 (by decide) (by omega) 124 c_10 rfl (by decide) ?_
        refine lv_iconst (v := iI (0)) xe xb d_Reader_isNodeCode_100 rfl ?_
        exact xret _ _ _ _ 0 () d_Reader_isNodeCode_101 (by omega) (by omega) (by omega) xP xD xS
      by_cases c_11 : x = 125
      · refine tk_look (off := 81) (tgt := 100) xe xb d_Reader_isNodeCode_19 (by decide) (by omega) 125 c_11 rfl (by decide) ?_
        refine lv_iconst (v := iI (0)) xe xb d_Reader_isNodeCode_100 rfl ?_
        exact xret _ _ _ _ 0 () d_Reader_isNodeCode_101 (by omega) (by omega) (by omega) xP xD xS
      refine tk_look (off := 83) (tgt := 102) xe xb d_Reader_isNodeCode_19 (by decide) (by omega) x rfl ((tk_osw c_3).trans ((tk_osw c_4).trans ((tk_osw c_5).trans ((tk_osw c_6).trans ((tk_osw c_7).trans ((tk_osw c_8).trans ((tk_osw c_9).trans ((tk_osw c_10).trans ((tk_osw c_11).trans rfl))))))))) (by decide) ?_
      refine lv_iconst (v := iI (1)) xe xb d_Reader_isNodeCode_102 rfl ?_
      exact xret _ _ _ _ 1 () d_Reader_isNodeCode_103 (by omega) (by omega) (by omega) xP xD xS
    · refine lv_iload_n xe xb d_Reader_isNodeCode_10 rfl (lv_at xl 0 rfl) ?_
      refine lv_bipush (v := iI (126)) xe xb d_Reader_isNodeCode_11 (by decide) ?_
      refine tk_icmp_le (tgt := 18) xe xb d_Reader_isNodeCode_13 (by decide) (by omega) (fun c_12 => ?_) (fun c_12 => ?_)
      · refine lv_iload_n xe xb d_Reader_isNodeCode_18 rfl (lv_at xl 0 rfl) ?_
        by_cases c_13 : x = 34
        · refine tk_look (off := 81) (tgt := 100) xe xb d_Reader_isNodeCode_19 (by decide) (by omega) 34 c_13 rfl (by decide) ?_
          refine lv_iconst (v := iI (0)) xe xb d_Reader_isNodeCode_100 rfl ?_
          exact xret _ _ _ _ 0 () d_Reader_isNodeCode_101 (by omega) (by omega) (by omega) xP xD xS
        by_cases c_14 : x = 60
        · refine tk_look (off := 81) (tgt := 100) xe xb d_Reader_isNodeCode_19 (by decide) (by omega) 60 c_14 rfl (by decide) ?_
          refine lv_iconst (v := iI (0)) xe xb d_Reader_isNodeCode_100 rfl ?_
          exact xret _ _ _ _ 0 () d_Reader_isNodeCode_101 (by omega) (by omega) (by omega) xP xD xS
        by_cases c_15 : x = 62
        · refine tk_look (off := 81) (tgt := 100) xe xb d_Reader_isNodeCode_19 (by decide) (by omega) 62 c_15 rfl (by decide) ?_
          refine lv_iconst (v := iI (0)) xe xb d_Reader_isNodeCode_100 rfl ?_
          exact xret _ _ _ _ 0 () d_Reader_isNodeCode_101 (by omega) (by omega) (by omega) xP xD xS
        by_cases c_16 : x = 92
        · refine tk_look (off := 81) (tgt := 100) xe xb d_Reader_isNodeCode_19 (by decide) (by omega) 92 c_16 rfl (by decide) ?_
          refine lv_iconst (v := iI (0)) xe xb d_Reader_isNodeCode_100 rfl ?_
          exact xret _ _ _ _ 0 () d_Reader_isNodeCode_101 (by omega) (by omega) (by omega) xP xD xS
        by_cases c_17 : x = 94
        · refine tk_look (off := 81) (tgt := 100) xe xb d_Reader_isNodeCode_19 (by decide) (by omega) 94 c_17 rfl (by decide) ?_
          refine lv_iconst (v := iI (0)) xe xb d_Reader_isNodeCode_100 rfl ?_
          exact xret _ _ _ _ 0 () d_Reader_isNodeCode_101 (by omega) (by omega) (by omega) xP xD xS
        by_cases c_18 : x = 96
        · refine tk_look (off := 81) (tgt := 100) xe xb d_Reader_isNodeCode_19 (by decide) (by omega) 96 c_18 rfl (by decide) ?_
          refine lv_iconst (v := iI (0)) xe xb d_Reader_isNodeCode_100 rfl ?_
          exact xret _ _ _ _ 0 () d_Reader_isNodeCode_101 (by omega) (by omega) (by omega) xP xD xS
        by_cases c_19 : x = 123
        · refine tk_look (off := 81) (tgt := 100) xe xb d_Reader_isNodeCode_19 (by decide) (by omega) 123 c_19 rfl (by decide) ?_
          refine lv_iconst (v := iI (0)) xe xb d_Reader_isNodeCode_100 rfl ?_
          exact xret _ _ _ _ 0 () d_Reader_isNodeCode_101 (by omega) (by omega) (by omega) xP xD xS
        by_cases c_20 : x = 124
        · refine tk_look (off := 81) (tgt := 100) xe xb d_Reader_isNodeCode_19 (by decide) (by omega) 124 c_20 rfl (by decide) ?_
          refine lv_iconst (v := iI (0)) xe xb d_Reader_isNodeCode_100 rfl ?_
          exact xret _ _ _ _ 0 () d_Reader_isNodeCode_101 (by omega) (by omega) (by omega) xP xD xS
        by_cases c_21 : x = 125
        · refine tk_look (off := 81) (tgt := 100) xe xb d_Reader_isNodeCode_19 (by decide) (by omega) 125 c_21 rfl (by decide) ?_
          refine lv_iconst (v := iI (0)) xe xb d_Reader_isNodeCode_100 rfl ?_
          exact xret _ _ _ _ 0 () d_Reader_isNodeCode_101 (by omega) (by omega) (by omega) xP xD xS
        refine tk_look (off := 83) (tgt := 102) xe xb d_Reader_isNodeCode_19 (by decide) (by omega) x rfl ((tk_osw c_13).trans ((tk_osw c_14).trans ((tk_osw c_15).trans ((tk_osw c_16).trans ((tk_osw c_17).trans ((tk_osw c_18).trans ((tk_osw c_19).trans ((tk_osw c_20).trans ((tk_osw c_21).trans rfl))))))))) (by decide) ?_
        refine lv_iconst (v := iI (1)) xe xb d_Reader_isNodeCode_102 rfl ?_
        exact xret _ _ _ _ 1 () d_Reader_isNodeCode_103 (by omega) (by omega) (by omega) xP xD xS
      · refine lv_iconst (v := iI (0)) xe xb d_Reader_isNodeCode_16 rfl ?_
        exact xret _ _ _ _ 0 () d_Reader_isNodeCode_17 (by omega) (by omega) (by omega) xP xD xS
set_option maxHeartbeats 4000000 in
set_option maxRecDepth 100000 in
theorem c_Printer_signLetter (l : Launch) (D : va_G) (cI : ClassId) (x : Int) (hx0 : -2147483648 ≤ x ∧ x < 2147483648) : CtI l D [(cI, .int)] y_Printer_signLetter b_Printer_signLetter 1 (some .int) 0 [.int (iI x)] [] (S := Unit) (fun z u => z = sgl x) (fun u => []) := by
  refine CtI.walk (fun _ => True) (fun z _ => vp_nar_int _) (by decide) (Nat.le_of_ble_eq_true rfl) ?_
  intro xp xe0 xs xm xar xbelow xmeth xc xA0 xQ xe xb xml xo xt xP xK xD xA xret ls xl xS
  have xl : lv_has ls 1 [(0, .int (iI x))] := xl
  have xo : xs.vm.findClass R_Printer = some xm.cls := xo
  refine lv_iload_n xe xb d_Printer_signLetter_0 rfl (lv_at xl 0 rfl) ?_
  by_cases c_1 : x = 8
  · refine tk_look (off := 70) (tgt := 71) xe xb d_Printer_signLetter_1 (by decide) (by omega) 8 c_1 rfl (by decide) ?_
    refine lv_bipush (v := iI (98)) xe xb d_Printer_signLetter_71 (by decide) ?_
    exact xret _ _ _ _ 98 () d_Printer_signLetter_73 trivial (by omega) (by unfold sgl; (repeat' split) <;> omega) xP xD xS
  by_cases c_2 : x = 9
  · refine tk_look (off := 67) (tgt := 68) xe xb d_Printer_signLetter_1 (by decide) (by omega) 9 c_2 rfl (by decide) ?_
    refine lv_bipush (v := iI (116)) xe xb d_Printer_signLetter_68 (by decide) ?_
    exact xret _ _ _ _ 116 () d_Printer_signLetter_70 trivial (by omega) (by unfold sgl; (repeat' split) <;> omega) xP xD xS
  by_cases c_3 : x = 10
  · refine tk_look (off := 73) (tgt := 74) xe xb d_Printer_signLetter_1 (by decide) (by omega) 10 c_3 rfl (by decide) ?_
    refine lv_bipush (v := iI (110)) xe xb d_Printer_signLetter_74 (by decide) ?_
    exact xret _ _ _ _ 110 () d_Printer_signLetter_76 trivial (by omega) (by unfold sgl; (repeat' split) <;> omega) xP xD xS
  by_cases c_4 : x = 12
  · refine tk_look (off := 79) (tgt := 80) xe xb d_Printer_signLetter_1 (by decide) (by omega) 12 c_4 rfl (by decide) ?_
    refine lv_bipush (v := iI (102)) xe xb d_Printer_signLetter_80 (by decide) ?_
    exact xret _ _ _ _ 102 () d_Printer_signLetter_82 trivial (by omega) (by unfold sgl; (repeat' split) <;> omega) xP xD xS
  by_cases c_5 : x = 13
  · refine tk_look (off := 76) (tgt := 77) xe xb d_Printer_signLetter_1 (by decide) (by omega) 13 c_5 rfl (by decide) ?_
    refine lv_bipush (v := iI (114)) xe xb d_Printer_signLetter_77 (by decide) ?_
    exact xret _ _ _ _ 114 () d_Printer_signLetter_79 trivial (by omega) (by unfold sgl; (repeat' split) <;> omega) xP xD xS
  by_cases c_6 : x = 34
  · refine tk_look (off := 82) (tgt := 83) xe xb d_Printer_signLetter_1 (by decide) (by omega) 34 c_6 rfl (by decide) ?_
    refine lv_iload_n xe xb d_Printer_signLetter_83 rfl (lv_at xl 0 rfl) ?_
    exact xret _ _ _ _ x () d_Printer_signLetter_84 trivial (by omega) (by unfold sgl; (repeat' split) <;> omega) xP xD xS
  by_cases c_7 : x = 92
  · refine tk_look (off := 82) (tgt := 83) xe xb d_Printer_signLetter_1 (by decide) (by omega) 92 c_7 rfl (by decide) ?_
    refine lv_iload_n xe xb d_Printer_signLetter_83 rfl (lv_at xl 0 rfl) ?_
    exact xret _ _ _ _ x () d_Printer_signLetter_84 trivial (by omega) (by unfold sgl; (repeat' split) <;> omega) xP xD xS
  refine tk_look (off := 84) (tgt := 85) xe xb d_Printer_signLetter_1 (by decide) (by omega) x rfl ((tk_osw c_1).trans ((tk_osw c_2).trans ((tk_osw c_3).trans ((tk_osw c_4).trans ((tk_osw c_5).trans ((tk_osw c_6).trans ((tk_osw c_7).trans rfl))))))) (by decide) ?_
  refine lv_iconst (v := iI (-1)) xe xb d_Printer_signLetter_85 rfl ?_
  exact xret _ _ _ _ (-1) () d_Printer_signLetter_86 trivial (by omega) (by unfold sgl; (repeat' split) <;> omega) xP xD xS
