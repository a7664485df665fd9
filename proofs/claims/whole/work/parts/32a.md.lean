theorem d_TripleLinesModel_put_0 : decode b_TripleLinesModel_put 0 = .ok (.aload_n 0, 1) := by decide +kernel
theorem d_TripleLinesModel_put_1 : decode b_TripleLinesModel_put 1 = .ok (.getfield 226, 3) := by decide +kernel
theorem d_TripleLinesModel_put_4 : decode b_TripleLinesModel_put 4 = .ok (.sipush 3000, 3) := by decide +kernel
theorem d_TripleLinesModel_put_7 : decode b_TripleLinesModel_put 7 = .ok (.if_icmp .ge 13, 3) := by decide +kernel
theorem d_TripleLinesModel_put_10 : decode b_TripleLinesModel_put 10 = .ok (.aload_n 0, 1) := by decide +kernel
theorem d_TripleLinesModel_put_11 : decode b_TripleLinesModel_put 11 = .ok (.getfield 46, 3) := by decide +kernel
theorem d_TripleLinesModel_put_14 : decode b_TripleLinesModel_put 14 = .ok (.aload_n 0, 1) := by decide +kernel
theorem d_TripleLinesModel_put_15 : decode b_TripleLinesModel_put 15 = .ok (.getfield 226, 3) := by decide +kernel
theorem d_TripleLinesModel_put_18 : decode b_TripleLinesModel_put 18 = .ok (.iload_n 1, 1) := by decide +kernel
theorem d_TripleLinesModel_put_19 : decode b_TripleLinesModel_put 19 = .ok (.iastore, 1) := by decide +kernel
theorem d_TripleLinesModel_put_20 : decode b_TripleLinesModel_put 20 = .ok (.aload_n 0, 1) := by decide +kernel
theorem d_TripleLinesModel_put_21 : decode b_TripleLinesModel_put 21 = .ok (.dup, 1) := by decide +kernel
theorem d_TripleLinesModel_put_22 : decode b_TripleLinesModel_put 22 = .ok (.getfield 226, 3) := by decide +kernel
theorem d_TripleLinesModel_put_25 : decode b_TripleLinesModel_put 25 = .ok (.iconst 1, 1) := by decide +kernel
theorem d_TripleLinesModel_put_26 : decode b_TripleLinesModel_put 26 = .ok (.iadd, 1) := by decide +kernel
theorem d_TripleLinesModel_put_27 : decode b_TripleLinesModel_put 27 = .ok (.putfield 226, 3) := by decide +kernel
theorem d_TripleLinesModel_put_30 : decode b_TripleLinesModel_put 30 = .ok (.return_, 1) := by decide +kernel
theorem d_TripleLinesModel_putHex_0 : decode b_TripleLinesModel_putHex 0 = .ok (.iload_n 2, 1) := by decide +kernel
theorem d_TripleLinesModel_putHex_1 : decode b_TripleLinesModel_putHex 1 = .ok (.iconst 1, 1) := by decide +kernel
theorem d_TripleLinesModel_putHex_2 : decode b_TripleLinesModel_putHex 2 = .ok (.isub, 1) := by decide +kernel
theorem d_TripleLinesModel_putHex_3 : decode b_TripleLinesModel_putHex 3 = .ok (.istore_n 3, 1) := by decide +kernel
theorem d_TripleLinesModel_putHex_4 : decode b_TripleLinesModel_putHex 4 = .ok (.iload_n 3, 1) := by decide +kernel
theorem d_TripleLinesModel_putHex_5 : decode b_TripleLinesModel_putHex 5 = .ok (.ifCond .lt 46, 3) := by decide +kernel
theorem d_TripleLinesModel_putHex_8 : decode b_TripleLinesModel_putHex 8 = .ok (.iload_n 1, 1) := by decide +kernel
theorem d_TripleLinesModel_putHex_9 : decode b_TripleLinesModel_putHex 9 = .ok (.iconst 4, 1) := by decide +kernel
theorem d_TripleLinesModel_putHex_10 : decode b_TripleLinesModel_putHex 10 = .ok (.iload_n 3, 1) := by decide +kernel
theorem d_TripleLinesModel_putHex_11 : decode b_TripleLinesModel_putHex 11 = .ok (.imul, 1) := by decide +kernel
theorem d_TripleLinesModel_putHex_12 : decode b_TripleLinesModel_putHex 12 = .ok (.ishr, 1) := by decide +kernel
theorem d_TripleLinesModel_putHex_13 : decode b_TripleLinesModel_putHex 13 = .ok (.bipush 15, 2) := by decide +kernel
theorem d_TripleLinesModel_putHex_15 : decode b_TripleLinesModel_putHex 15 = .ok (.iand, 1) := by decide +kernel
theorem d_TripleLinesModel_putHex_16 : decode b_TripleLinesModel_putHex 16 = .ok (.istore 4, 2) := by decide +kernel
theorem d_TripleLinesModel_putHex_18 : decode b_TripleLinesModel_putHex 18 = .ok (.aload_n 0, 1) := by decide +kernel
theorem d_TripleLinesModel_putHex_19 : decode b_TripleLinesModel_putHex 19 = .ok (.iload 4, 2) := by decide +kernel
theorem d_TripleLinesModel_putHex_21 : decode b_TripleLinesModel_putHex 21 = .ok (.bipush 10, 2) := by decide +kernel
theorem d_TripleLinesModel_putHex_23 : decode b_TripleLinesModel_putHex 23 = .ok (.if_icmp .ge 11, 3) := by decide +kernel
theorem d_TripleLinesModel_putHex_26 : decode b_TripleLinesModel_putHex 26 = .ok (.bipush 48, 2) := by decide +kernel
theorem d_TripleLinesModel_putHex_28 : decode b_TripleLinesModel_putHex 28 = .ok (.iload 4, 2) := by decide +kernel
theorem d_TripleLinesModel_putHex_30 : decode b_TripleLinesModel_putHex 30 = .ok (.iadd, 1) := by decide +kernel
theorem d_TripleLinesModel_putHex_31 : decode b_TripleLinesModel_putHex 31 = .ok (.goto 11, 3) := by decide +kernel
theorem d_TripleLinesModel_putHex_34 : decode b_TripleLinesModel_putHex 34 = .ok (.bipush 65, 2) := by decide +kernel
theorem d_TripleLinesModel_putHex_36 : decode b_TripleLinesModel_putHex 36 = .ok (.iload 4, 2) := by decide +kernel
theorem d_TripleLinesModel_putHex_38 : decode b_TripleLinesModel_putHex 38 = .ok (.iadd, 1) := by decide +kernel
theorem d_TripleLinesModel_putHex_39 : decode b_TripleLinesModel_putHex 39 = .ok (.bipush 10, 2) := by decide +kernel
theorem d_TripleLinesModel_putHex_41 : decode b_TripleLinesModel_putHex 41 = .ok (.isub, 1) := by decide +kernel
theorem d_TripleLinesModel_putHex_42 : decode b_TripleLinesModel_putHex 42 = .ok (.invokevirtual 229, 3) := by decide +kernel
theorem d_TripleLinesModel_putHex_45 : decode b_TripleLinesModel_putHex 45 = .ok (.iinc 3 (-1), 3) := by decide +kernel
theorem d_TripleLinesModel_putHex_48 : decode b_TripleLinesModel_putHex 48 = .ok (.goto (-44), 3) := by decide +kernel
theorem d_TripleLinesModel_putHex_51 : decode b_TripleLinesModel_putHex 51 = .ok (.return_, 1) := by decide +kernel
theorem d_TripleLinesModel_putCode_0 : decode b_TripleLinesModel_putCode 0 = .ok (.iload_n 2, 1) := by decide +kernel
theorem d_TripleLinesModel_putCode_1 : decode b_TripleLinesModel_putCode 1 = .ok (.ifCond .eq 29, 3) := by decide +kernel
theorem d_TripleLinesModel_putCode_4 : decode b_TripleLinesModel_putCode 4 = .ok (.iload_n 1, 1) := by decide +kernel
theorem d_TripleLinesModel_putCode_5 : decode b_TripleLinesModel_putCode 5 = .ok (.bipush 34, 2) := by decide +kernel
theorem d_TripleLinesModel_putCode_7 : decode b_TripleLinesModel_putCode 7 = .ok (.if_icmp .eq 9, 3) := by decide +kernel
theorem d_TripleLinesModel_putCode_10 : decode b_TripleLinesModel_putCode 10 = .ok (.iload_n 1, 1) := by decide +kernel
theorem d_TripleLinesModel_putCode_11 : decode b_TripleLinesModel_putCode 11 = .ok (.bipush 92, 2) := by decide +kernel
theorem d_TripleLinesModel_putCode_13 : decode b_TripleLinesModel_putCode 13 = .ok (.if_icmp .ne 17, 3) := by decide +kernel
theorem d_TripleLinesModel_putCode_16 : decode b_TripleLinesModel_putCode 16 = .ok (.aload_n 0, 1) := by decide +kernel
theorem d_TripleLinesModel_putCode_17 : decode b_TripleLinesModel_putCode 17 = .ok (.bipush 92, 2) := by decide +kernel
theorem d_TripleLinesModel_putCode_19 : decode b_TripleLinesModel_putCode 19 = .ok (.invokevirtual 229, 3) := by decide +kernel
theorem d_TripleLinesModel_putCode_22 : decode b_TripleLinesModel_putCode 22 = .ok (.aload_n 0, 1) := by decide +kernel
theorem d_TripleLinesModel_putCode_23 : decode b_TripleLinesModel_putCode 23 = .ok (.iload_n 1, 1) := by decide +kernel
theorem d_TripleLinesModel_putCode_24 : decode b_TripleLinesModel_putCode 24 = .ok (.invokevirtual 229, 3) := by decide +kernel
theorem d_TripleLinesModel_putCode_27 : decode b_TripleLinesModel_putCode 27 = .ok (.goto 90, 3) := by decide +kernel
theorem d_TripleLinesModel_putCode_30 : decode b_TripleLinesModel_putCode 30 = .ok (.iload_n 1, 1) := by decide +kernel
theorem d_TripleLinesModel_putCode_31 : decode b_TripleLinesModel_putCode 31 = .ok (.bipush 32, 2) := by decide +kernel
theorem d_TripleLinesModel_putCode_33 : decode b_TripleLinesModel_putCode 33 = .ok (.bipush 126, 2) := by decide +kernel
theorem d_TripleLinesModel_putCode_35 : decode b_TripleLinesModel_putCode 35 = .ok (.invokestatic 63, 3) := by decide +kernel
theorem d_TripleLinesModel_putCode_38 : decode b_TripleLinesModel_putCode 38 = .ok (.ifCond .eq 11, 3) := by decide +kernel
theorem d_TripleLinesModel_putCode_41 : decode b_TripleLinesModel_putCode 41 = .ok (.aload_n 0, 1) := by decide +kernel
theorem d_TripleLinesModel_putCode_42 : decode b_TripleLinesModel_putCode 42 = .ok (.iload_n 1, 1) := by decide +kernel
theorem d_TripleLinesModel_putCode_43 : decode b_TripleLinesModel_putCode 43 = .ok (.invokevirtual 229, 3) := by decide +kernel
theorem d_TripleLinesModel_putCode_46 : decode b_TripleLinesModel_putCode 46 = .ok (.goto 71, 3) := by decide +kernel
theorem d_TripleLinesModel_putCode_49 : decode b_TripleLinesModel_putCode 49 = .ok (.iload_n 2, 1) := by decide +kernel
theorem d_TripleLinesModel_putCode_50 : decode b_TripleLinesModel_putCode 50 = .ok (.ifCond .eq 27, 3) := by decide +kernel
theorem d_TripleLinesModel_putCode_53 : decode b_TripleLinesModel_putCode 53 = .ok (.iload_n 1, 1) := by decide +kernel
theorem d_TripleLinesModel_putCode_54 : decode b_TripleLinesModel_putCode 54 = .ok (.invokestatic 232, 3) := by decide +kernel
theorem d_TripleLinesModel_putCode_57 : decode b_TripleLinesModel_putCode 57 = .ok (.ifCond .lt 20, 3) := by decide +kernel
theorem d_TripleLinesModel_putCode_60 : decode b_TripleLinesModel_putCode 60 = .ok (.aload_n 0, 1) := by decide +kernel
theorem d_TripleLinesModel_putCode_61 : decode b_TripleLinesModel_putCode 61 = .ok (.bipush 92, 2) := by decide +kernel
theorem d_TripleLinesModel_putCode_63 : decode b_TripleLinesModel_putCode 63 = .ok (.invokevirtual 229, 3) := by decide +kernel
theorem d_TripleLinesModel_putCode_66 : decode b_TripleLinesModel_putCode 66 = .ok (.aload_n 0, 1) := by decide +kernel
theorem d_TripleLinesModel_putCode_67 : decode b_TripleLinesModel_putCode 67 = .ok (.iload_n 1, 1) := by decide +kernel
theorem d_TripleLinesModel_putCode_68 : decode b_TripleLinesModel_putCode 68 = .ok (.invokestatic 232, 3) := by decide +kernel
theorem d_TripleLinesModel_putCode_71 : decode b_TripleLinesModel_putCode 71 = .ok (.invokevirtual 229, 3) := by decide +kernel
theorem d_TripleLinesModel_putCode_74 : decode b_TripleLinesModel_putCode 74 = .ok (.goto 43, 3) := by decide +kernel
theorem d_TripleLinesModel_putCode_77 : decode b_TripleLinesModel_putCode 77 = .ok (.aload_n 0, 1) := by decide +kernel
theorem d_TripleLinesModel_putCode_78 : decode b_TripleLinesModel_putCode 78 = .ok (.bipush 92, 2) := by decide +kernel
theorem d_TripleLinesModel_putCode_80 : decode b_TripleLinesModel_putCode 80 = .ok (.invokevirtual 229, 3) := by decide +kernel
theorem d_TripleLinesModel_putCode_83 : decode b_TripleLinesModel_putCode 83 = .ok (.aload_n 0, 1) := by decide +kernel
theorem d_TripleLinesModel_putCode_84 : decode b_TripleLinesModel_putCode 84 = .ok (.iload_n 1, 1) := by decide +kernel
theorem d_TripleLinesModel_putCode_85 : decode b_TripleLinesModel_putCode 85 = .ok (.ldc 235, 2) := by decide +kernel
theorem d_TripleLinesModel_putCode_87 : decode b_TripleLinesModel_putCode 87 = .ok (.if_icmp .le 8, 3) := by decide +kernel
theorem d_TripleLinesModel_putCode_90 : decode b_TripleLinesModel_putCode 90 = .ok (.bipush 85, 2) := by decide +kernel
theorem d_TripleLinesModel_putCode_92 : decode b_TripleLinesModel_putCode 92 = .ok (.goto 5, 3) := by decide +kernel
theorem d_TripleLinesModel_putCode_95 : decode b_TripleLinesModel_putCode 95 = .ok (.bipush 117, 2) := by decide +kernel
theorem d_TripleLinesModel_putCode_97 : decode b_TripleLinesModel_putCode 97 = .ok (.invokevirtual 229, 3) := by decide +kernel
theorem d_TripleLinesModel_putCode_100 : decode b_TripleLinesModel_putCode 100 = .ok (.aload_n 0, 1) := by decide +kernel
theorem d_TripleLinesModel_putCode_101 : decode b_TripleLinesModel_putCode 101 = .ok (.iload_n 1, 1) := by decide +kernel
theorem d_TripleLinesModel_putCode_102 : decode b_TripleLinesModel_putCode 102 = .ok (.iload_n 1, 1) := by decide +kernel
theorem d_TripleLinesModel_putCode_103 : decode b_TripleLinesModel_putCode 103 = .ok (.ldc 235, 2) := by decide +kernel
theorem d_TripleLinesModel_putCode_105 : decode b_TripleLinesModel_putCode 105 = .ok (.if_icmp .le 8, 3) := by decide +kernel
theorem d_TripleLinesModel_putCode_108 : decode b_TripleLinesModel_putCode 108 = .ok (.bipush 8, 2) := by decide +kernel
theorem d_TripleLinesModel_putCode_110 : decode b_TripleLinesModel_putCode 110 = .ok (.goto 4, 3) := by decide +kernel
theorem d_TripleLinesModel_putCode_113 : decode b_TripleLinesModel_putCode 113 = .ok (.iconst 4, 1) := by decide +kernel
theorem d_TripleLinesModel_putCode_114 : decode b_TripleLinesModel_putCode 114 = .ok (.invokevirtual 236, 3) := by decide +kernel
theorem d_TripleLinesModel_putCode_117 : decode b_TripleLinesModel_putCode 117 = .ok (.return_, 1) := by decide +kernel
theorem d_TripleLinesModel_putCodes_0 : decode b_TripleLinesModel_putCodes 0 = .ok (.iconst 0, 1) := by decide +kernel
theorem d_TripleLinesModel_putCodes_1 : decode b_TripleLinesModel_putCodes 1 = .ok (.istore_n 3, 1) := by decide +kernel
theorem d_TripleLinesModel_putCodes_2 : decode b_TripleLinesModel_putCodes 2 = .ok (.iload_n 3, 1) := by decide +kernel
theorem d_TripleLinesModel_putCodes_3 : decode b_TripleLinesModel_putCodes 3 = .ok (.aload_n 0, 1) := by decide +kernel
theorem d_TripleLinesModel_putCodes_4 : decode b_TripleLinesModel_putCodes 4 = .ok (.getfield 19, 3) := by decide +kernel
theorem d_TripleLinesModel_putCodes_7 : decode b_TripleLinesModel_putCodes 7 = .ok (.iload_n 1, 1) := by decide +kernel
theorem d_TripleLinesModel_putCodes_8 : decode b_TripleLinesModel_putCodes 8 = .ok (.iaload, 1) := by decide +kernel
theorem d_TripleLinesModel_putCodes_9 : decode b_TripleLinesModel_putCodes 9 = .ok (.if_icmp .ge 25, 3) := by decide +kernel
theorem d_TripleLinesModel_putCodes_12 : decode b_TripleLinesModel_putCodes 12 = .ok (.aload_n 0, 1) := by decide +kernel
theorem d_TripleLinesModel_putCodes_13 : decode b_TripleLinesModel_putCodes 13 = .ok (.aload_n 0, 1) := by decide +kernel
theorem d_TripleLinesModel_putCodes_14 : decode b_TripleLinesModel_putCodes 14 = .ok (.getfield 22, 3) := by decide +kernel
theorem d_TripleLinesModel_putCodes_17 : decode b_TripleLinesModel_putCodes 17 = .ok (.bipush 40, 2) := by decide +kernel
theorem d_TripleLinesModel_putCodes_19 : decode b_TripleLinesModel_putCodes 19 = .ok (.iload_n 1, 1) := by decide +kernel
theorem d_TripleLinesModel_putCodes_20 : decode b_TripleLinesModel_putCodes 20 = .ok (.imul, 1) := by decide +kernel
theorem d_TripleLinesModel_putCodes_21 : decode b_TripleLinesModel_putCodes 21 = .ok (.iload_n 3, 1) := by decide +kernel
theorem d_TripleLinesModel_putCodes_22 : decode b_TripleLinesModel_putCodes 22 = .ok (.iadd, 1) := by decide +kernel
theorem d_TripleLinesModel_putCodes_23 : decode b_TripleLinesModel_putCodes 23 = .ok (.iaload, 1) := by decide +kernel
theorem d_TripleLinesModel_putCodes_24 : decode b_TripleLinesModel_putCodes 24 = .ok (.iload_n 2, 1) := by decide +kernel
theorem d_TripleLinesModel_putCodes_25 : decode b_TripleLinesModel_putCodes 25 = .ok (.invokevirtual 240, 3) := by decide +kernel
theorem d_TripleLinesModel_putCodes_28 : decode b_TripleLinesModel_putCodes 28 = .ok (.iinc 3 1, 3) := by decide +kernel
theorem d_TripleLinesModel_putCodes_31 : decode b_TripleLinesModel_putCodes 31 = .ok (.goto (-29), 3) := by decide +kernel
theorem d_TripleLinesModel_putCodes_34 : decode b_TripleLinesModel_putCodes 34 = .ok (.return_, 1) := by decide +kernel
theorem d_TripleLinesModel_putNumber_0 : decode b_TripleLinesModel_putNumber 0 = .ok (.iload_n 1, 1) := by decide +kernel
theorem d_TripleLinesModel_putNumber_1 : decode b_TripleLinesModel_putNumber 1 = .ok (.bipush 99, 2) := by decide +kernel
theorem d_TripleLinesModel_putNumber_3 : decode b_TripleLinesModel_putNumber 3 = .ok (.if_icmp .le 14, 3) := by decide +kernel
theorem d_TripleLinesModel_putNumber_6 : decode b_TripleLinesModel_putNumber 6 = .ok (.aload_n 0, 1) := by decide +kernel
theorem d_TripleLinesModel_putNumber_7 : decode b_TripleLinesModel_putNumber 7 = .ok (.bipush 48, 2) := by decide +kernel
theorem d_TripleLinesModel_putNumber_9 : decode b_TripleLinesModel_putNumber 9 = .ok (.iload_n 1, 1) := by decide +kernel
theorem d_TripleLinesModel_putNumber_10 : decode b_TripleLinesModel_putNumber 10 = .ok (.bipush 100, 2) := by decide +kernel
theorem d_TripleLinesModel_putNumber_12 : decode b_TripleLinesModel_putNumber 12 = .ok (.idiv, 1) := by decide +kernel
theorem d_TripleLinesModel_putNumber_13 : decode b_TripleLinesModel_putNumber 13 = .ok (.iadd, 1) := by decide +kernel
theorem d_TripleLinesModel_putNumber_14 : decode b_TripleLinesModel_putNumber 14 = .ok (.invokevirtual 229, 3) := by decide +kernel
theorem d_TripleLinesModel_putNumber_17 : decode b_TripleLinesModel_putNumber 17 = .ok (.iload_n 1, 1) := by decide +kernel
theorem d_TripleLinesModel_putNumber_18 : decode b_TripleLinesModel_putNumber 18 = .ok (.bipush 9, 2) := by decide +kernel
theorem d_TripleLinesModel_putNumber_20 : decode b_TripleLinesModel_putNumber 20 = .ok (.if_icmp .le 17, 3) := by decide +kernel
theorem d_TripleLinesModel_putNumber_23 : decode b_TripleLinesModel_putNumber 23 = .ok (.aload_n 0, 1) := by decide +kernel
theorem d_TripleLinesModel_putNumber_24 : decode b_TripleLinesModel_putNumber 24 = .ok (.bipush 48, 2) := by decide +kernel
theorem d_TripleLinesModel_putNumber_26 : decode b_TripleLinesModel_putNumber 26 = .ok (.iload_n 1, 1) := by decide +kernel
theorem d_TripleLinesModel_putNumber_27 : decode b_TripleLinesModel_putNumber 27 = .ok (.bipush 10, 2) := by decide +kernel
theorem d_TripleLinesModel_putNumber_29 : decode b_TripleLinesModel_putNumber 29 = .ok (.idiv, 1) := by decide +kernel
theorem d_TripleLinesModel_putNumber_30 : decode b_TripleLinesModel_putNumber 30 = .ok (.bipush 10, 2) := by decide +kernel
theorem d_TripleLinesModel_putNumber_32 : decode b_TripleLinesModel_putNumber 32 = .ok (.irem, 1) := by decide +kernel
theorem d_TripleLinesModel_putNumber_33 : decode b_TripleLinesModel_putNumber 33 = .ok (.iadd, 1) := by decide +kernel
theorem d_TripleLinesModel_putNumber_34 : decode b_TripleLinesModel_putNumber 34 = .ok (.invokevirtual 229, 3) := by decide +kernel
theorem d_TripleLinesModel_putNumber_37 : decode b_TripleLinesModel_putNumber 37 = .ok (.aload_n 0, 1) := by decide +kernel
theorem d_TripleLinesModel_putNumber_38 : decode b_TripleLinesModel_putNumber 38 = .ok (.bipush 48, 2) := by decide +kernel
theorem d_TripleLinesModel_putNumber_40 : decode b_TripleLinesModel_putNumber 40 = .ok (.iload_n 1, 1) := by decide +kernel
theorem d_TripleLinesModel_putNumber_41 : decode b_TripleLinesModel_putNumber 41 = .ok (.bipush 10, 2) := by decide +kernel
theorem d_TripleLinesModel_putNumber_43 : decode b_TripleLinesModel_putNumber 43 = .ok (.irem, 1) := by decide +kernel
theorem d_TripleLinesModel_putNumber_44 : decode b_TripleLinesModel_putNumber 44 = .ok (.iadd, 1) := by decide +kernel
theorem d_TripleLinesModel_putNumber_45 : decode b_TripleLinesModel_putNumber 45 = .ok (.invokevirtual 229, 3) := by decide +kernel
theorem d_TripleLinesModel_putNumber_48 : decode b_TripleLinesModel_putNumber 48 = .ok (.return_, 1) := by decide +kernel
theorem d_TripleLinesModel_putNode_0 : decode b_TripleLinesModel_putNode 0 = .ok (.aload_n 0, 1) := by decide +kernel
theorem d_TripleLinesModel_putNode_1 : decode b_TripleLinesModel_putNode 1 = .ok (.bipush 60, 2) := by decide +kernel
theorem d_TripleLinesModel_putNode_3 : decode b_TripleLinesModel_putNode 3 = .ok (.invokevirtual 229, 3) := by decide +kernel
theorem d_TripleLinesModel_putNode_6 : decode b_TripleLinesModel_putNode 6 = .ok (.aload_n 0, 1) := by decide +kernel
theorem d_TripleLinesModel_putNode_7 : decode b_TripleLinesModel_putNode 7 = .ok (.iload_n 1, 1) := by decide +kernel
theorem d_TripleLinesModel_putNode_8 : decode b_TripleLinesModel_putNode 8 = .ok (.iconst 0, 1) := by decide +kernel
theorem d_TripleLinesModel_putNode_9 : decode b_TripleLinesModel_putNode 9 = .ok (.invokevirtual 244, 3) := by decide +kernel
theorem d_TripleLinesModel_putNode_12 : decode b_TripleLinesModel_putNode 12 = .ok (.aload_n 0, 1) := by decide +kernel
theorem d_TripleLinesModel_putNode_13 : decode b_TripleLinesModel_putNode 13 = .ok (.bipush 62, 2) := by decide +kernel
theorem d_TripleLinesModel_putNode_15 : decode b_TripleLinesModel_putNode 15 = .ok (.invokevirtual 229, 3) := by decide +kernel
theorem d_TripleLinesModel_putNode_18 : decode b_TripleLinesModel_putNode 18 = .ok (.return_, 1) := by decide +kernel
set_option maxHeartbeats 4000000 in
set_option maxRecDepth 100000 in
theorem c_TripleLinesModel_put (l : Launch) (D : va_G) (cI : ClassId) (mM : Nat) (tm : Int) (aT : Nat) (om : Int) (aO : Nat) (tn : Int) (aK : Nat) (aS : Nat) (aC : Nat) (aU : Nat) (aG : Nat) (aY : Nat) (aX : Nat) (qn : Int) (aP : Nat) (tr : Int) (rg : Int) (ll : Int) (p : Int) (f : Int) (ov : Int) (sz : Int) (aM : Nat) (tz : Int) (aA : Nat) (dm : Int) (aD : Nat) (aB : Nat) (aV : Nat) (aE : Nat) (DR : Nat → Int32) (c : Int) (hdm : 0 ≤ dm ∧ dm ≤ 2000000000) (hc0 : -2147483648 ≤ c ∧ c < 2147483648) : CtV l D [(cI, .int)] y_TripleLinesModel_put b_TripleLinesModel_put 2 0 [.ref mM, .int (iI c)] [(mM, .inr (6, [.int (iI tm), .ref aT, .int (iI om), .ref aO, .int (iI tn), .ref aK, .ref aS, .ref aC, .ref aU, .ref aG, .ref aY, .ref aX, .int (iI qn), .ref aP, .int (iI tr), .int (iI rg), .int (iI ll), .int (iI p), .int (iI f), .int (iI ov), .int (iI sz), .ref aM, .int (iI tz), .ref aA, .int (iI dm), .ref aD, .ref aB, .ref aV, .ref aE])), (aD, .inl (cI, 3000, .inl DR))] (S := Int × (Nat → Int32)) (fun u => PwM u.1 u.2 dm DR [c]) (fun u => [(mM, .inr (6, [.int (iI tm), .ref aT, .int (iI om), .ref aO, .int (iI tn), .ref aK, .ref aS, .ref aC, .ref aU, .ref aG, .ref aY, .ref aX, .int (iI qn), .ref aP, .int (iI tr), .int (iI rg), .int (iI ll), .int (iI p), .int (iI f), .int (iI ov), .int (iI sz), .ref aM, .int (iI tz), .ref aA, .int (iI u.1), .ref aD, .ref aB, .ref aV, .ref aE])), (aD, .inl (cI, 3000, .inl u.2))]) := by
  refine CtV.walk (by decide) (Nat.le_of_ble_eq_true rfl) ?_
  intro xp xe0 xs xm xar xbelow xmeth xc xA0 xQ xe xb xml xo xt xP xK xD xA xret ls xl xS
  have xl : lv_has ls 2 [(0, .ref mM), (1, .int (iI c))] := xl
  have xo : xs.vm.findClass R_TripleLinesModel = some xm.cls := xo
  refine lv_aload_n xe xb d_TripleLinesModel_put_0 rfl (lv_at xl 0 rfl) ?_
  refine va_get (D := D) (ci := 6) (v := .int (iI dm)) (C := R_TripleLinesModel) (T := F_TripleLinesModel) (N := 29) xe xb xt i_TripleLinesModel xo xK xP 0 rfl rfl 24 (by decide) (xt _ mw_TripleLinesModel_226) (fun _ h9 => h9) rfl d_TripleLinesModel_put_1 ?_
  refine lv_sipush (v := iI (3000)) xe xb d_TripleLinesModel_put_4 (by decide) ?_
  refine tk_icmp_ge (tgt := 20) xe xb d_TripleLinesModel_put_7 (by decide) (by omega) (fun c_1 => ?_) (fun c_1 => ?_)
  · refine lv_aload_n xe xb d_TripleLinesModel_put_20 rfl (lv_at xl 0 rfl) ?_
    refine lv_dup xe xb d_TripleLinesModel_put_21 rfl ?_
    refine va_get (D := D) (ci := 6) (v := .int (iI dm)) (C := R_TripleLinesModel) (T := F_TripleLinesModel) (N := 29) xe xb xt i_TripleLinesModel xo xK xP 0 rfl rfl 24 (by decide) (xt _ mw_TripleLinesModel_226) (fun _ h9 => h9) rfl d_TripleLinesModel_put_22 ?_
    refine lv_iconst (v := iI (1)) xe xb d_TripleLinesModel_put_25 rfl ?_
    refine tk_iadd xe xb d_TripleLinesModel_put_26 ?_
    refine va_put (D := D) (ci := 6) (v := .int (iI (dm + 1))) (ty := .int) (C := R_TripleLinesModel) (T := F_TripleLinesModel) (N := 29) xe xb xt i_TripleLinesModel t_TripleLinesModel t_TripleLinesModel_ok n_TripleLinesModel xo xK xP xD xS 0 rfl rfl 24 (by decide) (xt _ mw_TripleLinesModel_226) (fun _ h9 => h9) rfl (by decide +kernel) rfl rfl (Nat.le_of_ble_eq_true rfl) d_TripleLinesModel_put_27 ?_
    clear xP xD xS
    intro H locs xP xD xS
    replace xP : va_P D classes [(mM, .inr (6, [.int (iI tm), .ref aT, .int (iI om), .ref aO, .int (iI tn), .ref aK, .ref aS, .ref aC, .ref aU, .ref aG, .ref aY, .ref aX, .int (iI qn), .ref aP, .int (iI tr), .int (iI rg), .int (iI ll), .int (iI p), .int (iI f), .int (iI ov), .int (iI sz), .ref aM, .int (iI tz), .ref aA, .int (iI (dm + 1)), .ref aD, .ref aB, .ref aV, .ref aE])), (aD, .inl (cI, 3000, .inl DR))] H := xP
    replace xD : va_D xA0 [(mM, .inr (6, [.int (iI tm), .ref aT, .int (iI om), .ref aO, .int (iI tn), .ref aK, .ref aS, .ref aC, .ref aU, .ref aG, .ref aY, .ref aX, .int (iI qn), .ref aP, .int (iI tr), .int (iI rg), .int (iI ll), .int (iI p), .int (iI f), .int (iI ov), .int (iI sz), .ref aM, .int (iI tz), .ref aA, .int (iI (dm + 1)), .ref aD, .ref aB, .ref aV, .ref aE])), (aD, .inl (cI, 3000, .inl DR))] := xD
    exact xret _ _ _ _ ((dm + 1), DR) d_TripleLinesModel_put_30 (by first | exact (by first | exact PwM_one hdm.1 (by omega) hc0 | exact PwM_full (by omega)) | (dsimp only; exact (by first | exact PwM_one hdm.1 (by omega) hc0 | exact PwM_full (by omega)))) xP xD xS
  · refine lv_aload_n xe xb d_TripleLinesModel_put_10 rfl (lv_at xl 0 rfl) ?_
    refine va_get (D := D) (ci := 6) (v := .ref aD) (C := R_TripleLinesModel) (T := F_TripleLinesModel) (N := 29) xe xb xt i_TripleLinesModel xo xK xP 0 rfl rfl 25 (by decide) (xt _ mw_TripleLinesModel_46) (fun _ h9 => h9) rfl d_TripleLinesModel_put_11 ?_
    refine lv_aload_n xe xb d_TripleLinesModel_put_14 rfl (lv_at xl 0 rfl) ?_
    refine va_get (D := D) (ci := 6) (v := .int (iI dm)) (C := R_TripleLinesModel) (T := F_TripleLinesModel) (N := 29) xe xb xt i_TripleLinesModel xo xK xP 0 rfl rfl 24 (by decide) (xt _ mw_TripleLinesModel_226) (fun _ h9 => h9) rfl d_TripleLinesModel_put_15 ?_
    refine lv_iload_n xe xb d_TripleLinesModel_put_18 rfl (lv_at xl 1 rfl) ?_
    refine tk_iast xe xb xK xP xD xS 1 0 rfl rfl (by omega) d_TripleLinesModel_put_19 ?_
    clear xP xD xS
    intro H locs xP xD xS
    replace xP : va_P D classes [(mM, .inr (6, [.int (iI tm), .ref aT, .int (iI om), .ref aO, .int (iI tn), .ref aK, .ref aS, .ref aC, .ref aU, .ref aG, .ref aY, .ref aX, .int (iI qn), .ref aP, .int (iI tr), .int (iI rg), .int (iI ll), .int (iI p), .int (iI f), .int (iI ov), .int (iI sz), .ref aM, .int (iI tz), .ref aA, .int (iI dm), .ref aD, .ref aB, .ref aV, .ref aE])), (aD, .inl (cI, 3000, .inl (fu DR dm c)))] H := xP
    replace xD : va_D xA0 [(mM, .inr (6, [.int (iI tm), .ref aT, .int (iI om), .ref aO, .int (iI tn), .ref aK, .ref aS, .ref aC, .ref aU, .ref aG, .ref aY, .ref aX, .int (iI qn), .ref aP, .int (iI tr), .int (iI rg), .int (iI ll), .int (iI p), .int (iI f), .int (iI ov), .int (iI sz), .ref aM, .int (iI tz), .ref aA, .int (iI dm), .ref aD, .ref aB, .ref aV, .ref aE])), (aD, .inl (cI, 3000, .inl (fu DR dm c)))] := xD
    refine lv_aload_n xe xb d_TripleLinesModel_put_20 rfl (lv_at xl 0 rfl) ?_
    refine lv_dup xe xb d_TripleLinesModel_put_21 rfl ?_
    refine va_get (D := D) (ci := 6) (v := .int (iI dm)) (C := R_TripleLinesModel) (T := F_TripleLinesModel) (N := 29) xe xb xt i_TripleLinesModel xo xK xP 0 rfl rfl 24 (by decide) (xt _ mw_TripleLinesModel_226) (fun _ h9 => h9) rfl d_TripleLinesModel_put_22 ?_
    refine lv_iconst (v := iI (1)) xe xb d_TripleLinesModel_put_25 rfl ?_
    refine tk_iadd xe xb d_TripleLinesModel_put_26 ?_
    refine va_put (D := D) (ci := 6) (v := .int (iI (dm + 1))) (ty := .int) (C := R_TripleLinesModel) (T := F_TripleLinesModel) (N := 29) xe xb xt i_TripleLinesModel t_TripleLinesModel t_TripleLinesModel_ok n_TripleLinesModel xo xK xP xD xS 0 rfl rfl 24 (by decide) (xt _ mw_TripleLinesModel_226) (fun _ h9 => h9) rfl (by decide +kernel) rfl rfl (Nat.le_of_ble_eq_true rfl) d_TripleLinesModel_put_27 ?_
    clear xP xD xS
    intro H locs xP xD xS
    replace xP : va_P D classes [(mM, .inr (6, [.int (iI tm), .ref aT, .int (iI om), .ref aO, .int (iI tn), .ref aK, .ref aS, .ref aC, .ref aU, .ref aG, .ref aY, .ref aX, .int (iI qn), .ref aP, .int (iI tr), .int (iI rg), .int (iI ll), .int (iI p), .int (iI f), .int (iI ov), .int (iI sz), .ref aM, .int (iI tz), .ref aA, .int (iI (dm + 1)), .ref aD, .ref aB, .ref aV, .ref aE])), (aD, .inl (cI, 3000, .inl (fu DR dm c)))] H := xP
    replace xD : va_D xA0 [(mM, .inr (6, [.int (iI tm), .ref aT, .int (iI om), .ref aO, .int (iI tn), .ref aK, .ref aS, .ref aC, .ref aU, .ref aG, .ref aY, .ref aX, .int (iI qn), .ref aP, .int (iI tr), .int (iI rg), .int (iI ll), .int (iI p), .int (iI f), .int (iI ov), .int (iI sz), .ref aM, .int (iI tz), .ref aA, .int (iI (dm + 1)), .ref aD, .ref aB, .ref aV, .ref aE])), (aD, .inl (cI, 3000, .inl (fu DR dm c)))] := xD
    exact xret _ _ _ _ ((dm + 1), (fu DR dm c)) d_TripleLinesModel_put_30 (by first | exact (by first | exact PwM_one hdm.1 (by omega) hc0 | exact PwM_full (by omega)) | (dsimp only; exact (by first | exact PwM_one hdm.1 (by omega) hc0 | exact PwM_full (by omega)))) xP xD xS
set_option maxHeartbeats 4000000 in
set_option maxRecDepth 100000 in
theorem c_TripleLinesModel_putHex (l : Launch) (D : va_G) (cI : ClassId) (mM : Nat) (tm : Int) (aT : Nat) (om : Int) (aO : Nat) (tn : Int) (aK : Nat) (aS : Nat) (aC : Nat) (aU : Nat) (aG : Nat) (aY : Nat) (aX : Nat) (qn : Int) (aP : Nat) (tr : Int) (rg : Int) (ll : Int) (p : Int) (f : Int) (ov : Int) (sz : Int) (aM : Nat) (tz : Int) (aA : Nat) (dm : Int) (aD : Nat) (aB : Nat) (aV : Nat) (aE : Nat) (DR : Nat → Int32) (v : Int) (n : Int) (hdm : 0 ≤ dm ∧ dm ≤ 1999999990) (hv0 : -2147483648 ≤ v ∧ v < 2147483648) (hn : 0 ≤ n ∧ n ≤ 8) : CtV l D [(cI, .int)] y_TripleLinesModel_putHex b_TripleLinesModel_putHex 5 1 [.ref mM, .int (iI v), .int (iI n)] [(mM, .inr (6, [.int (iI tm), .ref aT, .int (iI om), .ref aO, .int (iI tn), .ref aK, .ref aS, .ref aC, .ref aU, .ref aG, .ref aY, .ref aX, .int (iI qn), .ref aP, .int (iI tr), .int (iI rg), .int (iI ll), .int (iI p), .int (iI f), .int (iI ov), .int (iI sz), .ref aM, .int (iI tz), .ref aA, .int (iI dm), .ref aD, .ref aB, .ref aV, .ref aE])), (aD, .inl (cI, 3000, .inl DR))] (S := Int × (Nat → Int32)) (fun u => PwM u.1 u.2 dm DR (ex v n.toNat)) (fun u => [(mM, .inr (6, [.int (iI tm), .ref aT, .int (iI om), .ref aO, .int (iI tn), .ref aK, .ref aS, .ref aC, .ref aU, .ref aG, .ref aY, .ref aX, .int (iI qn), .ref aP, .int (iI tr), .int (iI rg), .int (iI ll), .int (iI p), .int (iI f), .int (iI ov), .int (iI sz), .ref aM, .int (iI tz), .ref aA, .int (iI u.1), .ref aD, .ref aB, .ref aV, .ref aE])), (aD, .inl (cI, 3000, .inl u.2))]) := by
  refine CtV.walk (by decide) (Nat.le_of_ble_eq_true rfl) ?_
  intro xp xe0 xs xm xar xbelow xmeth xc xA0 xQ xe xb xml xo xt xP xK xD xA xret ls xl xS
  have xl : lv_has ls 5 [(0, .ref mM), (1, .int (iI v)), (2, .int (iI n))] := xl
  have xo : xs.vm.findClass R_TripleLinesModel = some xm.cls := xo
  have HC := PwM_nil (D := DR) hdm.1
  refine lv_iload_n xe xb d_TripleLinesModel_putHex_0 rfl (lv_at xl 2 rfl) ?_
  refine lv_iconst (v := iI (1)) xe xb d_TripleLinesModel_putHex_1 rfl ?_
  refine tk_isub xe xb d_TripleLinesModel_putHex_2 ?_
  refine lv_istore_n (lv' := [(3, .int (iI (n - 1))), (0, .ref mM), (1, .int (iI v)), (2, .int (iI n))]) xe xb d_TripleLinesModel_putHex_3 rfl xl (by decide) rfl ?_
  clear xl
  intro ls xl
  have loop_4 : ∀ (n9 : Nat) (k : Int) (X0 : List Int) (dv : Int) (Dv : Nat → Int32), (k + 1).toNat < n9 → (-1 ≤ k ∧ (X0.length : Int) + (k + 1) = n) → (PwM dv Dv dm DR X0) → (X0 ++ ex v (k + 1).toNat = ex v n.toNat) → ∀ (H : Heap) (locs : List Loc), va_P D classes [(mM, .inr (6, [.int (iI tm), .ref aT, .int (iI om), .ref aO, .int (iI tn), .ref aK, .ref aS, .ref aC, .ref aU, .ref aG, .ref aY, .ref aX, .int (iI qn), .ref aP, .int (iI tr), .int (iI rg), .int (iI ll), .int (iI p), .int (iI f), .int (iI ov), .int (iI sz), .ref aM, .int (iI tz), .ref aA, .int (iI dv), .ref aD, .ref aB, .ref aV, .ref aE])), (aD, .inl (cI, 3000, .inl Dv))] H → va_D xA0 [(mM, .inr (6, [.int (iI tm), .ref aT, .int (iI om), .ref aO, .int (iI tn), .ref aK, .ref aS, .ref aC, .ref aU, .ref aG, .ref aY, .ref aX, .int (iI qn), .ref aP, .int (iI tr), .int (iI rg), .int (iI ll), .int (iI p), .int (iI f), .int (iI ov), .int (iI sz), .ref aM, .int (iI tz), .ref aA, .int (iI dv), .ref aD, .ref aB, .ref aV, .ref aE])), (aD, .inl (cI, 3000, .inl Dv))] → va_S xA0 xs.heap H locs → ∀ ls : Array Slot, lv_has ls 5 [(0, .ref mM), (1, .int (iI v)), (3, .int (iI k))] → W xp l xe0 (tk_rm 1) xs xm xar xbelow xmeth xc H locs 0 0 xQ (F0 xm 4 ls []) := by
    intro n9
    induction n9 with
    | zero => intro k X0 dv Dv h9; exact absurd h9 (Nat.not_lt_zero _)
    | succ n9 ih9 =>
      intro k X0 dv Dv hm9 hk hP hX H locs xP xD xS ls xl
      have ih_4 := ih9
      have hm_4 := hm9
      have HC := hP
      have hgr := HC.1
      try simp only [List.length_append, List.length_cons, List.length_nil] at hgr
      refine lv_iload_n xe xb d_TripleLinesModel_putHex_4 rfl (lv_at xl 2 rfl) ?_
      refine tk_if_lt (tgt := 51) xe xb d_TripleLinesModel_putHex_5 (by decide) (by omega) (fun C5 => ?_) (fun C5 => ?_)
      · exact xret _ _ _ _ (dv, Dv) d_TripleLinesModel_putHex_51 (by first | exact (PwM_cast HC (by rw [← hX, show (k + 1).toNat = 0 by omega, ex, List.append_nil])) | (dsimp only; exact (PwM_cast HC (by rw [← hX, show (k + 1).toNat = 0 by omega, ex, List.append_nil])))) xP xD xS
      · refine lv_iload_n xe xb d_TripleLinesModel_putHex_8 rfl (lv_at xl 1 rfl) ?_
        refine lv_iconst (v := iI (4)) xe xb d_TripleLinesModel_putHex_9 rfl ?_
        refine lv_iload_n xe xb d_TripleLinesModel_putHex_10 rfl (lv_at xl 2 rfl) ?_
        refine tk_imul xe xb d_TripleLinesModel_putHex_11 ?_
        refine tk_ishr xe xb d_TripleLinesModel_putHex_12 ?_
        refine lv_bipush (v := iI (15)) xe xb d_TripleLinesModel_putHex_13 (by decide) ?_
        refine tk_iand xe xb d_TripleLinesModel_putHex_15 ?_
        have hd := anI_15 (shI v (4 * k))
        refine lv_istore (lv' := [(4, .int (iI (anI (shI v (4 * k)) 15))), (0, .ref mM), (1, .int (iI v)), (3, .int (iI k))]) xe xb d_TripleLinesModel_putHex_16 xl (by decide) rfl ?_
        clear xl
        intro ls xl
        refine lv_aload_n xe xb d_TripleLinesModel_putHex_18 rfl (lv_at xl 1 rfl) ?_
        refine lv_iload xe xb d_TripleLinesModel_putHex_19 (lv_at xl 0 rfl) ?_
        refine lv_bipush (v := iI (10)) xe xb d_TripleLinesModel_putHex_21 (by decide) ?_
        refine tk_icmp_ge (tgt := 34) xe xb d_TripleLinesModel_putHex_23 (by decide) (by omega) (fun C23 => ?_) (fun C23 => ?_)
        · refine lv_bipush (v := iI (65)) xe xb d_TripleLinesModel_putHex_34 (by decide) ?_
          refine lv_iload xe xb d_TripleLinesModel_putHex_36 (lv_at xl 0 rfl) ?_
          refine tk_iadd xe xb d_TripleLinesModel_putHex_38 ?_
          refine lv_bipush (v := iI (10)) xe xb d_TripleLinesModel_putHex_39 (by decide) ?_
          refine tk_isub xe xb d_TripleLinesModel_putHex_41 ?_
          refine tk_callVv (As := [.int (iI ((65 + (anI (shI v (4 * k)) 15)) - 10))]) (rest := []) (wr := []) (wn := fun u => [(mM, .inr (6, [.int (iI tm), .ref aT, .int (iI om), .ref aO, .int (iI tn), .ref aK, .ref aS, .ref aC, .ref aU, .ref aG, .ref aY, .ref aX, .int (iI qn), .ref aP, .int (iI tr), .int (iI rg), .int (iI ll), .int (iI p), .int (iI f), .int (iI ov), .int (iI sz), .ref aM, .int (iI tz), .ref aA, .int (iI u.1), .ref aD, .ref aB, .ref aV, .ref aE])), (aD, .inl (cI, 3000, .inl u.2))]) ⟨xe, xb, xml, xo, xt⟩ (c_TripleLinesModel_put l D cI mM tm aT om aO tn aK aS aC aU aG aY aX qn aP tr rg ll p f ov sz aM tz aA dv aD aB aV aE Dv ((65 + (anI (shI v (4 * k)) 15)) - 10) (by first | assumption | omega) (by first | assumption | omega)) k_TripleLinesModel_put mw_TripleLinesModel_229 ⟨Nat.le_of_ble_eq_true rfl, Nat.le_of_ble_eq_true rfl⟩ xK xP xD xS xA rfl xl.1 rfl (Nat.le_of_ble_eq_true rfl) d_TripleLinesModel_putHex_42 ⟨Nat.zero_le _, Nat.zero_le _⟩ [0, 1] [] [0, 1] rfl rfl (by decide) (by decide) (by decide) (by decide) (fun _ => rfl) rfl rfl rfl ?_
          clear xP xD xS
          intro u H locs hw_3 xP xD xS
          obtain ⟨dm2_1, DR2_2⟩ := u
          try dsimp only at hw_3
          replace xP : va_P D classes [(mM, .inr (6, [.int (iI tm), .ref aT, .int (iI om), .ref aO, .int (iI tn), .ref aK, .ref aS, .ref aC, .ref aU, .ref aG, .ref aY, .ref aX, .int (iI qn), .ref aP, .int (iI tr), .int (iI rg), .int (iI ll), .int (iI p), .int (iI f), .int (iI ov), .int (iI sz), .ref aM, .int (iI tz), .ref aA, .int (iI dm2_1), .ref aD, .ref aB, .ref aV, .ref aE])), (aD, .inl (cI, 3000, .inl DR2_2))] H := xP
          replace xD : va_D xA0 [(mM, .inr (6, [.int (iI tm), .ref aT, .int (iI om), .ref aO, .int (iI tn), .ref aK, .ref aS, .ref aC, .ref aU, .ref aG, .ref aY, .ref aX, .int (iI qn), .ref aP, .int (iI tr), .int (iI rg), .int (iI ll), .int (iI p), .int (iI f), .int (iI ov), .int (iI sz), .ref aM, .int (iI tz), .ref aA, .int (iI dm2_1), .ref aD, .ref aB, .ref aV, .ref aE])), (aD, .inl (cI, 3000, .inl DR2_2))] := xD
          replace HC := PwM_trans hdm.1 HC hw_3
          have hgr := HC.1
          simp only [List.length_append, List.length_cons, List.length_nil] at hgr
          clear hw_3
          refine tk_iinc (v := (k + (-1))) (lv' := [(3, .int (iI (k + (-1)))), (4, .int (iI (anI (shI v (4 * k)) 15))), (0, .ref mM), (1, .int (iI v))]) xe xb d_TripleLinesModel_putHex_45 xl (k := 3) rfl rfl (by decide) rfl ?_
          clear xl
          intro ls xl
          refine lv_goto (tgt := 4) xe xb d_TripleLinesModel_putHex_48 (by decide) ?_
          exact ih_4 (k + (-1)) (X0 ++ [hc (hx v (4 * k))]) dm2_1 DR2_2 (by omega) (by simp only [List.length_append, List.length_cons, List.length_nil]; omega) (PwM_cast HC (congrArg (fun y => X0 ++ [y]) (if_neg (Int.not_lt.mpr C23) : hc (hx v (4 * k)) = _).symm)) (ex_appM C5 hX) _ _ xP xD xS ls (lv_sub xl [2, 3, 0] rfl)
        · refine lv_bipush (v := iI (48)) xe xb d_TripleLinesModel_putHex_26 (by decide) ?_
          refine lv_iload xe xb d_TripleLinesModel_putHex_28 (lv_at xl 0 rfl) ?_
          refine tk_iadd xe xb d_TripleLinesModel_putHex_30 ?_
          refine lv_goto (tgt := 42) xe xb d_TripleLinesModel_putHex_31 (by decide) ?_
          refine tk_callVv (As := [.int (iI (48 + (anI (shI v (4 * k)) 15)))]) (rest := []) (wr := []) (wn := fun u => [(mM, .inr (6, [.int (iI tm), .ref aT, .int (iI om), .ref aO, .int (iI tn), .ref aK, .ref aS, .ref aC, .ref aU, .ref aG, .ref aY, .ref aX, .int (iI qn), .ref aP, .int (iI tr), .int (iI rg), .int (iI ll), .int (iI p), .int (iI f), .int (iI ov), .int (iI sz), .ref aM, .int (iI tz), .ref aA, .int (iI u.1), .ref aD, .ref aB, .ref aV, .ref aE])), (aD, .inl (cI, 3000, .inl u.2))]) ⟨xe, xb, xml, xo, xt⟩ (c_TripleLinesModel_put l D cI mM tm aT om aO tn aK aS aC aU aG aY aX qn aP tr rg ll p f ov sz aM tz aA dv aD aB aV aE Dv (48 + (anI (shI v (4 * k)) 15)) (by first | assumption | omega) (by first | assumption | omega)) k_TripleLinesModel_put mw_TripleLinesModel_229 ⟨Nat.le_of_ble_eq_true rfl, Nat.le_of_ble_eq_true rfl⟩ xK xP xD xS xA rfl xl.1 rfl (Nat.le_of_ble_eq_true rfl) d_TripleLinesModel_putHex_42 ⟨Nat.zero_le _, Nat.zero_le _⟩ [0, 1] [] [0, 1] rfl rfl (by decide) (by decide) (by decide) (by decide) (fun _ => rfl) rfl rfl rfl ?_
          clear xP xD xS
          intro u H locs hw_7 xP xD xS
          obtain ⟨dm2_5, DR2_6⟩ := u
          try dsimp only at hw_7
          replace xP : va_P D classes [(mM, .inr (6, [.int (iI tm), .ref aT, .int (iI om), .ref aO, .int (iI tn), .ref aK, .ref aS, .ref aC, .ref aU, .ref aG, .ref aY, .ref aX, .int (iI qn), .ref aP, .int (iI tr), .int (iI rg), .int (iI ll), .int (iI p), .int (iI f), .int (iI ov), .int (iI sz), .ref aM, .int (iI tz), .ref aA, .int (iI dm2_5), .ref aD, .ref aB, .ref aV, .ref aE])), (aD, .inl (cI, 3000, .inl DR2_6))] H := xP
          replace xD : va_D xA0 [(mM, .inr (6, [.int (iI tm), .ref aT, .int (iI om), .ref aO, .int (iI tn), .ref aK, .ref aS, .ref aC, .ref aU, .ref aG, .ref aY, .ref aX, .int (iI qn), .ref aP, .int (iI tr), .int (iI rg), .int (iI ll), .int (iI p), .int (iI f), .int (iI ov), .int (iI sz), .ref aM, .int (iI tz), .ref aA, .int (iI dm2_5), .ref aD, .ref aB, .ref aV, .ref aE])), (aD, .inl (cI, 3000, .inl DR2_6))] := xD
          replace HC := PwM_trans hdm.1 HC hw_7
          have hgr := HC.1
          simp only [List.length_append, List.length_cons, List.length_nil] at hgr
          clear hw_7
          refine tk_iinc (v := (k + (-1))) (lv' := [(3, .int (iI (k + (-1)))), (4, .int (iI (anI (shI v (4 * k)) 15))), (0, .ref mM), (1, .int (iI v))]) xe xb d_TripleLinesModel_putHex_45 xl (k := 3) rfl rfl (by decide) rfl ?_
          clear xl
          intro ls xl
          refine lv_goto (tgt := 4) xe xb d_TripleLinesModel_putHex_48 (by decide) ?_
          exact ih_4 (k + (-1)) (X0 ++ [hc (hx v (4 * k))]) dm2_5 DR2_6 (by omega) (by simp only [List.length_append, List.length_cons, List.length_nil]; omega) (PwM_cast HC (congrArg (fun y => X0 ++ [y]) (if_pos C23 : hc (hx v (4 * k)) = _).symm)) (ex_appM C5 hX) _ _ xP xD xS ls (lv_sub xl [2, 3, 0] rfl)
  exact loop_4 _ (n - 1) ([]) dm DR (Nat.lt_succ_self _) (by simp only [List.length_nil]; omega) HC (by rw [List.nil_append, show n - 1 + 1 = n by omega]) _ _ xP xD xS ls (lv_sub xl [1, 2, 0] rfl)
set_option maxHeartbeats 4000000 in
set_option maxRecDepth 100000 in
theorem c_TripleLinesModel_putCode (l : Launch) (D : va_G) (cI : ClassId) (mM : Nat) (tm : Int) (aT : Nat) (om : Int) (aO : Nat) (tn : Int) (aK : Nat) (aS : Nat) (aC : Nat) (aU : Nat) (aG : Nat) (aY : Nat) (aX : Nat) (qn : Int) (aP : Nat) (tr : Int) (rg : Int) (ll : Int) (p : Int) (f : Int) (ov : Int) (sz : Int) (aM : Nat) (tz : Int) (aA : Nat) (dm : Int) (aD : Nat) (aB : Nat) (aV : Nat) (aE : Nat) (DR : Nat → Int32) (c : Int) (b : Int) (hdm : 0 ≤ dm ∧ dm ≤ 1999999980) (hc0 : -2147483648 ≤ c ∧ c < 2147483648) (hb : b = 0 ∨ b = 1) : CtV l D [(cI, .int)] y_TripleLinesModel_putCode b_TripleLinesModel_putCode 3 2 [.ref mM, .int (iI c), .int (iI b)] [(mM, .inr (6, [.int (iI tm), .ref aT, .int (iI om), .ref aO, .int (iI tn), .ref aK, .ref aS, .ref aC, .ref aU, .ref aG, .ref aY, .ref aX, .int (iI qn), .ref aP, .int (iI tr), .int (iI rg), .int (iI ll), .int (iI p), .int (iI f), .int (iI ov), .int (iI sz), .ref aM, .int (iI tz), .ref aA, .int (iI dm), .ref aD, .ref aB, .ref aV, .ref aE])), (aD, .inl (cI, 3000, .inl DR))] (S := Int × (Nat → Int32)) (fun u => PwM u.1 u.2 dm DR (ct b c)) (fun u => [(mM, .inr (6, [.int (iI tm), .ref aT, .int (iI om), .ref aO, .int (iI tn), .ref aK, .ref aS, .ref aC, .ref aU, .ref aG, .ref aY, .ref aX, .int (iI qn), .ref aP, .int (iI tr), .int (iI rg), .int (iI ll), .int (iI p), .int (iI f), .int (iI ov), .int (iI sz), .ref aM, .int (iI tz), .ref aA, .int (iI u.1), .ref aD, .ref aB, .ref aV, .ref aE])), (aD, .inl (cI, 3000, .inl u.2))]) := by
  refine CtV.walk (by decide) (Nat.le_of_ble_eq_true rfl) ?_
  intro xp xe0 xs xm xar xbelow xmeth xc xA0 xQ xe xb xml xo xt xP xK xD xA xret ls xl xS
  have xl : lv_has ls 3 [(0, .ref mM), (1, .int (iI c)), (2, .int (iI b))] := xl
  have xo : xs.vm.findClass R_TripleLinesModel = some xm.cls := xo
  have HC := PwM_nil (D := DR) hdm.1
  have loop_77 : (¬ (32 ≤ c ∧ c ≤ 126)) → (b ≠ 1 ∨ ltr c < 0) → ∀ (H : Heap) (locs : List Loc), va_P D classes [(mM, .inr (6, [.int (iI tm), .ref aT, .int (iI om), .ref aO, .int (iI tn), .ref aK, .ref aS, .ref aC, .ref aU, .ref aG, .ref aY, .ref aX, .int (iI qn), .ref aP, .int (iI tr), .int (iI rg), .int (iI ll), .int (iI p), .int (iI f), .int (iI ov), .int (iI sz), .ref aM, .int (iI tz), .ref aA, .int (iI dm), .ref aD, .ref aB, .ref aV, .ref aE])), (aD, .inl (cI, 3000, .inl DR))] H → va_D xA0 [(mM, .inr (6, [.int (iI tm), .ref aT, .int (iI om), .ref aO, .int (iI tn), .ref aK, .ref aS, .ref aC, .ref aU, .ref aG, .ref aY, .ref aX, .int (iI qn), .ref aP, .int (iI tr), .int (iI rg), .int (iI ll), .int (iI p), .int (iI f), .int (iI ov), .int (iI sz), .ref aM, .int (iI tz), .ref aA, .int (iI dm), .ref aD, .ref aB, .ref aV, .ref aE])), (aD, .inl (cI, 3000, .inl DR))] → va_S xA0 xs.heap H locs → ∀ ls : Array Slot, lv_has ls 3 [(0, .ref mM), (1, .int (iI c)), (2, .int (iI b))] → W xp l xe0 (tk_rm 2) xs xm xar xbelow xmeth xc H locs 0 0 xQ (F0 xm 77 ls []) := by
    intro  Hi hq2 H locs xP xD xS ls xl
    refine lv_aload_n xe xb d_TripleLinesModel_putCode_77 rfl (lv_at xl 0 rfl) ?_
    refine lv_bipush (v := iI (92)) xe xb d_TripleLinesModel_putCode_78 (by decide) ?_
    refine tk_callVv (As := [.int (iI 92)]) (rest := []) (wr := []) (wn := fun u => [(mM, .inr (6, [.int (iI tm), .ref aT, .int (iI om), .ref aO, .int (iI tn), .ref aK, .ref aS, .ref aC, .ref aU, .ref aG, .ref aY, .ref aX, .int (iI qn), .ref aP, .int (iI tr), .int (iI rg), .int (iI ll), .int (iI p), .int (iI f), .int (iI ov), .int (iI sz), .ref aM, .int (iI tz), .ref aA, .int (iI u.1), .ref aD, .ref aB, .ref aV, .ref aE])), (aD, .inl (cI, 3000, .inl u.2))]) ⟨xe, xb, xml, xo, xt⟩ (c_TripleLinesModel_put l D cI mM tm aT om aO tn aK aS aC aU aG aY aX qn aP tr rg ll p f ov sz aM tz aA dm aD aB aV aE DR 92 (by first | assumption | omega) (by first | assumption | omega)) k_TripleLinesModel_put mw_TripleLinesModel_229 ⟨Nat.le_of_ble_eq_true rfl, Nat.le_of_ble_eq_true rfl⟩ xK xP xD xS xA rfl xl.1 rfl (Nat.le_of_ble_eq_true rfl) d_TripleLinesModel_putCode_80 ⟨Nat.zero_le _, Nat.zero_le _⟩ [0, 1] [] [0, 1] rfl rfl (by decide) (by decide) (by decide) (by decide) (fun _ => rfl) rfl rfl rfl ?_
    clear xP xD xS
    intro u H locs hw_3 xP xD xS
    obtain ⟨dm2_1, DR2_2⟩ := u
    try dsimp only at hw_3
    replace xP : va_P D classes [(mM, .inr (6, [.int (iI tm), .ref aT, .int (iI om), .ref aO, .int (iI tn), .ref aK, .ref aS, .ref aC, .ref aU, .ref aG, .ref aY, .ref aX, .int (iI qn), .ref aP, .int (iI tr), .int (iI rg), .int (iI ll), .int (iI p), .int (iI f), .int (iI ov), .int (iI sz), .ref aM, .int (iI tz), .ref aA, .int (iI dm2_1), .ref aD, .ref aB, .ref aV, .ref aE])), (aD, .inl (cI, 3000, .inl DR2_2))] H := xP
    replace xD : va_D xA0 [(mM, .inr (6, [.int (iI tm), .ref aT, .int (iI om), .ref aO, .int (iI tn), .ref aK, .ref aS, .ref aC, .ref aU, .ref aG, .ref aY, .ref aX, .int (iI qn), .ref aP, .int (iI tr), .int (iI rg), .int (iI ll), .int (iI p), .int (iI f), .int (iI ov), .int (iI sz), .ref aM, .int (iI tz), .ref aA, .int (iI dm2_1), .ref aD, .ref aB, .ref aV, .ref aE])), (aD, .inl (cI, 3000, .inl DR2_2))] := xD
    replace HC := PwM_trans hdm.1 HC hw_3
    have hgr := HC.1
    simp only [List.length_append, List.length_cons, List.length_nil] at hgr
    clear hw_3
    refine lv_aload_n xe xb d_TripleLinesModel_putCode_83 rfl (lv_at xl 0 rfl) ?_
    refine lv_iload_n xe xb d_TripleLinesModel_putCode_84 rfl (lv_at xl 1 rfl) ?_
    refine lv_ldc xe xb xo (xt _ mw_TripleLinesModel_235) d_TripleLinesModel_putCode_85 ?_
    refine tk_top (y := iI (65535)) (by decide) ?_
    refine tk_icmp_le (tgt := 95) xe xb d_TripleLinesModel_putCode_87 (by decide) (by omega) (fun C87 => ?_) (fun C87 => ?_)
    · refine lv_bipush (v := iI (117)) xe xb d_TripleLinesModel_putCode_95 (by decide) ?_
      refine tk_callVv (As := [.int (iI 117)]) (rest := []) (wr := []) (wn := fun u => [(mM, .inr (6, [.int (iI tm), .ref aT, .int (iI om), .ref aO, .int (iI tn), .ref aK, .ref aS, .ref aC, .ref aU, .ref aG, .ref aY, .ref aX, .int (iI qn), .ref aP, .int (iI tr), .int (iI rg), .int (iI ll), .int (iI p), .int (iI f), .int (iI ov), .int (iI sz), .ref aM, .int (iI tz), .ref aA, .int (iI u.1), .ref aD, .ref aB, .ref aV, .ref aE])), (aD, .inl (cI, 3000, .inl u.2))]) ⟨xe, xb, xml, xo, xt⟩ (c_TripleLinesModel_put l D cI mM tm aT om aO tn aK aS aC aU aG aY aX qn aP tr rg ll p f ov sz aM tz aA dm2_1 aD aB aV aE DR2_2 117 (by first | assumption | omega) (by first | assumption | omega)) k_TripleLinesModel_put mw_TripleLinesModel_229 ⟨Nat.le_of_ble_eq_true rfl, Nat.le_of_ble_eq_true rfl⟩ xK xP xD xS xA rfl xl.1 rfl (Nat.le_of_ble_eq_true rfl) d_TripleLinesModel_putCode_97 ⟨Nat.zero_le _, Nat.zero_le _⟩ [0, 1] [] [0, 1] rfl rfl (by decide) (by decide) (by decide) (by decide) (fun _ => rfl) rfl rfl rfl ?_
      clear xP xD xS
      intro u H locs hw_7 xP xD xS
      obtain ⟨dm2_5, DR2_6⟩ := u
      try dsimp only at hw_7
      replace xP : va_P D classes [(mM, .inr (6, [.int (iI tm), .ref aT, .int (iI om), .ref aO, .int (iI tn), .ref aK, .ref aS, .ref aC, .ref aU, .ref aG, .ref aY, .ref aX, .int (iI qn), .ref aP, .int (iI tr), .int (iI rg), .int (iI ll), .int (iI p), .int (iI f), .int (iI ov), .int (iI sz), .ref aM, .int (iI tz), .ref aA, .int (iI dm2_5), .ref aD, .ref aB, .ref aV, .ref aE])), (aD, .inl (cI, 3000, .inl DR2_6))] H := xP
      replace xD : va_D xA0 [(mM, .inr (6, [.int (iI tm), .ref aT, .int (iI om), .ref aO, .int (iI tn), .ref aK, .ref aS, .ref aC, .ref aU, .ref aG, .ref aY, .ref aX, .int (iI qn), .ref aP, .int (iI tr), .int (iI rg), .int (iI ll), .int (iI p), .int (iI f), .int (iI ov), .int (iI sz), .ref aM, .int (iI tz), .ref aA, .int (iI dm2_5), .ref aD, .ref aB, .ref aV, .ref aE])), (aD, .inl (cI, 3000, .inl DR2_6))] := xD
      replace HC := PwM_trans hdm.1 HC hw_7
      have hgr := HC.1
      simp only [List.length_append, List.length_cons, List.length_nil] at hgr
      clear hw_7
      refine lv_aload_n xe xb d_TripleLinesModel_putCode_100 rfl (lv_at xl 0 rfl) ?_
      refine lv_iload_n xe xb d_TripleLinesModel_putCode_101 rfl (lv_at xl 1 rfl) ?_
      refine lv_iload_n xe xb d_TripleLinesModel_putCode_102 rfl (lv_at xl 1 rfl) ?_
      refine lv_ldc xe xb xo (xt _ mw_TripleLinesModel_235) d_TripleLinesModel_putCode_103 ?_
      refine tk_top (y := iI (65535)) (by decide) ?_
      refine tk_icmp_le (tgt := 113) xe xb d_TripleLinesModel_putCode_105 (by decide) (by omega) (fun c_9 => ?_) (fun c_9 => absurd c_9 (by omega))
      refine lv_iconst (v := iI (4)) xe xb d_TripleLinesModel_putCode_113 rfl ?_
      refine tk_callVv (As := [.int (iI c), .int (iI 4)]) (rest := []) (wr := []) (wn := fun u => [(mM, .inr (6, [.int (iI tm), .ref aT, .int (iI om), .ref aO, .int (iI tn), .ref aK, .ref aS, .ref aC, .ref aU, .ref aG, .ref aY, .ref aX, .int (iI qn), .ref aP, .int (iI tr), .int (iI rg), .int (iI ll), .int (iI p), .int (iI f), .int (iI ov), .int (iI sz), .ref aM, .int (iI tz), .ref aA, .int (iI u.1), .ref aD, .ref aB, .ref aV, .ref aE])), (aD, .inl (cI, 3000, .inl u.2))]) ⟨xe, xb, xml, xo, xt⟩ (c_TripleLinesModel_putHex l D cI mM tm aT om aO tn aK aS aC aU aG aY aX qn aP tr rg ll p f ov sz aM tz aA dm2_5 aD aB aV aE DR2_6 c 4 (by first | assumption | omega) (by first | assumption | omega) (by first | assumption | omega)) k_TripleLinesModel_putHex mw_TripleLinesModel_236 ⟨Nat.le_of_ble_eq_true rfl, Nat.le_of_ble_eq_true rfl⟩ xK xP xD xS xA rfl xl.1 rfl (Nat.le_of_ble_eq_true rfl) d_TripleLinesModel_putCode_114 ⟨Nat.zero_le _, Nat.zero_le _⟩ [0, 1] [] [0, 1] rfl rfl (by decide) (by decide) (by decide) (by decide) (fun _ => rfl) rfl rfl rfl ?_
      clear xP xD xS
      intro u H locs hw_12 xP xD xS
      obtain ⟨dm2_10, DR2_11⟩ := u
      try dsimp only at hw_12
      replace xP : va_P D classes [(mM, .inr (6, [.int (iI tm), .ref aT, .int (iI om), .ref aO, .int (iI tn), .ref aK, .ref aS, .ref aC, .ref aU, .ref aG, .ref aY, .ref aX, .int (iI qn), .ref aP, .int (iI tr), .int (iI rg), .int (iI ll), .int (iI p), .int (iI f), .int (iI ov), .int (iI sz), .ref aM, .int (iI tz), .ref aA, .int (iI dm2_10), .ref aD, .ref aB, .ref aV, .ref aE])), (aD, .inl (cI, 3000, .inl DR2_11))] H := xP
      replace xD : va_D xA0 [(mM, .inr (6, [.int (iI tm), .ref aT, .int (iI om), .ref aO, .int (iI tn), .ref aK, .ref aS, .ref aC, .ref aU, .ref aG, .ref aY, .ref aX, .int (iI qn), .ref aP, .int (iI tr), .int (iI rg), .int (iI ll), .int (iI p), .int (iI f), .int (iI ov), .int (iI sz), .ref aM, .int (iI tz), .ref aA, .int (iI dm2_10), .ref aD, .ref aB, .ref aV, .ref aE])), (aD, .inl (cI, 3000, .inl DR2_11))] := xD
      replace HC := PwM_trans hdm.1 HC hw_12
      have hgr := HC.1
      simp only [List.length_append, List.length_cons, List.length_nil] at hgr
      clear hw_12
      exact xret _ _ _ _ (dm2_10, DR2_11) d_TripleLinesModel_putCode_117 (by first | exact (PwM_cast HC (by rw [ct_esc Hi hq2]; exact (if_pos C87).symm)) | (dsimp only; exact (PwM_cast HC (by rw [ct_esc Hi hq2]; exact (if_pos C87).symm)))) xP xD xS
    · refine lv_bipush (v := iI (85)) xe xb d_TripleLinesModel_putCode_90 (by decide) ?_
      refine lv_goto (tgt := 97) xe xb d_TripleLinesModel_putCode_92 (by decide) ?_
      refine tk_callVv (As := [.int (iI 85)]) (rest := []) (wr := []) (wn := fun u => [(mM, .inr (6, [.int (iI tm), .ref aT, .int (iI om), .ref aO, .int (iI tn), .ref aK, .ref aS, .ref aC, .ref aU, .ref aG, .ref aY, .ref aX, .int (iI qn), .ref aP, .int (iI tr), .int (iI rg), .int (iI ll), .int (iI p), .int (iI f), .int (iI ov), .int (iI sz), .ref aM, .int (iI tz), .ref aA, .int (iI u.1), .ref aD, .ref aB, .ref aV, .ref aE])), (aD, .inl (cI, 3000, .inl u.2))]) ⟨xe, xb, xml, xo, xt⟩ (c_TripleLinesModel_put l D cI mM tm aT om aO tn aK aS aC aU aG aY aX qn aP tr rg ll p f ov sz aM tz aA dm2_1 aD aB aV aE DR2_2 85 (by first | assumption | omega) (by first | assumption | omega)) k_TripleLinesModel_put mw_TripleLinesModel_229 ⟨Nat.le_of_ble_eq_true rfl, Nat.le_of_ble_eq_true rfl⟩ xK xP xD xS xA rfl xl.1 rfl (Nat.le_of_ble_eq_true rfl) d_TripleLinesModel_putCode_97 ⟨Nat.zero_le _, Nat.zero_le _⟩ [0, 1] [] [0, 1] rfl rfl (by decide) (by decide) (by decide) (by decide) (fun _ => rfl) rfl rfl rfl ?_
      clear xP xD xS
      intro u H locs hw_16 xP xD xS
      obtain ⟨dm2_14, DR2_15⟩ := u
      try dsimp only at hw_16
      replace xP : va_P D classes [(mM, .inr (6, [.int (iI tm), .ref aT, .int (iI om), .ref aO, .int (iI tn), .ref aK, .ref aS, .ref aC, .ref aU, .ref aG, .ref aY, .ref aX, .int (iI qn), .ref aP, .int (iI tr), .int (iI rg), .int (iI ll), .int (iI p), .int (iI f), .int (iI ov), .int (iI sz), .ref aM, .int (iI tz), .ref aA, .int (iI dm2_14), .ref aD, .ref aB, .ref aV, .ref aE])), (aD, .inl (cI, 3000, .inl DR2_15))] H := xP
      replace xD : va_D xA0 [(mM, .inr (6, [.int (iI tm), .ref aT, .int (iI om), .ref aO, .int (iI tn), .ref aK, .ref aS, .ref aC, .ref aU, .ref aG, .ref aY, .ref aX, .int (iI qn), .ref aP, .int (iI tr), .int (iI rg), .int (iI ll), .int (iI p), .int (iI f), .int (iI ov), .int (iI sz), .ref aM, .int (iI tz), .ref aA, .int (iI dm2_14), .ref aD, .ref aB, .ref aV, .ref aE])), (aD, .inl (cI, 3000, .inl DR2_15))] := xD
      replace HC := PwM_trans hdm.1 HC hw_16
      have hgr := HC.1
      simp only [List.length_append, List.length_cons, List.length_nil] at hgr
      clear hw_16
      refine lv_aload_n xe xb d_TripleLinesModel_putCode_100 rfl (lv_at xl 0 rfl) ?_
      refine lv_iload_n xe xb d_TripleLinesModel_putCode_101 rfl (lv_at xl 1 rfl) ?_
      refine lv_iload_n xe xb d_TripleLinesModel_putCode_102 rfl (lv_at xl 1 rfl) ?_
      refine lv_ldc xe xb xo (xt _ mw_TripleLinesModel_235) d_TripleLinesModel_putCode_103 ?_
      refine tk_top (y := iI (65535)) (by decide) ?_
      refine tk_icmp_le (tgt := 113) xe xb d_TripleLinesModel_putCode_105 (by decide) (by omega) (fun c_18 => absurd c_18 (by omega)) (fun c_18 => ?_)
      refine lv_bipush (v := iI (8)) xe xb d_TripleLinesModel_putCode_108 (by decide) ?_
      refine lv_goto (tgt := 114) xe xb d_TripleLinesModel_putCode_110 (by decide) ?_
      refine tk_callVv (As := [.int (iI c), .int (iI 8)]) (rest := []) (wr := []) (wn := fun u => [(mM, .inr (6, [.int (iI tm), .ref aT, .int (iI om), .ref aO, .int (iI tn), .ref aK, .ref aS, .ref aC, .ref aU, .ref aG, .ref aY, .ref aX, .int (iI qn), .ref aP, .int (iI tr), .int (iI rg), .int (iI ll), .int (iI p), .int (iI f), .int (iI ov), .int (iI sz), .ref aM, .int (iI tz), .ref aA, .int (iI u.1), .ref aD, .ref aB, .ref aV, .ref aE])), (aD, .inl (cI, 3000, .inl u.2))]) ⟨xe, xb, xml, xo, xt⟩ (c_TripleLinesModel_putHex l D cI mM tm aT om aO tn aK aS aC aU aG aY aX qn aP tr rg ll p f ov sz aM tz aA dm2_14 aD aB aV aE DR2_15 c 8 (by first | assumption | omega) (by first | assumption | omega) (by first | assumption | omega)) k_TripleLinesModel_putHex mw_TripleLinesModel_236 ⟨Nat.le_of_ble_eq_true rfl, Nat.le_of_ble_eq_true rfl⟩ xK xP xD xS xA rfl xl.1 rfl (Nat.le_of_ble_eq_true rfl) d_TripleLinesModel_putCode_114 ⟨Nat.zero_le _, Nat.zero_le _⟩ [0, 1] [] [0, 1] rfl rfl (by decide) (by decide) (by decide) (by decide) (fun _ => rfl) rfl rfl rfl ?_
      clear xP xD xS
      intro u H locs hw_21 xP xD xS
      obtain ⟨dm2_19, DR2_20⟩ := u
      try dsimp only at hw_21
      replace xP : va_P D classes [(mM, .inr (6, [.int (iI tm), .ref aT, .int (iI om), .ref aO, .int (iI tn), .ref aK, .ref aS, .ref aC, .ref aU, .ref aG, .ref aY, .ref aX, .int (iI qn), .ref aP, .int (iI tr), .int (iI rg), .int (iI ll), .int (iI p), .int (iI f), .int (iI ov), .int (iI sz), .ref aM, .int (iI tz), .ref aA, .int (iI dm2_19), .ref aD, .ref aB, .ref aV, .ref aE])), (aD, .inl (cI, 3000, .inl DR2_20))] H := xP
      replace xD : va_D xA0 [(mM, .inr (6, [.int (iI tm), .ref aT, .int (iI om), .ref aO, .int (iI tn), .ref aK, .ref aS, .ref aC, .ref aU, .ref aG, .ref aY, .ref aX, .int (iI qn), .ref aP, .int (iI tr), .int (iI rg), .int (iI ll), .int (iI p), .int (iI f), .int (iI ov), .int (iI sz), .ref aM, .int (iI tz), .ref aA, .int (iI dm2_19), .ref aD, .ref aB, .ref aV, .ref aE])), (aD, .inl (cI, 3000, .inl DR2_20))] := xD
      replace HC := PwM_trans hdm.1 HC hw_21
      have hgr := HC.1
      simp only [List.length_append, List.length_cons, List.length_nil] at hgr
      clear hw_21
      exact xret _ _ _ _ (dm2_19, DR2_20) d_TripleLinesModel_putCode_117 (by first | exact (PwM_cast HC (by rw [ct_esc Hi hq2]; exact (if_neg (by omega)).symm)) | (dsimp only; exact (PwM_cast HC (by rw [ct_esc Hi hq2]; exact (if_neg (by omega)).symm)))) xP xD xS
  have loop_30 : (¬ (b = 1 ∧ (c = 34 ∨ c = 92))) → ∀ (H : Heap) (locs : List Loc), va_P D classes [(mM, .inr (6, [.int (iI tm), .ref aT, .int (iI om), .ref aO, .int (iI tn), .ref aK, .ref aS, .ref aC, .ref aU, .ref aG, .ref aY, .ref aX, .int (iI qn), .ref aP, .int (iI tr), .int (iI rg), .int (iI ll), .int (iI p), .int (iI f), .int (iI ov), .int (iI sz), .ref aM, .int (iI tz), .ref aA, .int (iI dm), .ref aD, .ref aB, .ref aV, .ref aE])), (aD, .inl (cI, 3000, .inl DR))] H → va_D xA0 [(mM, .inr (6, [.int (iI tm), .ref aT, .int (iI om), .ref aO, .int (iI tn), .ref aK, .ref aS, .ref aC, .ref aU, .ref aG, .ref aY, .ref aX, .int (iI qn), .ref aP, .int (iI tr), .int (iI rg), .int (iI ll), .int (iI p), .int (iI f), .int (iI ov), .int (iI sz), .ref aM, .int (iI tz), .ref aA, .int (iI dm), .ref aD, .ref aB, .ref aV, .ref aE])), (aD, .inl (cI, 3000, .inl DR))] → va_S xA0 xs.heap H locs → ∀ ls : Array Slot, lv_has ls 3 [(0, .ref mM), (1, .int (iI c)), (2, .int (iI b))] → W xp l xe0 (tk_rm 2) xs xm xar xbelow xmeth xc H locs 0 0 xQ (F0 xm 30 ls []) := by
    intro  hq H locs xP xD xS ls xl
    refine lv_iload_n xe xb d_TripleLinesModel_putCode_30 rfl (lv_at xl 1 rfl) ?_
    refine lv_bipush (v := iI (32)) xe xb d_TripleLinesModel_putCode_31 (by decide) ?_
    refine lv_bipush (v := iI (126)) xe xb d_TripleLinesModel_putCode_33 (by decide) ?_
    refine tk_callSi (As := [.int (iI c), .int (iI 32), .int (iI 126)]) (rest := []) (wr := [(mM, .inr (6, [.int (iI tm), .ref aT, .int (iI om), .ref aO, .int (iI tn), .ref aK, .ref aS, .ref aC, .ref aU, .ref aG, .ref aY, .ref aX, .int (iI qn), .ref aP, .int (iI tr), .int (iI rg), .int (iI ll), .int (iI p), .int (iI f), .int (iI ov), .int (iI sz), .ref aM, .int (iI tz), .ref aA, .int (iI dm), .ref aD, .ref aB, .ref aV, .ref aE])), (aD, .inl (cI, 3000, .inl DR))]) (wn := fun u => [(mM, .inr (6, [.int (iI tm), .ref aT, .int (iI om), .ref aO, .int (iI tn), .ref aK, .ref aS, .ref aC, .ref aU, .ref aG, .ref aY, .ref aX, .int (iI qn), .ref aP, .int (iI tr), .int (iI rg), .int (iI ll), .int (iI p), .int (iI f), .int (iI ov), .int (iI sz), .ref aM, .int (iI tz), .ref aA, .int (iI dm), .ref aD, .ref aB, .ref aV, .ref aE])), (aD, .inl (cI, 3000, .inl DR))]) ⟨xe, xb, xml, xo, xt⟩ (c_TripleLinesModel_in l D cI c 32 126 (by first | assumption | omega) (by first | assumption | omega) (by first | assumption | omega)) k_TripleLinesModel_in mw_TripleLinesModel_63 ⟨Nat.le_of_ble_eq_true rfl, Nat.le_of_ble_eq_true rfl⟩ xK xP xD xS xA rfl xl.1 rfl (Nat.le_of_ble_eq_true rfl) d_TripleLinesModel_putCode_35 ⟨Nat.zero_le _, Nat.zero_le _⟩ [] [0, 1] [0, 1] rfl rfl (by decide) (by decide) (by decide) (by decide) (fun _ => rfl) ?_
    clear xP xD xS
    intro z_24 u H locs hr_25 hw_23 xP xD xS
    try dsimp only at hw_23
    replace xP : va_P D classes [(mM, .inr (6, [.int (iI tm), .ref aT, .int (iI om), .ref aO, .int (iI tn), .ref aK, .ref aS, .ref aC, .ref aU, .ref aG, .ref aY, .ref aX, .int (iI qn), .ref aP, .int (iI tr), .int (iI rg), .int (iI ll), .int (iI p), .int (iI f), .int (iI ov), .int (iI sz), .ref aM, .int (iI tz), .ref aA, .int (iI dm), .ref aD, .ref aB, .ref aV, .ref aE])), (aD, .inl (cI, 3000, .inl DR))] H := xP
    replace xD : va_D xA0 [(mM, .inr (6, [.int (iI tm), .ref aT, .int (iI om), .ref aO, .int (iI tn), .ref aK, .ref aS, .ref aC, .ref aU, .ref aG, .ref aY, .ref aX, .int (iI qn), .ref aP, .int (iI tr), .int (iI rg), .int (iI ll), .int (iI p), .int (iI f), .int (iI ov), .int (iI sz), .ref aM, .int (iI tz), .ref aA, .int (iI dm), .ref aD, .ref aB, .ref aV, .ref aE])), (aD, .inl (cI, 3000, .inl DR))] := xD
    rcases hw_23 with ⟨rfl, Hi⟩ | ⟨rfl, Hi⟩
    · refine tk_if_eq (tgt := 49) xe xb d_TripleLinesModel_putCode_38 (by decide) (by omega) (fun c_26 => absurd c_26 (by omega)) (fun c_26 => ?_)
      refine lv_aload_n xe xb d_TripleLinesModel_putCode_41 rfl (lv_at xl 0 rfl) ?_
      refine lv_iload_n xe xb d_TripleLinesModel_putCode_42 rfl (lv_at xl 1 rfl) ?_
      refine tk_callVv (As := [.int (iI c)]) (rest := []) (wr := []) (wn := fun u => [(mM, .inr (6, [.int (iI tm), .ref aT, .int (iI om), .ref aO, .int (iI tn), .ref aK, .ref aS, .ref aC, .ref aU, .ref aG, .ref aY, .ref aX, .int (iI qn), .ref aP, .int (iI tr), .int (iI rg), .int (iI ll), .int (iI p), .int (iI f), .int (iI ov), .int (iI sz), .ref aM, .int (iI tz), .ref aA, .int (iI u.1), .ref aD, .ref aB, .ref aV, .ref aE])), (aD, .inl (cI, 3000, .inl u.2))]) ⟨xe, xb, xml, xo, xt⟩ (c_TripleLinesModel_put l D cI mM tm aT om aO tn aK aS aC aU aG aY aX qn aP tr rg ll p f ov sz aM tz aA dm aD aB aV aE DR c (by first | assumption | omega) (by first | assumption | omega)) k_TripleLinesModel_put mw_TripleLinesModel_229 ⟨Nat.le_of_ble_eq_true rfl, Nat.le_of_ble_eq_true rfl⟩ xK xP xD xS xA rfl xl.1 rfl (Nat.le_of_ble_eq_true rfl) d_TripleLinesModel_putCode_43 ⟨Nat.zero_le _, Nat.zero_le _⟩ [0, 1] [] [0, 1] rfl rfl (by decide) (by decide) (by decide) (by decide) (fun _ => rfl) rfl rfl rfl ?_
      clear xP xD xS
      intro u H locs hw_29 xP xD xS
      obtain ⟨dm2_27, DR2_28⟩ := u
      try dsimp only at hw_29
      replace xP : va_P D classes [(mM, .inr (6, [.int (iI tm), .ref aT, .int (iI om), .ref aO, .int (iI tn), .ref aK, .ref aS, .ref aC, .ref aU, .ref aG, .ref aY, .ref aX, .int (iI qn), .ref aP, .int (iI tr), .int (iI rg), .int (iI ll), .int (iI p), .int (iI f), .int (iI ov), .int (iI sz), .ref aM, .int (iI tz), .ref aA, .int (iI dm2_27), .ref aD, .ref aB, .ref aV, .ref aE])), (aD, .inl (cI, 3000, .inl DR2_28))] H := xP
      replace xD : va_D xA0 [(mM, .inr (6, [.int (iI tm), .ref aT, .int (iI om), .ref aO, .int (iI tn), .ref aK, .ref aS, .ref aC, .ref aU, .ref aG, .ref aY, .ref aX, .int (iI qn), .ref aP, .int (iI tr), .int (iI rg), .int (iI ll), .int (iI p), .int (iI f), .int (iI ov), .int (iI sz), .ref aM, .int (iI tz), .ref aA, .int (iI dm2_27), .ref aD, .ref aB, .ref aV, .ref aE])), (aD, .inl (cI, 3000, .inl DR2_28))] := xD
      replace HC := PwM_trans hdm.1 HC hw_29
      have hgr := HC.1
      simp only [List.length_append, List.length_cons, List.length_nil] at hgr
      clear hw_29
      refine lv_goto (tgt := 117) xe xb d_TripleLinesModel_putCode_46 (by decide) ?_
      exact xret _ _ _ _ (dm2_27, DR2_28) d_TripleLinesModel_putCode_117 (by first | exact (PwM_cast HC (ct_raw hq Hi).symm) | (dsimp only; exact (PwM_cast HC (ct_raw hq Hi).symm))) xP xD xS
    · refine tk_if_eq (tgt := 49) xe xb d_TripleLinesModel_putCode_38 (by decide) (by omega) (fun c_31 => ?_) (fun c_31 => absurd c_31 (by omega))
      refine lv_iload_n xe xb d_TripleLinesModel_putCode_49 rfl (lv_at xl 2 rfl) ?_
      refine tk_if_eq (tgt := 77) xe xb d_TripleLinesModel_putCode_50 (by decide) (by omega) (fun C50 => ?_) (fun C50 => ?_)
      · exact loop_77  (by first | assumption | omega) (by first | assumption | omega) _ _ xP xD xS ls (lv_sub xl [0, 1, 2] rfl)
      · refine lv_iload_n xe xb d_TripleLinesModel_putCode_53 rfl (lv_at xl 1 rfl) ?_
        refine tk_callSi (As := [.int (iI c)]) (rest := []) (wr := [(mM, .inr (6, [.int (iI tm), .ref aT, .int (iI om), .ref aO, .int (iI tn), .ref aK, .ref aS, .ref aC, .ref aU, .ref aG, .ref aY, .ref aX, .int (iI qn), .ref aP, .int (iI tr), .int (iI rg), .int (iI ll), .int (iI p), .int (iI f), .int (iI ov), .int (iI sz), .ref aM, .int (iI tz), .ref aA, .int (iI dm), .ref aD, .ref aB, .ref aV, .ref aE])), (aD, .inl (cI, 3000, .inl DR))]) (wn := fun u => [(mM, .inr (6, [.int (iI tm), .ref aT, .int (iI om), .ref aO, .int (iI tn), .ref aK, .ref aS, .ref aC, .ref aU, .ref aG, .ref aY, .ref aX, .int (iI qn), .ref aP, .int (iI tr), .int (iI rg), .int (iI ll), .int (iI p), .int (iI f), .int (iI ov), .int (iI sz), .ref aM, .int (iI tz), .ref aA, .int (iI dm), .ref aD, .ref aB, .ref aV, .ref aE])), (aD, .inl (cI, 3000, .inl DR))]) ⟨xe, xb, xml, xo, xt⟩ (c_TripleLinesModel_letterOf l D cI c (by first | assumption | omega)) k_TripleLinesModel_letterOf mw_TripleLinesModel_232 ⟨Nat.le_of_ble_eq_true rfl, Nat.le_of_ble_eq_true rfl⟩ xK xP xD xS xA rfl xl.1 rfl (Nat.le_of_ble_eq_true rfl) d_TripleLinesModel_putCode_54 ⟨Nat.zero_le _, Nat.zero_le _⟩ [] [0, 1] [0, 1] rfl rfl (by decide) (by decide) (by decide) (by decide) (fun _ => rfl) ?_
        clear xP xD xS
        intro z_33 u H locs hr_34 hw_32 xP xD xS
        try dsimp only at hw_32
        replace xP : va_P D classes [(mM, .inr (6, [.int (iI tm), .ref aT, .int (iI om), .ref aO, .int (iI tn), .ref aK, .ref aS, .ref aC, .ref aU, .ref aG, .ref aY, .ref aX, .int (iI qn), .ref aP, .int (iI tr), .int (iI rg), .int (iI ll), .int (iI p), .int (iI f), .int (iI ov), .int (iI sz), .ref aM, .int (iI tz), .ref aA, .int (iI dm), .ref aD, .ref aB, .ref aV, .ref aE])), (aD, .inl (cI, 3000, .inl DR))] H := xP
        replace xD : va_D xA0 [(mM, .inr (6, [.int (iI tm), .ref aT, .int (iI om), .ref aO, .int (iI tn), .ref aK, .ref aS, .ref aC, .ref aU, .ref aG, .ref aY, .ref aX, .int (iI qn), .ref aP, .int (iI tr), .int (iI rg), .int (iI ll), .int (iI p), .int (iI f), .int (iI ov), .int (iI sz), .ref aM, .int (iI tz), .ref aA, .int (iI dm), .ref aD, .ref aB, .ref aV, .ref aE])), (aD, .inl (cI, 3000, .inl DR))] := xD
        have HL := hw_32
        refine tk_if_lt (tgt := 77) xe xb d_TripleLinesModel_putCode_57 (by decide) (by omega) (fun C57 => ?_) (fun C57 => ?_)
        · exact loop_77  (by first | assumption | omega) (by first | assumption | omega) _ _ xP xD xS ls (lv_sub xl [0, 1, 2] rfl)
        · refine lv_aload_n xe xb d_TripleLinesModel_putCode_60 rfl (lv_at xl 0 rfl) ?_
          refine lv_bipush (v := iI (92)) xe xb d_TripleLinesModel_putCode_61 (by decide) ?_
          refine tk_callVv (As := [.int (iI 92)]) (rest := []) (wr := []) (wn := fun u => [(mM, .inr (6, [.int (iI tm), .ref aT, .int (iI om), .ref aO, .int (iI tn), .ref aK, .ref aS, .ref aC, .ref aU, .ref aG, .ref aY, .ref aX, .int (iI qn), .ref aP, .int (iI tr), .int (iI rg), .int (iI ll), .int (iI p), .int (iI f), .int (iI ov), .int (iI sz), .ref aM, .int (iI tz), .ref aA, .int (iI u.1), .ref aD, .ref aB, .ref aV, .ref aE])), (aD, .inl (cI, 3000, .inl u.2))]) ⟨xe, xb, xml, xo, xt⟩ (c_TripleLinesModel_put l D cI mM tm aT om aO tn aK aS aC aU aG aY aX qn aP tr rg ll p f ov sz aM tz aA dm aD aB aV aE DR 92 (by first | assumption | omega) (by first | assumption | omega)) k_TripleLinesModel_put mw_TripleLinesModel_229 ⟨Nat.le_of_ble_eq_true rfl, Nat.le_of_ble_eq_true rfl⟩ xK xP xD xS xA rfl xl.1 rfl (Nat.le_of_ble_eq_true rfl) d_TripleLinesModel_putCode_63 ⟨Nat.zero_le _, Nat.zero_le _⟩ [0, 1] [] [0, 1] rfl rfl (by decide) (by decide) (by decide) (by decide) (fun _ => rfl) rfl rfl rfl ?_
          clear xP xD xS
          intro u H locs hw_37 xP xD xS
          obtain ⟨dm2_35, DR2_36⟩ := u
          try dsimp only at hw_37
          replace xP : va_P D classes [(mM, .inr (6, [.int (iI tm), .ref aT, .int (iI om), .ref aO, .int (iI tn), .ref aK, .ref aS, .ref aC, .ref aU, .ref aG, .ref aY, .ref aX, .int (iI qn), .ref aP, .int (iI tr), .int (iI rg), .int (iI ll), .int (iI p), .int (iI f), .int (iI ov), .int (iI sz), .ref aM, .int (iI tz), .ref aA, .int (iI dm2_35), .ref aD, .ref aB, .ref aV, .ref aE])), (aD, .inl (cI, 3000, .inl DR2_36))] H := xP
          replace xD : va_D xA0 [(mM, .inr (6, [.int (iI tm), .ref aT, .int (iI om), .ref aO, .int (iI tn), .ref aK, .ref aS, .ref aC, .ref aU, .ref aG, .ref aY, .ref aX, .int (iI qn), .ref aP, .int (iI tr), .int (iI rg), .int (iI ll), .int (iI p), .int (iI f), .int (iI ov), .int (iI sz), .ref aM, .int (iI tz), .ref aA, .int (iI dm2_35), .ref aD, .ref aB, .ref aV, .ref aE])), (aD, .inl (cI, 3000, .inl DR2_36))] := xD
          replace HC := PwM_trans hdm.1 HC hw_37
          have hgr := HC.1
          simp only [List.length_append, List.length_cons, List.length_nil] at hgr
          clear hw_37
          refine lv_aload_n xe xb d_TripleLinesModel_putCode_66 rfl (lv_at xl 0 rfl) ?_
          refine lv_iload_n xe xb d_TripleLinesModel_putCode_67 rfl (lv_at xl 1 rfl) ?_
          refine tk_callSi (As := [.int (iI c)]) (rest := [.ref mM]) (wr := [(mM, .inr (6, [.int (iI tm), .ref aT, .int (iI om), .ref aO, .int (iI tn), .ref aK, .ref aS, .ref aC, .ref aU, .ref aG, .ref aY, .ref aX, .int (iI qn), .ref aP, .int (iI tr), .int (iI rg), .int (iI ll), .int (iI p), .int (iI f), .int (iI ov), .int (iI sz), .ref aM, .int (iI tz), .ref aA, .int (iI dm2_35), .ref aD, .ref aB, .ref aV, .ref aE])), (aD, .inl (cI, 3000, .inl DR2_36))]) (wn := fun u => [(mM, .inr (6, [.int (iI tm), .ref aT, .int (iI om), .ref aO, .int (iI tn), .ref aK, .ref aS, .ref aC, .ref aU, .ref aG, .ref aY, .ref aX, .int (iI qn), .ref aP, .int (iI tr), .int (iI rg), .int (iI ll), .int (iI p), .int (iI f), .int (iI ov), .int (iI sz), .ref aM, .int (iI tz), .ref aA, .int (iI dm2_35), .ref aD, .ref aB, .ref aV, .ref aE])), (aD, .inl (cI, 3000, .inl DR2_36))]) ⟨xe, xb, xml, xo, xt⟩ (c_TripleLinesModel_letterOf l D cI c (by first | assumption | omega)) k_TripleLinesModel_letterOf mw_TripleLinesModel_232 ⟨Nat.le_of_ble_eq_true rfl, Nat.le_of_ble_eq_true rfl⟩ xK xP xD xS xA rfl xl.1 rfl (Nat.le_of_ble_eq_true rfl) d_TripleLinesModel_putCode_68 ⟨Nat.zero_le _, Nat.zero_le _⟩ [] [0, 1] [0, 1] rfl rfl (by decide) (by decide) (by decide) (by decide) (fun _ => rfl) ?_
          clear xP xD xS
          intro z_40 u H locs hr_41 hw_39 xP xD xS
          try dsimp only at hw_39
          replace xP : va_P D classes [(mM, .inr (6, [.int (iI tm), .ref aT, .int (iI om), .ref aO, .int (iI tn), .ref aK, .ref aS, .ref aC, .ref aU, .ref aG, .ref aY, .ref aX, .int (iI qn), .ref aP, .int (iI tr), .int (iI rg), .int (iI ll), .int (iI p), .int (iI f), .int (iI ov), .int (iI sz), .ref aM, .int (iI tz), .ref aA, .int (iI dm2_35), .ref aD, .ref aB, .ref aV, .ref aE])), (aD, .inl (cI, 3000, .inl DR2_36))] H := xP
          replace xD : va_D xA0 [(mM, .inr (6, [.int (iI tm), .ref aT, .int (iI om), .ref aO, .int (iI tn), .ref aK, .ref aS, .ref aC, .ref aU, .ref aG, .ref aY, .ref aX, .int (iI qn), .ref aP, .int (iI tr), .int (iI rg), .int (iI ll), .int (iI p), .int (iI f), .int (iI ov), .int (iI sz), .ref aM, .int (iI tz), .ref aA, .int (iI dm2_35), .ref aD, .ref aB, .ref aV, .ref aE])), (aD, .inl (cI, 3000, .inl DR2_36))] := xD
          have HL2 := hw_39
          have hlr := ltr_rg c
          refine tk_callVv (As := [.int (iI z_40)]) (rest := []) (wr := []) (wn := fun u => [(mM, .inr (6, [.int (iI tm), .ref aT, .int (iI om), .ref aO, .int (iI tn), .ref aK, .ref aS, .ref aC, .ref aU, .ref aG, .ref aY, .ref aX, .int (iI qn), .ref aP, .int (iI tr), .int (iI rg), .int (iI ll), .int (iI p), .int (iI f), .int (iI ov), .int (iI sz), .ref aM, .int (iI tz), .ref aA, .int (iI u.1), .ref aD, .ref aB, .ref aV, .ref aE])), (aD, .inl (cI, 3000, .inl u.2))]) ⟨xe, xb, xml, xo, xt⟩ (c_TripleLinesModel_put l D cI mM tm aT om aO tn aK aS aC aU aG aY aX qn aP tr rg ll p f ov sz aM tz aA dm2_35 aD aB aV aE DR2_36 z_40 (by first | assumption | omega) (by first | assumption | omega)) k_TripleLinesModel_put mw_TripleLinesModel_229 ⟨Nat.le_of_ble_eq_true rfl, Nat.le_of_ble_eq_true rfl⟩ xK xP xD xS xA rfl xl.1 rfl (Nat.le_of_ble_eq_true rfl) d_TripleLinesModel_putCode_71 ⟨Nat.zero_le _, Nat.zero_le _⟩ [0, 1] [] [0, 1] rfl rfl (by decide) (by decide) (by decide) (by decide) (fun _ => rfl) rfl rfl rfl ?_
          clear xP xD xS
          intro u H locs hw_44 xP xD xS
          obtain ⟨dm2_42, DR2_43⟩ := u
          try dsimp only at hw_44
          replace xP : va_P D classes [(mM, .inr (6, [.int (iI tm), .ref aT, .int (iI om), .ref aO, .int (iI tn), .ref aK, .ref aS, .ref aC, .ref aU, .ref aG, .ref aY, .ref aX, .int (iI qn), .ref aP, .int (iI tr), .int (iI rg), .int (iI ll), .int (iI p), .int (iI f), .int (iI ov), .int (iI sz), .ref aM, .int (iI tz), .ref aA, .int (iI dm2_42), .ref aD, .ref aB, .ref aV, .ref aE])), (aD, .inl (cI, 3000, .inl DR2_43))] H := xP
          replace xD : va_D xA0 [(mM, .inr (6, [.int (iI tm), .ref aT, .int (iI om), .ref aO, .int (iI tn), .ref aK, .ref aS, .ref aC, .ref aU, .ref aG, .ref aY, .ref aX, .int (iI qn), .ref aP, .int (iI tr), .int (iI rg), .int (iI ll), .int (iI p), .int (iI f), .int (iI ov), .int (iI sz), .ref aM, .int (iI tz), .ref aA, .int (iI dm2_42), .ref aD, .ref aB, .ref aV, .ref aE])), (aD, .inl (cI, 3000, .inl DR2_43))] := xD
          replace HC := PwM_trans hdm.1 HC hw_44
          have hgr := HC.1
          simp only [List.length_append, List.length_cons, List.length_nil] at hgr
          clear hw_44
          refine lv_goto (tgt := 117) xe xb d_TripleLinesModel_putCode_74 (by decide) ?_
          exact xret _ _ _ _ (dm2_42, DR2_43) d_TripleLinesModel_putCode_117 (by first | exact (PwM_cast HC (by rw [HL2]; exact (ct_let (by omega) Hi (by omega)).symm)) | (dsimp only; exact (PwM_cast HC (by rw [HL2]; exact (ct_let (by omega) Hi (by omega)).symm)))) xP xD xS
  refine lv_iload_n xe xb d_TripleLinesModel_putCode_0 rfl (lv_at xl 2 rfl) ?_
  refine tk_if_eq (tgt := 30) xe xb d_TripleLinesModel_putCode_1 (by decide) (by omega) (fun C1 => ?_) (fun C1 => ?_)
  · exact loop_30  (by first | assumption | omega) _ _ xP xD xS ls (lv_sub xl [0, 1, 2] rfl)
  · refine lv_iload_n xe xb d_TripleLinesModel_putCode_4 rfl (lv_at xl 1 rfl) ?_
    refine lv_bipush (v := iI (34)) xe xb d_TripleLinesModel_putCode_5 (by decide) ?_
    refine tk_icmp_eq (tgt := 16) xe xb d_TripleLinesModel_putCode_7 (by decide) (by omega) (fun C7 => ?_) (fun C7 => ?_)
    · refine lv_aload_n xe xb d_TripleLinesModel_putCode_16 rfl (lv_at xl 0 rfl) ?_
      refine lv_bipush (v := iI (92)) xe xb d_TripleLinesModel_putCode_17 (by decide) ?_
      refine tk_callVv (As := [.int (iI 92)]) (rest := []) (wr := []) (wn := fun u => [(mM, .inr (6, [.int (iI tm), .ref aT, .int (iI om), .ref aO, .int (iI tn), .ref aK, .ref aS, .ref aC, .ref aU, .ref aG, .ref aY, .ref aX, .int (iI qn), .ref aP, .int (iI tr), .int (iI rg), .int (iI ll), .int (iI p), .int (iI f), .int (iI ov), .int (iI sz), .ref aM, .int (iI tz), .ref aA, .int (iI u.1), .ref aD, .ref aB, .ref aV, .ref aE])), (aD, .inl (cI, 3000, .inl u.2))]) ⟨xe, xb, xml, xo, xt⟩ (c_TripleLinesModel_put l D cI mM tm aT om aO tn aK aS aC aU aG aY aX qn aP tr rg ll p f ov sz aM tz aA dm aD aB aV aE DR 92 (by first | assumption | omega) (by first | assumption | omega)) k_TripleLinesModel_put mw_TripleLinesModel_229 ⟨Nat.le_of_ble_eq_true rfl, Nat.le_of_ble_eq_true rfl⟩ xK xP xD xS xA rfl xl.1 rfl (Nat.le_of_ble_eq_true rfl) d_TripleLinesModel_putCode_19 ⟨Nat.zero_le _, Nat.zero_le _⟩ [0, 1] [] [0, 1] rfl rfl (by decide) (by decide) (by decide) (by decide) (fun _ => rfl) rfl rfl rfl ?_
      clear xP xD xS
      intro u H locs hw_48 xP xD xS
      obtain ⟨dm2_46, DR2_47⟩ := u
      try dsimp only at hw_48
      replace xP : va_P D classes [(mM, .inr (6, [.int (iI tm), .ref aT, .int (iI om), .ref aO, .int (iI tn), .ref aK, .ref aS, .ref aC, .ref aU, .ref aG, .ref aY, .ref aX, .int (iI qn), .ref aP, .int (iI tr), .int (iI rg), .int (iI ll), .int (iI p), .int (iI f), .int (iI ov), .int (iI sz), .ref aM, .int (iI tz), .ref aA, .int (iI dm2_46), .ref aD, .ref aB, .ref aV, .ref aE])), (aD, .inl (cI, 3000, .inl DR2_47))] H := xP
      replace xD : va_D xA0 [(mM, .inr (6, [.int (iI tm), .ref aT, .int (iI om), .ref aO, .int (iI tn), .ref aK, .ref aS, .ref aC, .ref aU, .ref aG, .ref aY, .ref aX, .int (iI qn), .ref aP, .int (iI tr), .int (iI rg), .int (iI ll), .int (iI p), .int (iI f), .int (iI ov), .int (iI sz), .ref aM, .int (iI tz), .ref aA, .int (iI dm2_46), .ref aD, .ref aB, .ref aV, .ref aE])), (aD, .inl (cI, 3000, .inl DR2_47))] := xD
      replace HC := PwM_trans hdm.1 HC hw_48
      have hgr := HC.1
      simp only [List.length_append, List.length_cons, List.length_nil] at hgr
      clear hw_48
      refine lv_aload_n xe xb d_TripleLinesModel_putCode_22 rfl (lv_at xl 0 rfl) ?_
      refine lv_iload_n xe xb d_TripleLinesModel_putCode_23 rfl (lv_at xl 1 rfl) ?_
      refine tk_callVv (As := [.int (iI c)]) (rest := []) (wr := []) (wn := fun u => [(mM, .inr (6, [.int (iI tm), .ref aT, .int (iI om), .ref aO, .int (iI tn), .ref aK, .ref aS, .ref aC, .ref aU, .ref aG, .ref aY, .ref aX, .int (iI qn), .ref aP, .int (iI tr), .int (iI rg), .int (iI ll), .int (iI p), .int (iI f), .int (iI ov), .int (iI sz), .ref aM, .int (iI tz), .ref aA, .int (iI u.1), .ref aD, .ref aB, .ref aV, .ref aE])), (aD, .inl (cI, 3000, .inl u.2))]) ⟨xe, xb, xml, xo, xt⟩ (c_TripleLinesModel_put l D cI mM tm aT om aO tn aK aS aC aU aG aY aX qn aP tr rg ll p f ov sz aM tz aA dm2_46 aD aB aV aE DR2_47 c (by first | assumption | omega) (by first | assumption | omega)) k_TripleLinesModel_put mw_TripleLinesModel_229 ⟨Nat.le_of_ble_eq_true rfl, Nat.le_of_ble_eq_true rfl⟩ xK xP xD xS xA rfl xl.1 rfl (Nat.le_of_ble_eq_true rfl) d_TripleLinesModel_putCode_24 ⟨Nat.zero_le _, Nat.zero_le _⟩ [0, 1] [] [0, 1] rfl rfl (by decide) (by decide) (by decide) (by decide) (fun _ => rfl) rfl rfl rfl ?_
      clear xP xD xS
      intro u H locs hw_52 xP xD xS
      obtain ⟨dm2_50, DR2_51⟩ := u
      try dsimp only at hw_52
      replace xP : va_P D classes [(mM, .inr (6, [.int (iI tm), .ref aT, .int (iI om), .ref aO, .int (iI tn), .ref aK, .ref aS, .ref aC, .ref aU, .ref aG, .ref aY, .ref aX, .int (iI qn), .ref aP, .int (iI tr), .int (iI rg), .int (iI ll), .int (iI p), .int (iI f), .int (iI ov), .int (iI sz), .ref aM, .int (iI tz), .ref aA, .int (iI dm2_50), .ref aD, .ref aB, .ref aV, .ref aE])), (aD, .inl (cI, 3000, .inl DR2_51))] H := xP
      replace xD : va_D xA0 [(mM, .inr (6, [.int (iI tm), .ref aT, .int (iI om), .ref aO, .int (iI tn), .ref aK, .ref aS, .ref aC, .ref aU, .ref aG, .ref aY, .ref aX, .int (iI qn), .ref aP, .int (iI tr), .int (iI rg), .int (iI ll), .int (iI p), .int (iI f), .int (iI ov), .int (iI sz), .ref aM, .int (iI tz), .ref aA, .int (iI dm2_50), .ref aD, .ref aB, .ref aV, .ref aE])), (aD, .inl (cI, 3000, .inl DR2_51))] := xD
      replace HC := PwM_trans hdm.1 HC hw_52
      have hgr := HC.1
      simp only [List.length_append, List.length_cons, List.length_nil] at hgr
      clear hw_52
      refine lv_goto (tgt := 117) xe xb d_TripleLinesModel_putCode_27 (by decide) ?_
      exact xret _ _ _ _ (dm2_50, DR2_51) d_TripleLinesModel_putCode_117 (by first | exact (PwM_cast HC (ct_q (by omega) (by omega)).symm) | (dsimp only; exact (PwM_cast HC (ct_q (by omega) (by omega)).symm))) xP xD xS
    · refine lv_iload_n xe xb d_TripleLinesModel_putCode_10 rfl (lv_at xl 1 rfl) ?_
      refine lv_bipush (v := iI (92)) xe xb d_TripleLinesModel_putCode_11 (by decide) ?_
      refine tk_icmp_ne (tgt := 30) xe xb d_TripleLinesModel_putCode_13 (by decide) (by omega) (fun C13 => ?_) (fun C13 => ?_)
      · exact loop_30  (by first | assumption | omega) _ _ xP xD xS ls (lv_sub xl [0, 1, 2] rfl)
      · refine lv_aload_n xe xb d_TripleLinesModel_putCode_16 rfl (lv_at xl 0 rfl) ?_
        refine lv_bipush (v := iI (92)) xe xb d_TripleLinesModel_putCode_17 (by decide) ?_
        refine tk_callVv (As := [.int (iI 92)]) (rest := []) (wr := []) (wn := fun u => [(mM, .inr (6, [.int (iI tm), .ref aT, .int (iI om), .ref aO, .int (iI tn), .ref aK, .ref aS, .ref aC, .ref aU, .ref aG, .ref aY, .ref aX, .int (iI qn), .ref aP, .int (iI tr), .int (iI rg), .int (iI ll), .int (iI p), .int (iI f), .int (iI ov), .int (iI sz), .ref aM, .int (iI tz), .ref aA, .int (iI u.1), .ref aD, .ref aB, .ref aV, .ref aE])), (aD, .inl (cI, 3000, .inl u.2))]) ⟨xe, xb, xml, xo, xt⟩ (c_TripleLinesModel_put l D cI mM tm aT om aO tn aK aS aC aU aG aY aX qn aP tr rg ll p f ov sz aM tz aA dm aD aB aV aE DR 92 (by first | assumption | omega) (by first | assumption | omega)) k_TripleLinesModel_put mw_TripleLinesModel_229 ⟨Nat.le_of_ble_eq_true rfl, Nat.le_of_ble_eq_true rfl⟩ xK xP xD xS xA rfl xl.1 rfl (Nat.le_of_ble_eq_true rfl) d_TripleLinesModel_putCode_19 ⟨Nat.zero_le _, Nat.zero_le _⟩ [0, 1] [] [0, 1] rfl rfl (by decide) (by decide) (by decide) (by decide) (fun _ => rfl) rfl rfl rfl ?_
        clear xP xD xS
        intro u H locs hw_56 xP xD xS
        obtain ⟨dm2_54, DR2_55⟩ := u
        try dsimp only at hw_56
        replace xP : va_P D classes [(mM, .inr (6, [.int (iI tm), .ref aT, .int (iI om), .ref aO, .int (iI tn), .ref aK, .ref aS, .ref aC, .ref aU, .ref aG, .ref aY, .ref aX, .int (iI qn), .ref aP, .int (iI tr), .int (iI rg), .int (iI ll), .int (iI p), .int (iI f), .int (iI ov), .int (iI sz), .ref aM, .int (iI tz), .ref aA, .int (iI dm2_54), .ref aD, .ref aB, .ref aV, .ref aE])), (aD, .inl (cI, 3000, .inl DR2_55))] H := xP
        replace xD : va_D xA0 [(mM, .inr (6, [.int (iI tm), .ref aT, .int (iI om), .ref aO, .int (iI tn), .ref aK, .ref aS, .ref aC, .ref aU, .ref aG, .ref aY, .ref aX, .int (iI qn), .ref aP, .int (iI tr), .int (iI rg), .int (iI ll), .int (iI p), .int (iI f), .int (iI ov), .int (iI sz), .ref aM, .int (iI tz), .ref aA, .int (iI dm2_54), .ref aD, .ref aB, .ref aV, .ref aE])), (aD, .inl (cI, 3000, .inl DR2_55))] := xD
        replace HC := PwM_trans hdm.1 HC hw_56
        have hgr := HC.1
        simp only [List.length_append, List.length_cons, List.length_nil] at hgr
        clear hw_56
        refine lv_aload_n xe xb d_TripleLinesModel_putCode_22 rfl (lv_at xl 0 rfl) ?_
        refine lv_iload_n xe xb d_TripleLinesModel_putCode_23 rfl (lv_at xl 1 rfl) ?_
        refine tk_callVv (As := [.int (iI c)]) (rest := []) (wr := []) (wn := fun u => [(mM, .inr (6, [.int (iI tm), .ref aT, .int (iI om), .ref aO, .int (iI tn), .ref aK, .ref aS, .ref aC, .ref aU, .ref aG, .ref aY, .ref aX, .int (iI qn), .ref aP, .int (iI tr), .int (iI rg), .int (iI ll), .int (iI p), .int (iI f), .int (iI ov), .int (iI sz), .ref aM, .int (iI tz), .ref aA, .int (iI u.1), .ref aD, .ref aB, .ref aV, .ref aE])), (aD, .inl (cI, 3000, .inl u.2))]) ⟨xe, xb, xml, xo, xt⟩ (c_TripleLinesModel_put l D cI mM tm aT om aO tn aK aS aC aU aG aY aX qn aP tr rg ll p f ov sz aM tz aA dm2_54 aD aB aV aE DR2_55 c (by first | assumption | omega) (by first | assumption | omega)) k_TripleLinesModel_put mw_TripleLinesModel_229 ⟨Nat.le_of_ble_eq_true rfl, Nat.le_of_ble_eq_true rfl⟩ xK xP xD xS xA rfl xl.1 rfl (Nat.le_of_ble_eq_true rfl) d_TripleLinesModel_putCode_24 ⟨Nat.zero_le _, Nat.zero_le _⟩ [0, 1] [] [0, 1] rfl rfl (by decide) (by decide) (by decide) (by decide) (fun _ => rfl) rfl rfl rfl ?_
        clear xP xD xS
        intro u H locs hw_60 xP xD xS
        obtain ⟨dm2_58, DR2_59⟩ := u
        try dsimp only at hw_60
        replace xP : va_P D classes [(mM, .inr (6, [.int (iI tm), .ref aT, .int (iI om), .ref aO, .int (iI tn), .ref aK, .ref aS, .ref aC, .ref aU, .ref aG, .ref aY, .ref aX, .int (iI qn), .ref aP, .int (iI tr), .int (iI rg), .int (iI ll), .int (iI p), .int (iI f), .int (iI ov), .int (iI sz), .ref aM, .int (iI tz), .ref aA, .int (iI dm2_58), .ref aD, .ref aB, .ref aV, .ref aE])), (aD, .inl (cI, 3000, .inl DR2_59))] H := xP
        replace xD : va_D xA0 [(mM, .inr (6, [.int (iI tm), .ref aT, .int (iI om), .ref aO, .int (iI tn), .ref aK, .ref aS, .ref aC, .ref aU, .ref aG, .ref aY, .ref aX, .int (iI qn), .ref aP, .int (iI tr), .int (iI rg), .int (iI ll), .int (iI p), .int (iI f), .int (iI ov), .int (iI sz), .ref aM, .int (iI tz), .ref aA, .int (iI dm2_58), .ref aD, .ref aB, .ref aV, .ref aE])), (aD, .inl (cI, 3000, .inl DR2_59))] := xD
        replace HC := PwM_trans hdm.1 HC hw_60
        have hgr := HC.1
        simp only [List.length_append, List.length_cons, List.length_nil] at hgr
        clear hw_60
        refine lv_goto (tgt := 117) xe xb d_TripleLinesModel_putCode_27 (by decide) ?_
        exact xret _ _ _ _ (dm2_58, DR2_59) d_TripleLinesModel_putCode_117 (by first | exact (PwM_cast HC (ct_q (by omega) (by omega)).symm) | (dsimp only; exact (PwM_cast HC (ct_q (by omega) (by omega)).symm))) xP xD xS
set_option maxHeartbeats 4000000 in
set_option maxRecDepth 100000 in
theorem c_TripleLinesModel_putCodes (l : Launch) (D : va_G) (cI : ClassId) (mM : Nat) (tm : Int) (aT : Nat) (om : Int) (aO : Nat) (tn : Int) (aK : Nat) (aS : Nat) (aC : Nat) (aU : Nat) (aG : Nat) (aY : Nat) (aX : Nat) (qn : Int) (aP : Nat) (tr : Int) (rg : Int) (ll : Int) (p : Int) (f : Int) (ov : Int) (sz : Int) (aM : Nat) (tz : Int) (aA : Nat) (dm : Int) (aD : Nat) (aB : Nat) (aV : Nat) (aE : Nat) (Ln : Nat → Int32) (C : Nat → Int32) (DR : Nat → Int32) (t : Int) (b : Int) (TL : Nat → Int32) (hdm : 0 ≤ dm ∧ dm ≤ 1999999000) (hs : tOk Ln TL tn) (ht : 0 ≤ t ∧ t < tn) (hb : b = 0 ∨ b = 1) : CtV l D [(cI, .int)] y_TripleLinesModel_putCodes b_TripleLinesModel_putCodes 4 3 [.ref mM, .int (iI t), .int (iI b)] [(mM, .inr (6, [.int (iI tm), .ref aT, .int (iI om), .ref aO, .int (iI tn), .ref aK, .ref aS, .ref aC, .ref aU, .ref aG, .ref aY, .ref aX, .int (iI qn), .ref aP, .int (iI tr), .int (iI rg), .int (iI ll), .int (iI p), .int (iI f), .int (iI ov), .int (iI sz), .ref aM, .int (iI tz), .ref aA, .int (iI dm), .ref aD, .ref aB, .ref aV, .ref aE])), (aS, .inl (cI, 120, .inl Ln)), (aC, .inl (cI, 4800, .inl C)), (aD, .inl (cI, 3000, .inl DR))] (S := Int × (Nat → Int32)) (fun u => PwM u.1 u.2 dm DR (cts b (seg C (t * 40) (tI Ln t)))) (fun u => [(mM, .inr (6, [.int (iI tm), .ref aT, .int (iI om), .ref aO, .int (iI tn), .ref aK, .ref aS, .ref aC, .ref aU, .ref aG, .ref aY, .ref aX, .int (iI qn), .ref aP, .int (iI tr), .int (iI rg), .int (iI ll), .int (iI p), .int (iI f), .int (iI ov), .int (iI sz), .ref aM, .int (iI tz), .ref aA, .int (iI u.1), .ref aD, .ref aB, .ref aV, .ref aE])), (aS, .inl (cI, 120, .inl Ln)), (aC, .inl (cI, 4800, .inl C)), (aD, .inl (cI, 3000, .inl u.2))]) := by
  refine CtV.walk (by decide) (Nat.le_of_ble_eq_true rfl) ?_
  intro xp xe0 xs xm xar xbelow xmeth xc xA0 xQ xe xb xml xo xt xP xK xD xA xret ls xl xS
  have xl : lv_has ls 4 [(0, .ref mM), (1, .int (iI t)), (2, .int (iI b))] := xl
  have xo : xs.vm.findClass R_TripleLinesModel = some xm.cls := xo
  have HC := PwM_nil (D := DR) hdm.1
  have hz : 0 ≤ tn ∧ tn ≤ 120 := ⟨hs.1, hs.2.1⟩
  have htt := hs.2.2 t ht.1 ht.2
  refine lv_iconst (v := iI (0)) xe xb d_TripleLinesModel_putCodes_0 rfl ?_
  refine lv_istore_n (lv' := [(3, .int (iI 0)), (0, .ref mM), (1, .int (iI t)), (2, .int (iI b))]) xe xb d_TripleLinesModel_putCodes_1 rfl xl (by decide) rfl ?_
  clear xl
  intro ls xl
  have loop_2 : ∀ (n9 : Nat) (k : Int) (dv : Int) (Dv : Nat → Int32), (40 - k).toNat < n9 → (0 ≤ k ∧ k ≤ tI Ln t) → (PwM dv Dv dm DR (cts b (seg C (t * 40) k))) → ∀ (H : Heap) (locs : List Loc), va_P D classes [(mM, .inr (6, [.int (iI tm), .ref aT, .int (iI om), .ref aO, .int (iI tn), .ref aK, .ref aS, .ref aC, .ref aU, .ref aG, .ref aY, .ref aX, .int (iI qn), .ref aP, .int (iI tr), .int (iI rg), .int (iI ll), .int (iI p), .int (iI f), .int (iI ov), .int (iI sz), .ref aM, .int (iI tz), .ref aA, .int (iI dv), .ref aD, .ref aB, .ref aV, .ref aE])), (aS, .inl (cI, 120, .inl Ln)), (aC, .inl (cI, 4800, .inl C)), (aD, .inl (cI, 3000, .inl Dv))] H → va_D xA0 [(mM, .inr (6, [.int (iI tm), .ref aT, .int (iI om), .ref aO, .int (iI tn), .ref aK, .ref aS, .ref aC, .ref aU, .ref aG, .ref aY, .ref aX, .int (iI qn), .ref aP, .int (iI tr), .int (iI rg), .int (iI ll), .int (iI p), .int (iI f), .int (iI ov), .int (iI sz), .ref aM, .int (iI tz), .ref aA, .int (iI dv), .ref aD, .ref aB, .ref aV, .ref aE])), (aS, .inl (cI, 120, .inl Ln)), (aC, .inl (cI, 4800, .inl C)), (aD, .inl (cI, 3000, .inl Dv))] → va_S xA0 xs.heap H locs → ∀ ls : Array Slot, lv_has ls 4 [(0, .ref mM), (1, .int (iI t)), (2, .int (iI b)), (3, .int (iI k))] → W xp l xe0 (tk_rm 3) xs xm xar xbelow xmeth xc H locs 0 0 xQ (F0 xm 2 ls []) := by
    intro n9
    induction n9 with
    | zero => intro k dv Dv h9; exact absurd h9 (Nat.not_lt_zero _)
    | succ n9 ih9 =>
      intro k dv Dv hm9 hk hP H locs xP xD xS ls xl
      have ih_2 := ih9
      have hm_2 := hm9
      have HC := hP
      have hgr := HC.1
      try simp only [List.length_append, List.length_cons, List.length_nil] at hgr
      have hln := cts_len b (seg C (t * 40) k)
      rw [seg_len] at hln
      refine lv_iload_n xe xb d_TripleLinesModel_putCodes_2 rfl (lv_at xl 3 rfl) ?_
      refine lv_aload_n xe xb d_TripleLinesModel_putCodes_3 rfl (lv_at xl 0 rfl) ?_
      refine va_get (D := D) (ci := 6) (v := .ref aS) (C := R_TripleLinesModel) (T := F_TripleLinesModel) (N := 29) xe xb xt i_TripleLinesModel xo xK xP 0 rfl rfl 6 (by decide) (xt _ mw_TripleLinesModel_19) (fun _ h9 => h9) rfl d_TripleLinesModel_putCodes_4 ?_
      refine lv_iload_n xe xb d_TripleLinesModel_putCodes_7 rfl (lv_at xl 1 rfl) ?_
      refine tk_iald xe xb xK xP 1 0 rfl rfl (by omega) d_TripleLinesModel_putCodes_8 ?_
      have hr_1 := tI_rg Ln t
      refine tk_icmp_ge (tgt := 34) xe xb d_TripleLinesModel_putCodes_9 (by decide) (by omega) (fun c_2 => ?_) (fun c_2 => ?_)
      · exact xret _ _ _ _ (dv, Dv) d_TripleLinesModel_putCodes_34 (by first | exact (PwM_cast HC (by rw [show k = tI Ln t by omega])) | (dsimp only; exact (PwM_cast HC (by rw [show k = tI Ln t by omega])))) xP xD xS
      · refine lv_aload_n xe xb d_TripleLinesModel_putCodes_12 rfl (lv_at xl 0 rfl) ?_
        refine lv_aload_n xe xb d_TripleLinesModel_putCodes_13 rfl (lv_at xl 0 rfl) ?_
        refine va_get (D := D) (ci := 6) (v := .ref aC) (C := R_TripleLinesModel) (T := F_TripleLinesModel) (N := 29) xe xb xt i_TripleLinesModel xo xK xP 0 rfl rfl 7 (by decide) (xt _ mw_TripleLinesModel_22) (fun _ h9 => h9) rfl d_TripleLinesModel_putCodes_14 ?_
        refine lv_bipush (v := iI (40)) xe xb d_TripleLinesModel_putCodes_17 (by decide) ?_
        refine lv_iload_n xe xb d_TripleLinesModel_putCodes_19 rfl (lv_at xl 1 rfl) ?_
        refine tk_imul xe xb d_TripleLinesModel_putCodes_20 ?_
        refine lv_iload_n xe xb d_TripleLinesModel_putCodes_21 rfl (lv_at xl 3 rfl) ?_
        refine tk_iadd xe xb d_TripleLinesModel_putCodes_22 ?_
        refine tk_iald xe xb xK xP 2 0 rfl rfl (by omega) d_TripleLinesModel_putCodes_23 ?_
        have hr_3 := tI_rg C ((40 * t) + k)
        refine lv_iload_n xe xb d_TripleLinesModel_putCodes_24 rfl (lv_at xl 2 rfl) ?_
        refine tk_callVv (As := [.int (iI (tI C ((40 * t) + k))), .int (iI b)]) (rest := []) (wr := [(aS, .inl (cI, 120, .inl Ln)), (aC, .inl (cI, 4800, .inl C))]) (wn := fun u => [(mM, .inr (6, [.int (iI tm), .ref aT, .int (iI om), .ref aO, .int (iI tn), .ref aK, .ref aS, .ref aC, .ref aU, .ref aG, .ref aY, .ref aX, .int (iI qn), .ref aP, .int (iI tr), .int (iI rg), .int (iI ll), .int (iI p), .int (iI f), .int (iI ov), .int (iI sz), .ref aM, .int (iI tz), .ref aA, .int (iI u.1), .ref aD, .ref aB, .ref aV, .ref aE])), (aS, .inl (cI, 120, .inl Ln)), (aC, .inl (cI, 4800, .inl C)), (aD, .inl (cI, 3000, .inl u.2))]) ⟨xe, xb, xml, xo, xt⟩ (c_TripleLinesModel_putCode l D cI mM tm aT om aO tn aK aS aC aU aG aY aX qn aP tr rg ll p f ov sz aM tz aA dv aD aB aV aE Dv (tI C ((40 * t) + k)) b (by first | assumption | omega) (by first | assumption | omega) (by first | assumption | omega)) k_TripleLinesModel_putCode mw_TripleLinesModel_240 ⟨Nat.le_of_ble_eq_true rfl, Nat.le_of_ble_eq_true rfl⟩ xK xP xD xS xA rfl xl.1 rfl (Nat.le_of_ble_eq_true rfl) d_TripleLinesModel_putCodes_25 ⟨Nat.zero_le _, Nat.zero_le _⟩ [0, 3] [1, 2] [2, 0, 1, 3] rfl rfl (by decide) (by decide) (by decide) (by decide) (fun _ => rfl) rfl rfl rfl ?_
        clear xP xD xS
        intro u H locs hw_6 xP xD xS
        obtain ⟨dm2_4, DR2_5⟩ := u
        try dsimp only at hw_6
        replace xP : va_P D classes [(mM, .inr (6, [.int (iI tm), .ref aT, .int (iI om), .ref aO, .int (iI tn), .ref aK, .ref aS, .ref aC, .ref aU, .ref aG, .ref aY, .ref aX, .int (iI qn), .ref aP, .int (iI tr), .int (iI rg), .int (iI ll), .int (iI p), .int (iI f), .int (iI ov), .int (iI sz), .ref aM, .int (iI tz), .ref aA, .int (iI dm2_4), .ref aD, .ref aB, .ref aV, .ref aE])), (aS, .inl (cI, 120, .inl Ln)), (aC, .inl (cI, 4800, .inl C)), (aD, .inl (cI, 3000, .inl DR2_5))] H := xP
        replace xD : va_D xA0 [(mM, .inr (6, [.int (iI tm), .ref aT, .int (iI om), .ref aO, .int (iI tn), .ref aK, .ref aS, .ref aC, .ref aU, .ref aG, .ref aY, .ref aX, .int (iI qn), .ref aP, .int (iI tr), .int (iI rg), .int (iI ll), .int (iI p), .int (iI f), .int (iI ov), .int (iI sz), .ref aM, .int (iI tz), .ref aA, .int (iI dm2_4), .ref aD, .ref aB, .ref aV, .ref aE])), (aS, .inl (cI, 120, .inl Ln)), (aC, .inl (cI, 4800, .inl C)), (aD, .inl (cI, 3000, .inl DR2_5))] := xD
        replace HC := PwM_trans hdm.1 HC hw_6
        clear hw_6
        refine tk_iinc (v := (k + 1)) (lv' := [(3, .int (iI (k + 1))), (0, .ref mM), (1, .int (iI t)), (2, .int (iI b))]) xe xb d_TripleLinesModel_putCodes_28 xl (k := 3) rfl rfl (by decide) rfl ?_
        clear xl
        intro ls xl
        refine lv_goto (tgt := 2) xe xb d_TripleLinesModel_putCodes_31 (by decide) ?_
        exact ih_2 (k + 1) dm2_4 DR2_5 (by omega) (by first | assumption | omega) (PwM_cast HC (cts_step0 hk.1)) _ _ xP xD xS ls (lv_sub xl [1, 2, 3, 0] rfl)
  exact loop_2 _ 0 dm DR (Nat.lt_succ_self _) ⟨Int.le_refl 0, htt.1⟩ HC _ _ xP xD xS ls (lv_sub xl [1, 2, 3, 0] rfl)
set_option maxHeartbeats 4000000 in
set_option maxRecDepth 100000 in
theorem c_TripleLinesModel_putNumber (l : Launch) (D : va_G) (cI : ClassId) (mM : Nat) (tm : Int) (aT : Nat) (om : Int) (aO : Nat) (tn : Int) (aK : Nat) (aS : Nat) (aC : Nat) (aU : Nat) (aG : Nat) (aY : Nat) (aX : Nat) (qn : Int) (aP : Nat) (tr : Int) (rg : Int) (ll : Int) (p : Int) (f : Int) (ov : Int) (sz : Int) (aM : Nat) (tz : Int) (aA : Nat) (dm : Int) (aD : Nat) (aB : Nat) (aV : Nat) (aE : Nat) (DR : Nat → Int32) (t : Int) (hdm : 0 ≤ dm ∧ dm ≤ 1999999990) (ht : 0 ≤ t ∧ t < 120) : CtV l D [(cI, .int)] y_TripleLinesModel_putNumber b_TripleLinesModel_putNumber 2 1 [.ref mM, .int (iI t)] [(mM, .inr (6, [.int (iI tm), .ref aT, .int (iI om), .ref aO, .int (iI tn), .ref aK, .ref aS, .ref aC, .ref aU, .ref aG, .ref aY, .ref aX, .int (iI qn), .ref aP, .int (iI tr), .int (iI rg), .int (iI ll), .int (iI p), .int (iI f), .int (iI ov), .int (iI sz), .ref aM, .int (iI tz), .ref aA, .int (iI dm), .ref aD, .ref aB, .ref aV, .ref aE])), (aD, .inl (cI, 3000, .inl DR))] (S := Int × (Nat → Int32)) (fun u => PwM u.1 u.2 dm DR (num t)) (fun u => [(mM, .inr (6, [.int (iI tm), .ref aT, .int (iI om), .ref aO, .int (iI tn), .ref aK, .ref aS, .ref aC, .ref aU, .ref aG, .ref aY, .ref aX, .int (iI qn), .ref aP, .int (iI tr), .int (iI rg), .int (iI ll), .int (iI p), .int (iI f), .int (iI ov), .int (iI sz), .ref aM, .int (iI tz), .ref aA, .int (iI u.1), .ref aD, .ref aB, .ref aV, .ref aE])), (aD, .inl (cI, 3000, .inl u.2))]) := by
  refine CtV.walk (by decide) (Nat.le_of_ble_eq_true rfl) ?_
  intro xp xe0 xs xm xar xbelow xmeth xc xA0 xQ xe xb xml xo xt xP xK xD xA xret ls xl xS
  have xl : lv_has ls 2 [(0, .ref mM), (1, .int (iI t))] := xl
  have xo : xs.vm.findClass R_TripleLinesModel = some xm.cls := xo
  have HC := PwM_nil (D := DR) hdm.1
  refine lv_iload_n xe xb d_TripleLinesModel_putNumber_0 rfl (lv_at xl 1 rfl) ?_
  refine lv_bipush (v := iI (99)) xe xb d_TripleLinesModel_putNumber_1 (by decide) ?_
  refine tk_icmp_le (tgt := 17) xe xb d_TripleLinesModel_putNumber_3 (by decide) (by omega) (fun c_1 => ?_) (fun c_1 => ?_)
  · refine lv_iload_n xe xb d_TripleLinesModel_putNumber_17 rfl (lv_at xl 1 rfl) ?_
    refine lv_bipush (v := iI (9)) xe xb d_TripleLinesModel_putNumber_18 (by decide) ?_
    refine tk_icmp_le (tgt := 37) xe xb d_TripleLinesModel_putNumber_20 (by decide) (by omega) (fun c_2 => ?_) (fun c_2 => ?_)
    · refine lv_aload_n xe xb d_TripleLinesModel_putNumber_37 rfl (lv_at xl 0 rfl) ?_
      refine lv_bipush (v := iI (48)) xe xb d_TripleLinesModel_putNumber_38 (by decide) ?_
      refine lv_iload_n xe xb d_TripleLinesModel_putNumber_40 rfl (lv_at xl 1 rfl) ?_
      refine lv_bipush (v := iI (10)) xe xb d_TripleLinesModel_putNumber_41 (by decide) ?_
      refine tk_irem xe xb d_TripleLinesModel_putNumber_43 (by omega) ?_
      refine tk_iadd xe xb d_TripleLinesModel_putNumber_44 ?_
      refine tk_callVv (As := [.int (iI (48 + (t % 10)))]) (rest := []) (wr := []) (wn := fun u => [(mM, .inr (6, [.int (iI tm), .ref aT, .int (iI om), .ref aO, .int (iI tn), .ref aK, .ref aS, .ref aC, .ref aU, .ref aG, .ref aY, .ref aX, .int (iI qn), .ref aP, .int (iI tr), .int (iI rg), .int (iI ll), .int (iI p), .int (iI f), .int (iI ov), .int (iI sz), .ref aM, .int (iI tz), .ref aA, .int (iI u.1), .ref aD, .ref aB, .ref aV, .ref aE])), (aD, .inl (cI, 3000, .inl u.2))]) ⟨xe, xb, xml, xo, xt⟩ (c_TripleLinesModel_put l D cI mM tm aT om aO tn aK aS aC aU aG aY aX qn aP tr rg ll p f ov sz aM tz aA dm aD aB aV aE DR (48 + (t % 10)) (by first | assumption | omega) (by first | assumption | omega)) k_TripleLinesModel_put mw_TripleLinesModel_229 ⟨Nat.le_of_ble_eq_true rfl, Nat.le_of_ble_eq_true rfl⟩ xK xP xD xS xA rfl xl.1 rfl (Nat.le_of_ble_eq_true rfl) d_TripleLinesModel_putNumber_45 ⟨Nat.zero_le _, Nat.zero_le _⟩ [0, 1] [] [0, 1] rfl rfl (by decide) (by decide) (by decide) (by decide) (fun _ => rfl) rfl rfl rfl ?_
      clear xP xD xS
      intro u H locs hw_5 xP xD xS
      obtain ⟨dm2_3, DR2_4⟩ := u
      try dsimp only at hw_5
      replace xP : va_P D classes [(mM, .inr (6, [.int (iI tm), .ref aT, .int (iI om), .ref aO, .int (iI tn), .ref aK, .ref aS, .ref aC, .ref aU, .ref aG, .ref aY, .ref aX, .int (iI qn), .ref aP, .int (iI tr), .int (iI rg), .int (iI ll), .int (iI p), .int (iI f), .int (iI ov), .int (iI sz), .ref aM, .int (iI tz), .ref aA, .int (iI dm2_3), .ref aD, .ref aB, .ref aV, .ref aE])), (aD, .inl (cI, 3000, .inl DR2_4))] H := xP
      replace xD : va_D xA0 [(mM, .inr (6, [.int (iI tm), .ref aT, .int (iI om), .ref aO, .int (iI tn), .ref aK, .ref aS, .ref aC, .ref aU, .ref aG, .ref aY, .ref aX, .int (iI qn), .ref aP, .int (iI tr), .int (iI rg), .int (iI ll), .int (iI p), .int (iI f), .int (iI ov), .int (iI sz), .ref aM, .int (iI tz), .ref aA, .int (iI dm2_3), .ref aD, .ref aB, .ref aV, .ref aE])), (aD, .inl (cI, 3000, .inl DR2_4))] := xD
      replace HC := PwM_trans hdm.1 HC hw_5
      have hgr := HC.1
      simp only [List.length_append, List.length_cons, List.length_nil] at hgr
      clear hw_5
      exact xret _ _ _ _ (dm2_3, DR2_4) d_TripleLinesModel_putNumber_48 (by first | exact (PwM_cast HC (by unfold num; (repeat' split) <;> first | (exfalso; omega) | rfl)) | (dsimp only; exact (PwM_cast HC (by unfold num; (repeat' split) <;> first | (exfalso; omega) | rfl)))) xP xD xS
    · refine lv_aload_n xe xb d_TripleLinesModel_putNumber_23 rfl (lv_at xl 0 rfl) ?_
      refine lv_bipush (v := iI (48)) xe xb d_TripleLinesModel_putNumber_24 (by decide) ?_
      refine lv_iload_n xe xb d_TripleLinesModel_putNumber_26 rfl (lv_at xl 1 rfl) ?_
      refine lv_bipush (v := iI (10)) xe xb d_TripleLinesModel_putNumber_27 (by decide) ?_
      refine tk_idiv xe xb d_TripleLinesModel_putNumber_29 (by omega) ?_
      refine lv_bipush (v := iI (10)) xe xb d_TripleLinesModel_putNumber_30 (by decide) ?_
      refine tk_irem xe xb d_TripleLinesModel_putNumber_32 (by omega) ?_
      refine tk_iadd xe xb d_TripleLinesModel_putNumber_33 ?_
      refine tk_callVv (As := [.int (iI (48 + ((t / 10) % 10)))]) (rest := []) (wr := []) (wn := fun u => [(mM, .inr (6, [.int (iI tm), .ref aT, .int (iI om), .ref aO, .int (iI tn), .ref aK, .ref aS, .ref aC, .ref aU, .ref aG, .ref aY, .ref aX, .int (iI qn), .ref aP, .int (iI tr), .int (iI rg), .int (iI ll), .int (iI p), .int (iI f), .int (iI ov), .int (iI sz), .ref aM, .int (iI tz), .ref aA, .int (iI u.1), .ref aD, .ref aB, .ref aV, .ref aE])), (aD, .inl (cI, 3000, .inl u.2))]) ⟨xe, xb, xml, xo, xt⟩ (c_TripleLinesModel_put l D cI mM tm aT om aO tn aK aS aC aU aG aY aX qn aP tr rg ll p f ov sz aM tz aA dm aD aB aV aE DR (48 + ((t / 10) % 10)) (by first | assumption | omega) (by first | assumption | omega)) k_TripleLinesModel_put mw_TripleLinesModel_229 ⟨Nat.le_of_ble_eq_true rfl, Nat.le_of_ble_eq_true rfl⟩ xK xP xD xS xA rfl xl.1 rfl (Nat.le_of_ble_eq_true rfl) d_TripleLinesModel_putNumber_34 ⟨Nat.zero_le _, Nat.zero_le _⟩ [0, 1] [] [0, 1] rfl rfl (by decide) (by decide) (by decide) (by decide) (fun _ => rfl) rfl rfl rfl ?_
      clear xP xD xS
      intro u H locs hw_9 xP xD xS
      obtain ⟨dm2_7, DR2_8⟩ := u
      try dsimp only at hw_9
      replace xP : va_P D classes [(mM, .inr (6, [.int (iI tm), .ref aT, .int (iI om), .ref aO, .int (iI tn), .ref aK, .ref aS, .ref aC, .ref aU, .ref aG, .ref aY, .ref aX, .int (iI qn), .ref aP, .int (iI tr), .int (iI rg), .int (iI ll), .int (iI p), .int (iI f), .int (iI ov), .int (iI sz), .ref aM, .int (iI tz), .ref aA, .int (iI dm2_7), .ref aD, .ref aB, .ref aV, .ref aE])), (aD, .inl (cI, 3000, .inl DR2_8))] H := xP
      replace xD : va_D xA0 [(mM, .inr (6, [.int (iI tm), .ref aT, .int (iI om), .ref aO, .int (iI tn), .ref aK, .ref aS, .ref aC, .ref aU, .ref aG, .ref aY, .ref aX, .int (iI qn), .ref aP, .int (iI tr), .int (iI rg), .int (iI ll), .int (iI p), .int (iI f), .int (iI ov), .int (iI sz), .ref aM, .int (iI tz), .ref aA, .int (iI dm2_7), .ref aD, .ref aB, .ref aV, .ref aE])), (aD, .inl (cI, 3000, .inl DR2_8))] := xD
      replace HC := PwM_trans hdm.1 HC hw_9
      have hgr := HC.1
      simp only [List.length_append, List.length_cons, List.length_nil] at hgr
      clear hw_9
      refine lv_aload_n xe xb d_TripleLinesModel_putNumber_37 rfl (lv_at xl 0 rfl) ?_
      refine lv_bipush (v := iI (48)) xe xb d_TripleLinesModel_putNumber_38 (by decide) ?_
      refine lv_iload_n xe xb d_TripleLinesModel_putNumber_40 rfl (lv_at xl 1 rfl) ?_
      refine lv_bipush (v := iI (10)) xe xb d_TripleLinesModel_putNumber_41 (by decide) ?_
      refine tk_irem xe xb d_TripleLinesModel_putNumber_43 (by omega) ?_
      refine tk_iadd xe xb d_TripleLinesModel_putNumber_44 ?_
      refine tk_callVv (As := [.int (iI (48 + (t % 10)))]) (rest := []) (wr := []) (wn := fun u => [(mM, .inr (6, [.int (iI tm), .ref aT, .int (iI om), .ref aO, .int (iI tn), .ref aK, .ref aS, .ref aC, .ref aU, .ref aG, .ref aY, .ref aX, .int (iI qn), .ref aP, .int (iI tr), .int (iI rg), .int (iI ll), .int (iI p), .int (iI f), .int (iI ov), .int (iI sz), .ref aM, .int (iI tz), .ref aA, .int (iI u.1), .ref aD, .ref aB, .ref aV, .ref aE])), (aD, .inl (cI, 3000, .inl u.2))]) ⟨xe, xb, xml, xo, xt⟩ (c_TripleLinesModel_put l D cI mM tm aT om aO tn aK aS aC aU aG aY aX qn aP tr rg ll p f ov sz aM tz aA dm2_7 aD aB aV aE DR2_8 (48 + (t % 10)) (by first | assumption | omega) (by first | assumption | omega)) k_TripleLinesModel_put mw_TripleLinesModel_229 ⟨Nat.le_of_ble_eq_true rfl, Nat.le_of_ble_eq_true rfl⟩ xK xP xD xS xA rfl xl.1 rfl (Nat.le_of_ble_eq_true rfl) d_TripleLinesModel_putNumber_45 ⟨Nat.zero_le _, Nat.zero_le _⟩ [0, 1] [] [0, 1] rfl rfl (by decide) (by decide) (by decide) (by decide) (fun _ => rfl) rfl rfl rfl ?_
      clear xP xD xS
      intro u H locs hw_13 xP xD xS
      obtain ⟨dm2_11, DR2_12⟩ := u
      try dsimp only at hw_13
      replace xP : va_P D classes [(mM, .inr (6, [.int (iI tm), .ref aT, .int (iI om), .ref aO, .int (iI tn), .ref aK, .ref aS, .ref aC, .ref aU, .ref aG, .ref aY, .ref aX, .int (iI qn), .ref aP, .int (iI tr), .int (iI rg), .int (iI ll), .int (iI p), .int (iI f), .int (iI ov), .int (iI sz), .ref aM, .int (iI tz), .ref aA, .int (iI dm2_11), .ref aD, .ref aB, .ref aV, .ref aE])), (aD, .inl (cI, 3000, .inl DR2_12))] H := xP
      replace xD : va_D xA0 [(mM, .inr (6, [.int (iI tm), .ref aT, .int (iI om), .ref aO, .int (iI tn), .ref aK, .ref aS, .ref aC, .ref aU, .ref aG, .ref aY, .ref aX, .int (iI qn), .ref aP, .int (iI tr), .int (iI rg), .int (iI ll), .int (iI p), .int (iI f), .int (iI ov), .int (iI sz), .ref aM, .int (iI tz), .ref aA, .int (iI dm2_11), .ref aD, .ref aB, .ref aV, .ref aE])), (aD, .inl (cI, 3000, .inl DR2_12))] := xD
      replace HC := PwM_trans hdm.1 HC hw_13
      have hgr := HC.1
      simp only [List.length_append, List.length_cons, List.length_nil] at hgr
      clear hw_13
      exact xret _ _ _ _ (dm2_11, DR2_12) d_TripleLinesModel_putNumber_48 (by first | exact (PwM_cast HC (by unfold num; (repeat' split) <;> first | (exfalso; omega) | rfl)) | (dsimp only; exact (PwM_cast HC (by unfold num; (repeat' split) <;> first | (exfalso; omega) | rfl)))) xP xD xS
  · refine lv_aload_n xe xb d_TripleLinesModel_putNumber_6 rfl (lv_at xl 0 rfl) ?_
    refine lv_bipush (v := iI (48)) xe xb d_TripleLinesModel_putNumber_7 (by decide) ?_
    refine lv_iload_n xe xb d_TripleLinesModel_putNumber_9 rfl (lv_at xl 1 rfl) ?_
    refine lv_bipush (v := iI (100)) xe xb d_TripleLinesModel_putNumber_10 (by decide) ?_
    refine tk_idiv xe xb d_TripleLinesModel_putNumber_12 (by omega) ?_
    refine tk_iadd xe xb d_TripleLinesModel_putNumber_13 ?_
    refine tk_callVv (As := [.int (iI (48 + (t / 100)))]) (rest := []) (wr := []) (wn := fun u => [(mM, .inr (6, [.int (iI tm), .ref aT, .int (iI om), .ref aO, .int (iI tn), .ref aK, .ref aS, .ref aC, .ref aU, .ref aG, .ref aY, .ref aX, .int (iI qn), .ref aP, .int (iI tr), .int (iI rg), .int (iI ll), .int (iI p), .int (iI f), .int (iI ov), .int (iI sz), .ref aM, .int (iI tz), .ref aA, .int (iI u.1), .ref aD, .ref aB, .ref aV, .ref aE])), (aD, .inl (cI, 3000, .inl u.2))]) ⟨xe, xb, xml, xo, xt⟩ (c_TripleLinesModel_put l D cI mM tm aT om aO tn aK aS aC aU aG aY aX qn aP tr rg ll p f ov sz aM tz aA dm aD aB aV aE DR (48 + (t / 100)) (by first | assumption | omega) (by first | assumption | omega)) k_TripleLinesModel_put mw_TripleLinesModel_229 ⟨Nat.le_of_ble_eq_true rfl, Nat.le_of_ble_eq_true rfl⟩ xK xP xD xS xA rfl xl.1 rfl (Nat.le_of_ble_eq_true rfl) d_TripleLinesModel_putNumber_14 ⟨Nat.zero_le _, Nat.zero_le _⟩ [0, 1] [] [0, 1] rfl rfl (by decide) (by decide) (by decide) (by decide) (fun _ => rfl) rfl rfl rfl ?_
    clear xP xD xS
    intro u H locs hw_17 xP xD xS
    obtain ⟨dm2_15, DR2_16⟩ := u
    try dsimp only at hw_17
    replace xP : va_P D classes [(mM, .inr (6, [.int (iI tm), .ref aT, .int (iI om), .ref aO, .int (iI tn), .ref aK, .ref aS, .ref aC, .ref aU, .ref aG, .ref aY, .ref aX, .int (iI qn), .ref aP, .int (iI tr), .int (iI rg), .int (iI ll), .int (iI p), .int (iI f), .int (iI ov), .int (iI sz), .ref aM, .int (iI tz), .ref aA, .int (iI dm2_15), .ref aD, .ref aB, .ref aV, .ref aE])), (aD, .inl (cI, 3000, .inl DR2_16))] H := xP
    replace xD : va_D xA0 [(mM, .inr (6, [.int (iI tm), .ref aT, .int (iI om), .ref aO, .int (iI tn), .ref aK, .ref aS, .ref aC, .ref aU, .ref aG, .ref aY, .ref aX, .int (iI qn), .ref aP, .int (iI tr), .int (iI rg), .int (iI ll), .int (iI p), .int (iI f), .int (iI ov), .int (iI sz), .ref aM, .int (iI tz), .ref aA, .int (iI dm2_15), .ref aD, .ref aB, .ref aV, .ref aE])), (aD, .inl (cI, 3000, .inl DR2_16))] := xD
    replace HC := PwM_trans hdm.1 HC hw_17
    have hgr := HC.1
    simp only [List.length_append, List.length_cons, List.length_nil] at hgr
    clear hw_17
    refine lv_iload_n xe xb d_TripleLinesModel_putNumber_17 rfl (lv_at xl 1 rfl) ?_
    refine lv_bipush (v := iI (9)) xe xb d_TripleLinesModel_putNumber_18 (by decide) ?_
    refine tk_icmp_le (tgt := 37) xe xb d_TripleLinesModel_putNumber_20 (by decide) (by omega) (fun c_19 => ?_) (fun c_19 => ?_)
    · refine lv_aload_n xe xb d_TripleLinesModel_putNumber_37 rfl (lv_at xl 0 rfl) ?_
      refine lv_bipush (v := iI (48)) xe xb d_TripleLinesModel_putNumber_38 (by decide) ?_
      refine lv_iload_n xe xb d_TripleLinesModel_putNumber_40 rfl (lv_at xl 1 rfl) ?_
      refine lv_bipush (v := iI (10)) xe xb d_TripleLinesModel_putNumber_41 (by decide) ?_
      refine tk_irem xe xb d_TripleLinesModel_putNumber_43 (by omega) ?_
      refine tk_iadd xe xb d_TripleLinesModel_putNumber_44 ?_
      refine tk_callVv (As := [.int (iI (48 + (t % 10)))]) (rest := []) (wr := []) (wn := fun u => [(mM, .inr (6, [.int (iI tm), .ref aT, .int (iI om), .ref aO, .int (iI tn), .ref aK, .ref aS, .ref aC, .ref aU, .ref aG, .ref aY, .ref aX, .int (iI qn), .ref aP, .int (iI tr), .int (iI rg), .int (iI ll), .int (iI p), .int (iI f), .int (iI ov), .int (iI sz), .ref aM, .int (iI tz), .ref aA, .int (iI u.1), .ref aD, .ref aB, .ref aV, .ref aE])), (aD, .inl (cI, 3000, .inl u.2))]) ⟨xe, xb, xml, xo, xt⟩ (c_TripleLinesModel_put l D cI mM tm aT om aO tn aK aS aC aU aG aY aX qn aP tr rg ll p f ov sz aM tz aA dm2_15 aD aB aV aE DR2_16 (48 + (t % 10)) (by first | assumption | omega) (by first | assumption | omega)) k_TripleLinesModel_put mw_TripleLinesModel_229 ⟨Nat.le_of_ble_eq_true rfl, Nat.le_of_ble_eq_true rfl⟩ xK xP xD xS xA rfl xl.1 rfl (Nat.le_of_ble_eq_true rfl) d_TripleLinesModel_putNumber_45 ⟨Nat.zero_le _, Nat.zero_le _⟩ [0, 1] [] [0, 1] rfl rfl (by decide) (by decide) (by decide) (by decide) (fun _ => rfl) rfl rfl rfl ?_
      clear xP xD xS
      intro u H locs hw_22 xP xD xS
      obtain ⟨dm2_20, DR2_21⟩ := u
      try dsimp only at hw_22
      replace xP : va_P D classes [(mM, .inr (6, [.int (iI tm), .ref aT, .int (iI om), .ref aO, .int (iI tn), .ref aK, .ref aS, .ref aC, .ref aU, .ref aG, .ref aY, .ref aX, .int (iI qn), .ref aP, .int (iI tr), .int (iI rg), .int (iI ll), .int (iI p), .int (iI f), .int (iI ov), .int (iI sz), .ref aM, .int (iI tz), .ref aA, .int (iI dm2_20), .ref aD, .ref aB, .ref aV, .ref aE])), (aD, .inl (cI, 3000, .inl DR2_21))] H := xP
      replace xD : va_D xA0 [(mM, .inr (6, [.int (iI tm), .ref aT, .int (iI om), .ref aO, .int (iI tn), .ref aK, .ref aS, .ref aC, .ref aU, .ref aG, .ref aY, .ref aX, .int (iI qn), .ref aP, .int (iI tr), .int (iI rg), .int (iI ll), .int (iI p), .int (iI f), .int (iI ov), .int (iI sz), .ref aM, .int (iI tz), .ref aA, .int (iI dm2_20), .ref aD, .ref aB, .ref aV, .ref aE])), (aD, .inl (cI, 3000, .inl DR2_21))] := xD
      replace HC := PwM_trans hdm.1 HC hw_22
      have hgr := HC.1
      simp only [List.length_append, List.length_cons, List.length_nil] at hgr
      clear hw_22
      exact xret _ _ _ _ (dm2_20, DR2_21) d_TripleLinesModel_putNumber_48 (by first | exact (PwM_cast HC (by unfold num; (repeat' split) <;> first | (exfalso; omega) | rfl)) | (dsimp only; exact (PwM_cast HC (by unfold num; (repeat' split) <;> first | (exfalso; omega) | rfl)))) xP xD xS
    · refine lv_aload_n xe xb d_TripleLinesModel_putNumber_23 rfl (lv_at xl 0 rfl) ?_
      refine lv_bipush (v := iI (48)) xe xb d_TripleLinesModel_putNumber_24 (by decide) ?_
      refine lv_iload_n xe xb d_TripleLinesModel_putNumber_26 rfl (lv_at xl 1 rfl) ?_
      refine lv_bipush (v := iI (10)) xe xb d_TripleLinesModel_putNumber_27 (by decide) ?_
      refine tk_idiv xe xb d_TripleLinesModel_putNumber_29 (by omega) ?_
      refine lv_bipush (v := iI (10)) xe xb d_TripleLinesModel_putNumber_30 (by decide) ?_
      refine tk_irem xe xb d_TripleLinesModel_putNumber_32 (by omega) ?_
      refine tk_iadd xe xb d_TripleLinesModel_putNumber_33 ?_
      refine tk_callVv (As := [.int (iI (48 + ((t / 10) % 10)))]) (rest := []) (wr := []) (wn := fun u => [(mM, .inr (6, [.int (iI tm), .ref aT, .int (iI om), .ref aO, .int (iI tn), .ref aK, .ref aS, .ref aC, .ref aU, .ref aG, .ref aY, .ref aX, .int (iI qn), .ref aP, .int (iI tr), .int (iI rg), .int (iI ll), .int (iI p), .int (iI f), .int (iI ov), .int (iI sz), .ref aM, .int (iI tz), .ref aA, .int (iI u.1), .ref aD, .ref aB, .ref aV, .ref aE])), (aD, .inl (cI, 3000, .inl u.2))]) ⟨xe, xb, xml, xo, xt⟩ (c_TripleLinesModel_put l D cI mM tm aT om aO tn aK aS aC aU aG aY aX qn aP tr rg ll p f ov sz aM tz aA dm2_15 aD aB aV aE DR2_16 (48 + ((t / 10) % 10)) (by first | assumption | omega) (by first | assumption | omega)) k_TripleLinesModel_put mw_TripleLinesModel_229 ⟨Nat.le_of_ble_eq_true rfl, Nat.le_of_ble_eq_true rfl⟩ xK xP xD xS xA rfl xl.1 rfl (Nat.le_of_ble_eq_true rfl) d_TripleLinesModel_putNumber_34 ⟨Nat.zero_le _, Nat.zero_le _⟩ [0, 1] [] [0, 1] rfl rfl (by decide) (by decide) (by decide) (by decide) (fun _ => rfl) rfl rfl rfl ?_
      clear xP xD xS
      intro u H locs hw_26 xP xD xS
      obtain ⟨dm2_24, DR2_25⟩ := u
      try dsimp only at hw_26
      replace xP : va_P D classes [(mM, .inr (6, [.int (iI tm), .ref aT, .int (iI om), .ref aO, .int (iI tn), .ref aK, .ref aS, .ref aC, .ref aU, .ref aG, .ref aY, .ref aX, .int (iI qn), .ref aP, .int (iI tr), .int (iI rg), .int (iI ll), .int (iI p), .int (iI f), .int (iI ov), .int (iI sz), .ref aM, .int (iI tz), .ref aA, .int (iI dm2_24), .ref aD, .ref aB, .ref aV, .ref aE])), (aD, .inl (cI, 3000, .inl DR2_25))] H := xP
      replace xD : va_D xA0 [(mM, .inr (6, [.int (iI tm), .ref aT, .int (iI om), .ref aO, .int (iI tn), .ref aK, .ref aS, .ref aC, .ref aU, .ref aG, .ref aY, .ref aX, .int (iI qn), .ref aP, .int (iI tr), .int (iI rg), .int (iI ll), .int (iI p), .int (iI f), .int (iI ov), .int (iI sz), .ref aM, .int (iI tz), .ref aA, .int (iI dm2_24), .ref aD, .ref aB, .ref aV, .ref aE])), (aD, .inl (cI, 3000, .inl DR2_25))] := xD
      replace HC := PwM_trans hdm.1 HC hw_26
      have hgr := HC.1
      simp only [List.length_append, List.length_cons, List.length_nil] at hgr
      clear hw_26
      refine lv_aload_n xe xb d_TripleLinesModel_putNumber_37 rfl (lv_at xl 0 rfl) ?_
      refine lv_bipush (v := iI (48)) xe xb d_TripleLinesModel_putNumber_38 (by decide) ?_
      refine lv_iload_n xe xb d_TripleLinesModel_putNumber_40 rfl (lv_at xl 1 rfl) ?_
      refine lv_bipush (v := iI (10)) xe xb d_TripleLinesModel_putNumber_41 (by decide) ?_
      refine tk_irem xe xb d_TripleLinesModel_putNumber_43 (by omega) ?_
      refine tk_iadd xe xb d_TripleLinesModel_putNumber_44 ?_
      refine tk_callVv (As := [.int (iI (48 + (t % 10)))]) (rest := []) (wr := []) (wn := fun u => [(mM, .inr (6, [.int (iI tm), .ref aT, .int (iI om), .ref aO, .int (iI tn), .ref aK, .ref aS, .ref aC, .ref aU, .ref aG, .ref aY, .ref aX, .int (iI qn), .ref aP, .int (iI tr), .int (iI rg), .int (iI ll), .int (iI p), .int (iI f), .int (iI ov), .int (iI sz), .ref aM, .int (iI tz), .ref aA, .int (iI u.1), .ref aD, .ref aB, .ref aV, .ref aE])), (aD, .inl (cI, 3000, .inl u.2))]) ⟨xe, xb, xml, xo, xt⟩ (c_TripleLinesModel_put l D cI mM tm aT om aO tn aK aS aC aU aG aY aX qn aP tr rg ll p f ov sz aM tz aA dm2_24 aD aB aV aE DR2_25 (48 + (t % 10)) (by first | assumption | omega) (by first | assumption | omega)) k_TripleLinesModel_put mw_TripleLinesModel_229 ⟨Nat.le_of_ble_eq_true rfl, Nat.le_of_ble_eq_true rfl⟩ xK xP xD xS xA rfl xl.1 rfl (Nat.le_of_ble_eq_true rfl) d_TripleLinesModel_putNumber_45 ⟨Nat.zero_le _, Nat.zero_le _⟩ [0, 1] [] [0, 1] rfl rfl (by decide) (by decide) (by decide) (by decide) (fun _ => rfl) rfl rfl rfl ?_
      clear xP xD xS
      intro u H locs hw_30 xP xD xS
      obtain ⟨dm2_28, DR2_29⟩ := u
      try dsimp only at hw_30
      replace xP : va_P D classes [(mM, .inr (6, [.int (iI tm), .ref aT, .int (iI om), .ref aO, .int (iI tn), .ref aK, .ref aS, .ref aC, .ref aU, .ref aG, .ref aY, .ref aX, .int (iI qn), .ref aP, .int (iI tr), .int (iI rg), .int (iI ll), .int (iI p), .int (iI f), .int (iI ov), .int (iI sz), .ref aM, .int (iI tz), .ref aA, .int (iI dm2_28), .ref aD, .ref aB, .ref aV, .ref aE])), (aD, .inl (cI, 3000, .inl DR2_29))] H := xP
      replace xD : va_D xA0 [(mM, .inr (6, [.int (iI tm), .ref aT, .int (iI om), .ref aO, .int (iI tn), .ref aK, .ref aS, .ref aC, .ref aU, .ref aG, .ref aY, .ref aX, .int (iI qn), .ref aP, .int (iI tr), .int (iI rg), .int (iI ll), .int (iI p), .int (iI f), .int (iI ov), .int (iI sz), .ref aM, .int (iI tz), .ref aA, .int (iI dm2_28), .ref aD, .ref aB, .ref aV, .ref aE])), (aD, .inl (cI, 3000, .inl DR2_29))] := xD
      replace HC := PwM_trans hdm.1 HC hw_30
      have hgr := HC.1
      simp only [List.length_append, List.length_cons, List.length_nil] at hgr
      clear hw_30
      exact xret _ _ _ _ (dm2_28, DR2_29) d_TripleLinesModel_putNumber_48 (by first | exact (PwM_cast HC (by unfold num; (repeat' split) <;> first | (exfalso; omega) | rfl)) | (dsimp only; exact (PwM_cast HC (by unfold num; (repeat' split) <;> first | (exfalso; omega) | rfl)))) xP xD xS
set_option maxHeartbeats 4000000 in
set_option maxRecDepth 100000 in
theorem c_TripleLinesModel_putNode (l : Launch) (D : va_G) (cI : ClassId) (mM : Nat) (tm : Int) (aT : Nat) (om : Int) (aO : Nat) (tn : Int) (aK : Nat) (aS : Nat) (aC : Nat) (aU : Nat) (aG : Nat) (aY : Nat) (aX : Nat) (qn : Int) (aP : Nat) (tr : Int) (rg : Int) (ll : Int) (p : Int) (f : Int) (ov : Int) (sz : Int) (aM : Nat) (tz : Int) (aA : Nat) (dm : Int) (aD : Nat) (aB : Nat) (aV : Nat) (aE : Nat) (Ln : Nat → Int32) (C : Nat → Int32) (DR : Nat → Int32) (t : Int) (TL : Nat → Int32) (hdm : 0 ≤ dm ∧ dm ≤ 1999998000) (hs : tOk Ln TL tn) (ht : 0 ≤ t ∧ t < tn) : CtV l D [(cI, .int)] y_TripleLinesModel_putNode b_TripleLinesModel_putNode 2 4 [.ref mM, .int (iI t)] [(mM, .inr (6, [.int (iI tm), .ref aT, .int (iI om), .ref aO, .int (iI tn), .ref aK, .ref aS, .ref aC, .ref aU, .ref aG, .ref aY, .ref aX, .int (iI qn), .ref aP, .int (iI tr), .int (iI rg), .int (iI ll), .int (iI p), .int (iI f), .int (iI ov), .int (iI sz), .ref aM, .int (iI tz), .ref aA, .int (iI dm), .ref aD, .ref aB, .ref aV, .ref aE])), (aS, .inl (cI, 120, .inl Ln)), (aC, .inl (cI, 4800, .inl C)), (aD, .inl (cI, 3000, .inl DR))] (S := Int × (Nat → Int32)) (fun u => PwM u.1 u.2 dm DR (60 :: (cts 0 (seg C (t * 40) (tI Ln t)) ++ [62]))) (fun u => [(mM, .inr (6, [.int (iI tm), .ref aT, .int (iI om), .ref aO, .int (iI tn), .ref aK, .ref aS, .ref aC, .ref aU, .ref aG, .ref aY, .ref aX, .int (iI qn), .ref aP, .int (iI tr), .int (iI rg), .int (iI ll), .int (iI p), .int (iI f), .int (iI ov), .int (iI sz), .ref aM, .int (iI tz), .ref aA, .int (iI u.1), .ref aD, .ref aB, .ref aV, .ref aE])), (aS, .inl (cI, 120, .inl Ln)), (aC, .inl (cI, 4800, .inl C)), (aD, .inl (cI, 3000, .inl u.2))]) := by
  refine CtV.walk (by decide) (Nat.le_of_ble_eq_true rfl) ?_
  intro xp xe0 xs xm xar xbelow xmeth xc xA0 xQ xe xb xml xo xt xP xK xD xA xret ls xl xS
  have xl : lv_has ls 2 [(0, .ref mM), (1, .int (iI t))] := xl
  have xo : xs.vm.findClass R_TripleLinesModel = some xm.cls := xo
  have HC := PwM_nil (D := DR) hdm.1
  have hz : 0 ≤ tn ∧ tn ≤ 120 := ⟨hs.1, hs.2.1⟩
  have htt := hs.2.2 t ht.1 ht.2
  have hln := cts_len 0 (seg C (t * 40) (tI Ln t)); rw [seg_len] at hln
  refine lv_aload_n xe xb d_TripleLinesModel_putNode_0 rfl (lv_at xl 0 rfl) ?_
  refine lv_bipush (v := iI (60)) xe xb d_TripleLinesModel_putNode_1 (by decide) ?_
  refine tk_callVv (As := [.int (iI 60)]) (rest := []) (wr := [(aS, .inl (cI, 120, .inl Ln)), (aC, .inl (cI, 4800, .inl C))]) (wn := fun u => [(mM, .inr (6, [.int (iI tm), .ref aT, .int (iI om), .ref aO, .int (iI tn), .ref aK, .ref aS, .ref aC, .ref aU, .ref aG, .ref aY, .ref aX, .int (iI qn), .ref aP, .int (iI tr), .int (iI rg), .int (iI ll), .int (iI p), .int (iI f), .int (iI ov), .int (iI sz), .ref aM, .int (iI tz), .ref aA, .int (iI u.1), .ref aD, .ref aB, .ref aV, .ref aE])), (aS, .inl (cI, 120, .inl Ln)), (aC, .inl (cI, 4800, .inl C)), (aD, .inl (cI, 3000, .inl u.2))]) ⟨xe, xb, xml, xo, xt⟩ (c_TripleLinesModel_put l D cI mM tm aT om aO tn aK aS aC aU aG aY aX qn aP tr rg ll p f ov sz aM tz aA dm aD aB aV aE DR 60 (by first | assumption | omega) (by first | assumption | omega)) k_TripleLinesModel_put mw_TripleLinesModel_229 ⟨Nat.le_of_ble_eq_true rfl, Nat.le_of_ble_eq_true rfl⟩ xK xP xD xS xA rfl xl.1 rfl (Nat.le_of_ble_eq_true rfl) d_TripleLinesModel_putNode_3 ⟨Nat.zero_le _, Nat.zero_le _⟩ [0, 3] [1, 2] [2, 0, 1, 3] rfl rfl (by decide) (by decide) (by decide) (by decide) (fun _ => rfl) rfl rfl rfl ?_
  clear xP xD xS
  intro u H locs hw_3 xP xD xS
  obtain ⟨dm2_1, DR2_2⟩ := u
  try dsimp only at hw_3
  replace xP : va_P D classes [(mM, .inr (6, [.int (iI tm), .ref aT, .int (iI om), .ref aO, .int (iI tn), .ref aK, .ref aS, .ref aC, .ref aU, .ref aG, .ref aY, .ref aX, .int (iI qn), .ref aP, .int (iI tr), .int (iI rg), .int (iI ll), .int (iI p), .int (iI f), .int (iI ov), .int (iI sz), .ref aM, .int (iI tz), .ref aA, .int (iI dm2_1), .ref aD, .ref aB, .ref aV, .ref aE])), (aS, .inl (cI, 120, .inl Ln)), (aC, .inl (cI, 4800, .inl C)), (aD, .inl (cI, 3000, .inl DR2_2))] H := xP
  replace xD : va_D xA0 [(mM, .inr (6, [.int (iI tm), .ref aT, .int (iI om), .ref aO, .int (iI tn), .ref aK, .ref aS, .ref aC, .ref aU, .ref aG, .ref aY, .ref aX, .int (iI qn), .ref aP, .int (iI tr), .int (iI rg), .int (iI ll), .int (iI p), .int (iI f), .int (iI ov), .int (iI sz), .ref aM, .int (iI tz), .ref aA, .int (iI dm2_1), .ref aD, .ref aB, .ref aV, .ref aE])), (aS, .inl (cI, 120, .inl Ln)), (aC, .inl (cI, 4800, .inl C)), (aD, .inl (cI, 3000, .inl DR2_2))] := xD
  replace HC := PwM_trans hdm.1 HC hw_3
  have hgr := HC.1
  simp only [List.length_append, List.length_cons, List.length_nil] at hgr
  clear hw_3
  refine lv_aload_n xe xb d_TripleLinesModel_putNode_6 rfl (lv_at xl 0 rfl) ?_
  refine lv_iload_n xe xb d_TripleLinesModel_putNode_7 rfl (lv_at xl 1 rfl) ?_
  refine lv_iconst (v := iI (0)) xe xb d_TripleLinesModel_putNode_8 rfl ?_
  refine tk_callVv (As := [.int (iI t), .int (iI 0)]) (rest := []) (wr := []) (wn := fun u => [(mM, .inr (6, [.int (iI tm), .ref aT, .int (iI om), .ref aO, .int (iI tn), .ref aK, .ref aS, .ref aC, .ref aU, .ref aG, .ref aY, .ref aX, .int (iI qn), .ref aP, .int (iI tr), .int (iI rg), .int (iI ll), .int (iI p), .int (iI f), .int (iI ov), .int (iI sz), .ref aM, .int (iI tz), .ref aA, .int (iI u.1), .ref aD, .ref aB, .ref aV, .ref aE])), (aS, .inl (cI, 120, .inl Ln)), (aC, .inl (cI, 4800, .inl C)), (aD, .inl (cI, 3000, .inl u.2))]) ⟨xe, xb, xml, xo, xt⟩ (c_TripleLinesModel_putCodes l D cI mM tm aT om aO tn aK aS aC aU aG aY aX qn aP tr rg ll p f ov sz aM tz aA dm2_1 aD aB aV aE Ln C DR2_2 t 0 TL (by first | assumption | omega) (by first | assumption | omega) (by first | assumption | omega) (by first | assumption | omega)) k_TripleLinesModel_putCodes mw_TripleLinesModel_244 ⟨Nat.le_of_ble_eq_true rfl, Nat.le_of_ble_eq_true rfl⟩ xK xP xD xS xA rfl xl.1 rfl (Nat.le_of_ble_eq_true rfl) d_TripleLinesModel_putNode_9 ⟨Nat.zero_le _, Nat.zero_le _⟩ [0, 1, 2, 3] [] [0, 1, 2, 3] rfl rfl (by decide) (by decide) (by decide) (by decide) (fun _ => rfl) rfl rfl rfl ?_
  clear xP xD xS
  intro u H locs hw_7 xP xD xS
  obtain ⟨dm2_5, DR2_6⟩ := u
  try dsimp only at hw_7
  replace xP : va_P D classes [(mM, .inr (6, [.int (iI tm), .ref aT, .int (iI om), .ref aO, .int (iI tn), .ref aK, .ref aS, .ref aC, .ref aU, .ref aG, .ref aY, .ref aX, .int (iI qn), .ref aP, .int (iI tr), .int (iI rg), .int (iI ll), .int (iI p), .int (iI f), .int (iI ov), .int (iI sz), .ref aM, .int (iI tz), .ref aA, .int (iI dm2_5), .ref aD, .ref aB, .ref aV, .ref aE])), (aS, .inl (cI, 120, .inl Ln)), (aC, .inl (cI, 4800, .inl C)), (aD, .inl (cI, 3000, .inl DR2_6))] H := xP
  replace xD : va_D xA0 [(mM, .inr (6, [.int (iI tm), .ref aT, .int (iI om), .ref aO, .int (iI tn), .ref aK, .ref aS, .ref aC, .ref aU, .ref aG, .ref aY, .ref aX, .int (iI qn), .ref aP, .int (iI tr), .int (iI rg), .int (iI ll), .int (iI p), .int (iI f), .int (iI ov), .int (iI sz), .ref aM, .int (iI tz), .ref aA, .int (iI dm2_5), .ref aD, .ref aB, .ref aV, .ref aE])), (aS, .inl (cI, 120, .inl Ln)), (aC, .inl (cI, 4800, .inl C)), (aD, .inl (cI, 3000, .inl DR2_6))] := xD
  replace HC := PwM_trans hdm.1 HC hw_7
  have hgr := HC.1
  simp only [List.length_append, List.length_cons, List.length_nil] at hgr
  clear hw_7
  refine lv_aload_n xe xb d_TripleLinesModel_putNode_12 rfl (lv_at xl 0 rfl) ?_
  refine lv_bipush (v := iI (62)) xe xb d_TripleLinesModel_putNode_13 (by decide) ?_
  refine tk_callVv (As := [.int (iI 62)]) (rest := []) (wr := [(aS, .inl (cI, 120, .inl Ln)), (aC, .inl (cI, 4800, .inl C))]) (wn := fun u => [(mM, .inr (6, [.int (iI tm), .ref aT, .int (iI om), .ref aO, .int (iI tn), .ref aK, .ref aS, .ref aC, .ref aU, .ref aG, .ref aY, .ref aX, .int (iI qn), .ref aP, .int (iI tr), .int (iI rg), .int (iI ll), .int (iI p), .int (iI f), .int (iI ov), .int (iI sz), .ref aM, .int (iI tz), .ref aA, .int (iI u.1), .ref aD, .ref aB, .ref aV, .ref aE])), (aS, .inl (cI, 120, .inl Ln)), (aC, .inl (cI, 4800, .inl C)), (aD, .inl (cI, 3000, .inl u.2))]) ⟨xe, xb, xml, xo, xt⟩ (c_TripleLinesModel_put l D cI mM tm aT om aO tn aK aS aC aU aG aY aX qn aP tr rg ll p f ov sz aM tz aA dm2_5 aD aB aV aE DR2_6 62 (by first | assumption | omega) (by first | assumption | omega)) k_TripleLinesModel_put mw_TripleLinesModel_229 ⟨Nat.le_of_ble_eq_true rfl, Nat.le_of_ble_eq_true rfl⟩ xK xP xD xS xA rfl xl.1 rfl (Nat.le_of_ble_eq_true rfl) d_TripleLinesModel_putNode_15 ⟨Nat.zero_le _, Nat.zero_le _⟩ [0, 3] [1, 2] [2, 0, 1, 3] rfl rfl (by decide) (by decide) (by decide) (by decide) (fun _ => rfl) rfl rfl rfl ?_
  clear xP xD xS
  intro u H locs hw_11 xP xD xS
  obtain ⟨dm2_9, DR2_10⟩ := u
  try dsimp only at hw_11
  replace xP : va_P D classes [(mM, .inr (6, [.int (iI tm), .ref aT, .int (iI om), .ref aO, .int (iI tn), .ref aK, .ref aS, .ref aC, .ref aU, .ref aG, .ref aY, .ref aX, .int (iI qn), .ref aP, .int (iI tr), .int (iI rg), .int (iI ll), .int (iI p), .int (iI f), .int (iI ov), .int (iI sz), .ref aM, .int (iI tz), .ref aA, .int (iI dm2_9), .ref aD, .ref aB, .ref aV, .ref aE])), (aS, .inl (cI, 120, .inl Ln)), (aC, .inl (cI, 4800, .inl C)), (aD, .inl (cI, 3000, .inl DR2_10))] H := xP
  replace xD : va_D xA0 [(mM, .inr (6, [.int (iI tm), .ref aT, .int (iI om), .ref aO, .int (iI tn), .ref aK, .ref aS, .ref aC, .ref aU, .ref aG, .ref aY, .ref aX, .int (iI qn), .ref aP, .int (iI tr), .int (iI rg), .int (iI ll), .int (iI p), .int (iI f), .int (iI ov), .int (iI sz), .ref aM, .int (iI tz), .ref aA, .int (iI dm2_9), .ref aD, .ref aB, .ref aV, .ref aE])), (aS, .inl (cI, 120, .inl Ln)), (aC, .inl (cI, 4800, .inl C)), (aD, .inl (cI, 3000, .inl DR2_10))] := xD
  replace HC := PwM_trans hdm.1 HC hw_11
  have hgr := HC.1
  simp only [List.length_append, List.length_cons, List.length_nil] at hgr
  clear hw_11
  exact xret _ _ _ _ (dm2_9, DR2_10) d_TripleLinesModel_putNode_18 (by first | exact (PwM_cast HC (by simp)) | (dsimp only; exact (PwM_cast HC (by simp)))) xP xD xS
