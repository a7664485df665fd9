theorem d_Terms_beginReading_0 : decode b_Terms_beginReading 0 = .ok (.aload_n 0, 1) := by decide +kernel
theorem d_Terms_beginReading_1 : decode b_Terms_beginReading 1 = .ok (.aload_n 0, 1) := by decide +kernel
theorem d_Terms_beginReading_2 : decode b_Terms_beginReading 2 = .ok (.getfield 30, 3) := by decide +kernel
theorem d_Terms_beginReading_5 : decode b_Terms_beginReading 5 = .ok (.putfield 34, 3) := by decide +kernel
theorem d_Terms_beginReading_8 : decode b_Terms_beginReading 8 = .ok (.aload_n 0, 1) := by decide +kernel
theorem d_Terms_beginReading_9 : decode b_Terms_beginReading 9 = .ok (.iconst 0, 1) := by decide +kernel
theorem d_Terms_beginReading_10 : decode b_Terms_beginReading 10 = .ok (.putfield 37, 3) := by decide +kernel
theorem d_Terms_beginReading_13 : decode b_Terms_beginReading 13 = .ok (.return_, 1) := by decide +kernel
theorem d_Terms_cutTo_0 : decode b_Terms_cutTo 0 = .ok (.iload_n 1, 1) := by decide +kernel
theorem d_Terms_cutTo_1 : decode b_Terms_cutTo 1 = .ok (.ifCond .lt 16, 3) := by decide +kernel
theorem d_Terms_cutTo_4 : decode b_Terms_cutTo 4 = .ok (.iload_n 1, 1) := by decide +kernel
theorem d_Terms_cutTo_5 : decode b_Terms_cutTo 5 = .ok (.aload_n 0, 1) := by decide +kernel
theorem d_Terms_cutTo_6 : decode b_Terms_cutTo 6 = .ok (.getfield 30, 3) := by decide +kernel
theorem d_Terms_cutTo_9 : decode b_Terms_cutTo 9 = .ok (.if_icmp .ge 8, 3) := by decide +kernel
theorem d_Terms_cutTo_12 : decode b_Terms_cutTo 12 = .ok (.aload_n 0, 1) := by decide +kernel
theorem d_Terms_cutTo_13 : decode b_Terms_cutTo 13 = .ok (.iload_n 1, 1) := by decide +kernel
theorem d_Terms_cutTo_14 : decode b_Terms_cutTo 14 = .ok (.putfield 30, 3) := by decide +kernel
theorem d_Terms_cutTo_17 : decode b_Terms_cutTo 17 = .ok (.return_, 1) := by decide +kernel
theorem d_Terms_has_0 : decode b_Terms_has 0 = .ok (.iload_n 1, 1) := by decide +kernel
theorem d_Terms_has_1 : decode b_Terms_has 1 = .ok (.ifCond .lt 21, 3) := by decide +kernel
theorem d_Terms_has_4 : decode b_Terms_has 4 = .ok (.iload_n 1, 1) := by decide +kernel
theorem d_Terms_has_5 : decode b_Terms_has 5 = .ok (.aload_n 0, 1) := by decide +kernel
theorem d_Terms_has_6 : decode b_Terms_has 6 = .ok (.getfield 30, 3) := by decide +kernel
theorem d_Terms_has_9 : decode b_Terms_has 9 = .ok (.if_icmp .ge 13, 3) := by decide +kernel
theorem d_Terms_has_12 : decode b_Terms_has 12 = .ok (.iload_n 1, 1) := by decide +kernel
theorem d_Terms_has_13 : decode b_Terms_has 13 = .ok (.bipush 120, 2) := by decide +kernel
theorem d_Terms_has_15 : decode b_Terms_has 15 = .ok (.if_icmp .ge 7, 3) := by decide +kernel
theorem d_Terms_has_18 : decode b_Terms_has 18 = .ok (.iconst 1, 1) := by decide +kernel
theorem d_Terms_has_19 : decode b_Terms_has 19 = .ok (.goto 4, 3) := by decide +kernel
theorem d_Terms_has_22 : decode b_Terms_has 22 = .ok (.iconst 0, 1) := by decide +kernel
theorem d_Terms_has_23 : decode b_Terms_has 23 = .ok (.ireturn, 1) := by decide +kernel
theorem d_Terms_sortOf_0 : decode b_Terms_sortOf 0 = .ok (.aload_n 0, 1) := by decide +kernel
theorem d_Terms_sortOf_1 : decode b_Terms_sortOf 1 = .ok (.iload_n 1, 1) := by decide +kernel
theorem d_Terms_sortOf_2 : decode b_Terms_sortOf 2 = .ok (.invokevirtual 41, 3) := by decide +kernel
theorem d_Terms_sortOf_5 : decode b_Terms_sortOf 5 = .ok (.ifCond .ne 5, 3) := by decide +kernel
theorem d_Terms_sortOf_8 : decode b_Terms_sortOf 8 = .ok (.iconst 0, 1) := by decide +kernel
theorem d_Terms_sortOf_9 : decode b_Terms_sortOf 9 = .ok (.ireturn, 1) := by decide +kernel
theorem d_Terms_sortOf_10 : decode b_Terms_sortOf 10 = .ok (.aload_n 0, 1) := by decide +kernel
theorem d_Terms_sortOf_11 : decode b_Terms_sortOf 11 = .ok (.getfield 27, 3) := by decide +kernel
theorem d_Terms_sortOf_14 : decode b_Terms_sortOf 14 = .ok (.iload_n 1, 1) := by decide +kernel
theorem d_Terms_sortOf_15 : decode b_Terms_sortOf 15 = .ok (.iaload, 1) := by decide +kernel
theorem d_Terms_sortOf_16 : decode b_Terms_sortOf 16 = .ok (.iconst (-1), 1) := by decide +kernel
theorem d_Terms_sortOf_17 : decode b_Terms_sortOf 17 = .ok (.if_icmp .eq 5, 3) := by decide +kernel
theorem d_Terms_sortOf_20 : decode b_Terms_sortOf 20 = .ok (.iconst 2, 1) := by decide +kernel
theorem d_Terms_sortOf_21 : decode b_Terms_sortOf 21 = .ok (.ireturn, 1) := by decide +kernel
theorem d_Terms_sortOf_22 : decode b_Terms_sortOf 22 = .ok (.aload_n 0, 1) := by decide +kernel
theorem d_Terms_sortOf_23 : decode b_Terms_sortOf 23 = .ok (.getfield 21, 3) := by decide +kernel
theorem d_Terms_sortOf_26 : decode b_Terms_sortOf 26 = .ok (.iload_n 1, 1) := by decide +kernel
theorem d_Terms_sortOf_27 : decode b_Terms_sortOf 27 = .ok (.iaload, 1) := by decide +kernel
theorem d_Terms_sortOf_28 : decode b_Terms_sortOf 28 = .ok (.ifCond .le 7, 3) := by decide +kernel
theorem d_Terms_sortOf_31 : decode b_Terms_sortOf 31 = .ok (.iconst 1, 1) := by decide +kernel
theorem d_Terms_sortOf_32 : decode b_Terms_sortOf 32 = .ok (.goto 4, 3) := by decide +kernel
theorem d_Terms_sortOf_35 : decode b_Terms_sortOf 35 = .ok (.iconst 0, 1) := by decide +kernel
theorem d_Terms_sortOf_36 : decode b_Terms_sortOf 36 = .ok (.ireturn, 1) := by decide +kernel
theorem d_Terms_codeAt_0 : decode b_Terms_codeAt 0 = .ok (.aload_n 0, 1) := by decide +kernel
theorem d_Terms_codeAt_1 : decode b_Terms_codeAt 1 = .ok (.iload_n 1, 1) := by decide +kernel
theorem d_Terms_codeAt_2 : decode b_Terms_codeAt 2 = .ok (.invokevirtual 41, 3) := by decide +kernel
theorem d_Terms_codeAt_5 : decode b_Terms_codeAt 5 = .ok (.ifCond .eq 37, 3) := by decide +kernel
theorem d_Terms_codeAt_8 : decode b_Terms_codeAt 8 = .ok (.iload_n 2, 1) := by decide +kernel
theorem d_Terms_codeAt_9 : decode b_Terms_codeAt 9 = .ok (.ifCond .lt 33, 3) := by decide +kernel
theorem d_Terms_codeAt_12 : decode b_Terms_codeAt 12 = .ok (.iload_n 2, 1) := by decide +kernel
theorem d_Terms_codeAt_13 : decode b_Terms_codeAt 13 = .ok (.aload_n 0, 1) := by decide +kernel
theorem d_Terms_codeAt_14 : decode b_Terms_codeAt 14 = .ok (.getfield 15, 3) := by decide +kernel
theorem d_Terms_codeAt_17 : decode b_Terms_codeAt 17 = .ok (.iload_n 1, 1) := by decide +kernel
theorem d_Terms_codeAt_18 : decode b_Terms_codeAt 18 = .ok (.iaload, 1) := by decide +kernel
theorem d_Terms_codeAt_19 : decode b_Terms_codeAt 19 = .ok (.if_icmp .ge 23, 3) := by decide +kernel
theorem d_Terms_codeAt_22 : decode b_Terms_codeAt 22 = .ok (.iload_n 2, 1) := by decide +kernel
theorem d_Terms_codeAt_23 : decode b_Terms_codeAt 23 = .ok (.bipush 40, 2) := by decide +kernel
theorem d_Terms_codeAt_25 : decode b_Terms_codeAt 25 = .ok (.if_icmp .ge 17, 3) := by decide +kernel
theorem d_Terms_codeAt_28 : decode b_Terms_codeAt 28 = .ok (.aload_n 0, 1) := by decide +kernel
theorem d_Terms_codeAt_29 : decode b_Terms_codeAt 29 = .ok (.getfield 18, 3) := by decide +kernel
theorem d_Terms_codeAt_32 : decode b_Terms_codeAt 32 = .ok (.iload_n 1, 1) := by decide +kernel
theorem d_Terms_codeAt_33 : decode b_Terms_codeAt 33 = .ok (.bipush 40, 2) := by decide +kernel
theorem d_Terms_codeAt_35 : decode b_Terms_codeAt 35 = .ok (.imul, 1) := by decide +kernel
theorem d_Terms_codeAt_36 : decode b_Terms_codeAt 36 = .ok (.iload_n 2, 1) := by decide +kernel
theorem d_Terms_codeAt_37 : decode b_Terms_codeAt 37 = .ok (.iadd, 1) := by decide +kernel
theorem d_Terms_codeAt_38 : decode b_Terms_codeAt 38 = .ok (.iaload, 1) := by decide +kernel
theorem d_Terms_codeAt_39 : decode b_Terms_codeAt 39 = .ok (.goto 4, 3) := by decide +kernel
theorem d_Terms_codeAt_42 : decode b_Terms_codeAt 42 = .ok (.iconst (-1), 1) := by decide +kernel
theorem d_Terms_codeAt_43 : decode b_Terms_codeAt 43 = .ok (.ireturn, 1) := by decide +kernel
theorem d_Terms_tagAt_0 : decode b_Terms_tagAt 0 = .ok (.aload_n 0, 1) := by decide +kernel
theorem d_Terms_tagAt_1 : decode b_Terms_tagAt 1 = .ok (.iload_n 1, 1) := by decide +kernel
theorem d_Terms_tagAt_2 : decode b_Terms_tagAt 2 = .ok (.invokevirtual 41, 3) := by decide +kernel
theorem d_Terms_tagAt_5 : decode b_Terms_tagAt 5 = .ok (.ifCond .eq 37, 3) := by decide +kernel
theorem d_Terms_tagAt_8 : decode b_Terms_tagAt 8 = .ok (.iload_n 2, 1) := by decide +kernel
theorem d_Terms_tagAt_9 : decode b_Terms_tagAt 9 = .ok (.ifCond .lt 33, 3) := by decide +kernel
theorem d_Terms_tagAt_12 : decode b_Terms_tagAt 12 = .ok (.iload_n 2, 1) := by decide +kernel
theorem d_Terms_tagAt_13 : decode b_Terms_tagAt 13 = .ok (.aload_n 0, 1) := by decide +kernel
theorem d_Terms_tagAt_14 : decode b_Terms_tagAt 14 = .ok (.getfield 21, 3) := by decide +kernel
theorem d_Terms_tagAt_17 : decode b_Terms_tagAt 17 = .ok (.iload_n 1, 1) := by decide +kernel
theorem d_Terms_tagAt_18 : decode b_Terms_tagAt 18 = .ok (.iaload, 1) := by decide +kernel
theorem d_Terms_tagAt_19 : decode b_Terms_tagAt 19 = .ok (.if_icmp .ge 23, 3) := by decide +kernel
theorem d_Terms_tagAt_22 : decode b_Terms_tagAt 22 = .ok (.iload_n 2, 1) := by decide +kernel
theorem d_Terms_tagAt_23 : decode b_Terms_tagAt 23 = .ok (.bipush 16, 2) := by decide +kernel
theorem d_Terms_tagAt_25 : decode b_Terms_tagAt 25 = .ok (.if_icmp .ge 17, 3) := by decide +kernel
theorem d_Terms_tagAt_28 : decode b_Terms_tagAt 28 = .ok (.aload_n 0, 1) := by decide +kernel
theorem d_Terms_tagAt_29 : decode b_Terms_tagAt 29 = .ok (.getfield 24, 3) := by decide +kernel
theorem d_Terms_tagAt_32 : decode b_Terms_tagAt 32 = .ok (.iload_n 1, 1) := by decide +kernel
theorem d_Terms_tagAt_33 : decode b_Terms_tagAt 33 = .ok (.bipush 16, 2) := by decide +kernel
theorem d_Terms_tagAt_35 : decode b_Terms_tagAt 35 = .ok (.imul, 1) := by decide +kernel
theorem d_Terms_tagAt_36 : decode b_Terms_tagAt 36 = .ok (.iload_n 2, 1) := by decide +kernel
theorem d_Terms_tagAt_37 : decode b_Terms_tagAt 37 = .ok (.iadd, 1) := by decide +kernel
theorem d_Terms_tagAt_38 : decode b_Terms_tagAt 38 = .ok (.iaload, 1) := by decide +kernel
theorem d_Terms_tagAt_39 : decode b_Terms_tagAt 39 = .ok (.goto 4, 3) := by decide +kernel
theorem d_Terms_tagAt_42 : decode b_Terms_tagAt 42 = .ok (.iconst (-1), 1) := by decide +kernel
theorem d_Terms_tagAt_43 : decode b_Terms_tagAt 43 = .ok (.ireturn, 1) := by decide +kernel
theorem d_Terms_holds_0 : decode b_Terms_holds 0 = .ok (.iload_n 1, 1) := by decide +kernel
theorem d_Terms_holds_1 : decode b_Terms_holds 1 = .ok (.ifCond .lt 14, 3) := by decide +kernel
theorem d_Terms_holds_4 : decode b_Terms_holds 4 = .ok (.iload_n 1, 1) := by decide +kernel
theorem d_Terms_holds_5 : decode b_Terms_holds 5 = .ok (.aload_n 2, 1) := by decide +kernel
theorem d_Terms_holds_6 : decode b_Terms_holds 6 = .ok (.getfield 53, 3) := by decide +kernel
theorem d_Terms_holds_9 : decode b_Terms_holds 9 = .ok (.iadd, 1) := by decide +kernel
theorem d_Terms_holds_10 : decode b_Terms_holds 10 = .ok (.aload_n 0, 1) := by decide +kernel
theorem d_Terms_holds_11 : decode b_Terms_holds 11 = .ok (.arraylength, 1) := by decide +kernel
theorem d_Terms_holds_12 : decode b_Terms_holds 12 = .ok (.if_icmp .le 5, 3) := by decide +kernel
theorem d_Terms_holds_15 : decode b_Terms_holds 15 = .ok (.iconst 0, 1) := by decide +kernel
theorem d_Terms_holds_16 : decode b_Terms_holds 16 = .ok (.ireturn, 1) := by decide +kernel
theorem d_Terms_holds_17 : decode b_Terms_holds 17 = .ok (.iconst 0, 1) := by decide +kernel
theorem d_Terms_holds_18 : decode b_Terms_holds 18 = .ok (.istore_n 3, 1) := by decide +kernel
theorem d_Terms_holds_19 : decode b_Terms_holds 19 = .ok (.iload_n 3, 1) := by decide +kernel
theorem d_Terms_holds_20 : decode b_Terms_holds 20 = .ok (.aload_n 2, 1) := by decide +kernel
theorem d_Terms_holds_21 : decode b_Terms_holds 21 = .ok (.getfield 53, 3) := by decide +kernel
theorem d_Terms_holds_24 : decode b_Terms_holds 24 = .ok (.if_icmp .ge 34, 3) := by decide +kernel
theorem d_Terms_holds_27 : decode b_Terms_holds 27 = .ok (.iload_n 3, 1) := by decide +kernel
theorem d_Terms_holds_28 : decode b_Terms_holds 28 = .ok (.aload_n 2, 1) := by decide +kernel
theorem d_Terms_holds_29 : decode b_Terms_holds 29 = .ok (.getfield 62, 3) := by decide +kernel
theorem d_Terms_holds_32 : decode b_Terms_holds 32 = .ok (.arraylength, 1) := by decide +kernel
theorem d_Terms_holds_33 : decode b_Terms_holds 33 = .ok (.if_icmp .ge 25, 3) := by decide +kernel
theorem d_Terms_holds_36 : decode b_Terms_holds 36 = .ok (.aload_n 0, 1) := by decide +kernel
theorem d_Terms_holds_37 : decode b_Terms_holds 37 = .ok (.iload_n 1, 1) := by decide +kernel
theorem d_Terms_holds_38 : decode b_Terms_holds 38 = .ok (.iload_n 3, 1) := by decide +kernel
theorem d_Terms_holds_39 : decode b_Terms_holds 39 = .ok (.iadd, 1) := by decide +kernel
theorem d_Terms_holds_40 : decode b_Terms_holds 40 = .ok (.iaload, 1) := by decide +kernel
theorem d_Terms_holds_41 : decode b_Terms_holds 41 = .ok (.aload_n 2, 1) := by decide +kernel
theorem d_Terms_holds_42 : decode b_Terms_holds 42 = .ok (.getfield 62, 3) := by decide +kernel
theorem d_Terms_holds_45 : decode b_Terms_holds 45 = .ok (.iload_n 3, 1) := by decide +kernel
theorem d_Terms_holds_46 : decode b_Terms_holds 46 = .ok (.iaload, 1) := by decide +kernel
theorem d_Terms_holds_47 : decode b_Terms_holds 47 = .ok (.if_icmp .eq 5, 3) := by decide +kernel
theorem d_Terms_holds_50 : decode b_Terms_holds 50 = .ok (.iconst 0, 1) := by decide +kernel
theorem d_Terms_holds_51 : decode b_Terms_holds 51 = .ok (.ireturn, 1) := by decide +kernel
theorem d_Terms_holds_52 : decode b_Terms_holds 52 = .ok (.iinc 3 1, 3) := by decide +kernel
theorem d_Terms_holds_55 : decode b_Terms_holds 55 = .ok (.goto (-36), 3) := by decide +kernel
theorem d_Terms_holds_58 : decode b_Terms_holds 58 = .ok (.iconst 1, 1) := by decide +kernel
theorem d_Terms_holds_59 : decode b_Terms_holds 59 = .ok (.ireturn, 1) := by decide +kernel
theorem d_Quads_beginReading_0 : decode b_Quads_beginReading 0 = .ok (.aload_n 0, 1) := by decide +kernel
theorem d_Quads_beginReading_1 : decode b_Quads_beginReading 1 = .ok (.iconst 0, 1) := by decide +kernel
theorem d_Quads_beginReading_2 : decode b_Quads_beginReading 2 = .ok (.putfield 19, 3) := by decide +kernel
theorem d_Quads_beginReading_5 : decode b_Quads_beginReading 5 = .ok (.return_, 1) := by decide +kernel
theorem d_Quads_cutTo_0 : decode b_Quads_cutTo 0 = .ok (.iload_n 1, 1) := by decide +kernel
theorem d_Quads_cutTo_1 : decode b_Quads_cutTo 1 = .ok (.ifCond .lt 16, 3) := by decide +kernel
theorem d_Quads_cutTo_4 : decode b_Quads_cutTo 4 = .ok (.iload_n 1, 1) := by decide +kernel
theorem d_Quads_cutTo_5 : decode b_Quads_cutTo 5 = .ok (.aload_n 0, 1) := by decide +kernel
theorem d_Quads_cutTo_6 : decode b_Quads_cutTo 6 = .ok (.getfield 15, 3) := by decide +kernel
theorem d_Quads_cutTo_9 : decode b_Quads_cutTo 9 = .ok (.if_icmp .ge 8, 3) := by decide +kernel
theorem d_Quads_cutTo_12 : decode b_Quads_cutTo 12 = .ok (.aload_n 0, 1) := by decide +kernel
theorem d_Quads_cutTo_13 : decode b_Quads_cutTo 13 = .ok (.iload_n 1, 1) := by decide +kernel
theorem d_Quads_cutTo_14 : decode b_Quads_cutTo 14 = .ok (.putfield 15, 3) := by decide +kernel
theorem d_Quads_cutTo_17 : decode b_Quads_cutTo 17 = .ok (.return_, 1) := by decide +kernel
theorem d_Quads_has_0 : decode b_Quads_has 0 = .ok (.iload_n 1, 1) := by decide +kernel
theorem d_Quads_has_1 : decode b_Quads_has 1 = .ok (.ifCond .lt 21, 3) := by decide +kernel
theorem d_Quads_has_4 : decode b_Quads_has 4 = .ok (.iload_n 1, 1) := by decide +kernel
theorem d_Quads_has_5 : decode b_Quads_has 5 = .ok (.aload_n 0, 1) := by decide +kernel
theorem d_Quads_has_6 : decode b_Quads_has 6 = .ok (.getfield 15, 3) := by decide +kernel
theorem d_Quads_has_9 : decode b_Quads_has 9 = .ok (.if_icmp .ge 13, 3) := by decide +kernel
theorem d_Quads_has_12 : decode b_Quads_has 12 = .ok (.iload_n 1, 1) := by decide +kernel
theorem d_Quads_has_13 : decode b_Quads_has 13 = .ok (.bipush 80, 2) := by decide +kernel
theorem d_Quads_has_15 : decode b_Quads_has 15 = .ok (.if_icmp .ge 7, 3) := by decide +kernel
theorem d_Quads_has_18 : decode b_Quads_has 18 = .ok (.iconst 1, 1) := by decide +kernel
theorem d_Quads_has_19 : decode b_Quads_has 19 = .ok (.goto 4, 3) := by decide +kernel
theorem d_Quads_has_22 : decode b_Quads_has 22 = .ok (.iconst 0, 1) := by decide +kernel
theorem d_Quads_has_23 : decode b_Quads_has 23 = .ok (.ireturn, 1) := by decide +kernel
theorem d_Quads_part_0 : decode b_Quads_part 0 = .ok (.aload_n 0, 1) := by decide +kernel
theorem d_Quads_part_1 : decode b_Quads_part 1 = .ok (.iload_n 1, 1) := by decide +kernel
theorem d_Quads_part_2 : decode b_Quads_part 2 = .ok (.invokevirtual 23, 3) := by decide +kernel
theorem d_Quads_part_5 : decode b_Quads_part 5 = .ok (.ifCond .eq 25, 3) := by decide +kernel
theorem d_Quads_part_8 : decode b_Quads_part 8 = .ok (.iload_n 2, 1) := by decide +kernel
theorem d_Quads_part_9 : decode b_Quads_part 9 = .ok (.ifCond .lt 21, 3) := by decide +kernel
theorem d_Quads_part_12 : decode b_Quads_part 12 = .ok (.iload_n 2, 1) := by decide +kernel
theorem d_Quads_part_13 : decode b_Quads_part 13 = .ok (.iconst 4, 1) := by decide +kernel
theorem d_Quads_part_14 : decode b_Quads_part 14 = .ok (.if_icmp .ge 16, 3) := by decide +kernel
theorem d_Quads_part_17 : decode b_Quads_part 17 = .ok (.aload_n 0, 1) := by decide +kernel
theorem d_Quads_part_18 : decode b_Quads_part 18 = .ok (.getfield 9, 3) := by decide +kernel
theorem d_Quads_part_21 : decode b_Quads_part 21 = .ok (.iload_n 1, 1) := by decide +kernel
theorem d_Quads_part_22 : decode b_Quads_part 22 = .ok (.iconst 4, 1) := by decide +kernel
theorem d_Quads_part_23 : decode b_Quads_part 23 = .ok (.imul, 1) := by decide +kernel
theorem d_Quads_part_24 : decode b_Quads_part 24 = .ok (.iload_n 2, 1) := by decide +kernel
theorem d_Quads_part_25 : decode b_Quads_part 25 = .ok (.iadd, 1) := by decide +kernel
theorem d_Quads_part_26 : decode b_Quads_part 26 = .ok (.iaload, 1) := by decide +kernel
theorem d_Quads_part_27 : decode b_Quads_part 27 = .ok (.goto 4, 3) := by decide +kernel
theorem d_Quads_part_30 : decode b_Quads_part 30 = .ok (.iconst (-1), 1) := by decide +kernel
theorem d_Quads_part_31 : decode b_Quads_part 31 = .ok (.ireturn, 1) := by decide +kernel
set_option maxHeartbeats 4000000 in
set_option maxRecDepth 100000 in
theorem c_Terms_beginReading (l : Launch) (D : va_G) (cI : ClassId) (hT : Nat) (qk : Nat) (ql : Nat) (qc : Nat) (qtl : Nat) (qtg : Nat) (qty : Nat) (K : Nat → Int32) (Ln : Nat → Int32) (C : Nat → Int32) (TL : Nat → Int32) (TG : Nat → Int32) (TY : Nat → Int32) (sz : Int) (fr : Int) (fl : Int)  : CtV l D [(cI, .int)] y_Terms_beginReading b_Terms_beginReading 1 0 [.ref hT] [(hT, .inr (1, [.ref qk, .ref ql, .ref qc, .ref qtl, .ref qtg, .ref qty, .int (iI sz), .int (iI fr), .int (iI fl)])), (qk, .inl (cI, 120, .inl K)), (ql, .inl (cI, 120, .inl Ln)), (qc, .inl (cI, 4800, .inl C)), (qtl, .inl (cI, 120, .inl TL)), (qtg, .inl (cI, 1920, .inl TG)), (qty, .inl (cI, 120, .inl TY))] (S := Int × Int) (fun u => u.1 = sz ∧ u.2 = 0) (fun u => [(hT, .inr (1, [.ref qk, .ref ql, .ref qc, .ref qtl, .ref qtg, .ref qty, .int (iI sz), .int (iI u.1), .int (iI u.2)])), (qk, .inl (cI, 120, .inl K)), (ql, .inl (cI, 120, .inl Ln)), (qc, .inl (cI, 4800, .inl C)), (qtl, .inl (cI, 120, .inl TL)), (qtg, .inl (cI, 1920, .inl TG)), (qty, .inl (cI, 120, .inl TY))]) := by
  refine CtV.walk (by decide) (Nat.le_of_ble_eq_true rfl) ?_
  intro xp xe0 xs xm xar xbelow xmeth xc xA0 xQ xe xb xml xo xt xP xK xD xA xret ls xl xS
  have xl : lv_has ls 1 [(0, .ref hT)] := xl
  have xo : xs.vm.findClass R_Terms = some xm.cls := xo
  refine lv_aload_n xe xb d_Terms_beginReading_0 rfl (lv_at xl 0 rfl) ?_
  refine lv_aload_n xe xb d_Terms_beginReading_1 rfl (lv_at xl 0 rfl) ?_
  refine va_get (D := D) (ci := 1) (v := .int (iI sz)) (C := R_Terms) (T := F_Terms) (N := 9) xe xb xt i_Terms xo xK xP 0 rfl rfl 6 (by decide) (xt _ mw_Terms_30) (fun _ h9 => h9) rfl d_Terms_beginReading_2 ?_
  refine va_put (D := D) (ci := 1) (v := .int (iI sz)) (ty := .int) (C := R_Terms) (T := F_Terms) (N := 9) xe xb xt i_Terms t_Terms t_Terms_ok n_Terms xo xK xP xD xS 0 rfl rfl 7 (by decide) (xt _ mw_Terms_34) (fun _ h9 => h9) rfl (by decide +kernel) rfl rfl (Nat.le_of_ble_eq_true rfl) d_Terms_beginReading_5 (fun H locs xP xD xS => ?_)
  have xP : va_P D classes [(hT, .inr (1, [.ref qk, .ref ql, .ref qc, .ref qtl, .ref qtg, .ref qty, .int (iI sz), .int (iI sz), .int (iI fl)])), (qk, .inl (cI, 120, .inl K)), (ql, .inl (cI, 120, .inl Ln)), (qc, .inl (cI, 4800, .inl C)), (qtl, .inl (cI, 120, .inl TL)), (qtg, .inl (cI, 1920, .inl TG)), (qty, .inl (cI, 120, .inl TY))] H := xP
  have xD : va_D xA0 [(hT, .inr (1, [.ref qk, .ref ql, .ref qc, .ref qtl, .ref qtg, .ref qty, .int (iI sz), .int (iI sz), .int (iI fl)])), (qk, .inl (cI, 120, .inl K)), (ql, .inl (cI, 120, .inl Ln)), (qc, .inl (cI, 4800, .inl C)), (qtl, .inl (cI, 120, .inl TL)), (qtg, .inl (cI, 1920, .inl TG)), (qty, .inl (cI, 120, .inl TY))] := xD
  refine lv_aload_n xe xb d_Terms_beginReading_8 rfl (lv_at xl 0 rfl) ?_
  refine lv_iconst (v := iI (0)) xe xb d_Terms_beginReading_9 rfl ?_
  refine va_put (D := D) (ci := 1) (v := .int (iI 0)) (ty := .boolean) (C := R_Terms) (T := F_Terms) (N := 9) xe xb xt i_Terms t_Terms t_Terms_ok n_Terms xo xK xP xD xS 0 rfl rfl 8 (by decide) (xt _ mw_Terms_37) (fun _ h9 => h9) rfl (by decide +kernel) (by decide) (by decide) (Nat.le_of_ble_eq_true rfl) d_Terms_beginReading_10 (fun H locs xP xD xS => ?_)
  have xP : va_P D classes [(hT, .inr (1, [.ref qk, .ref ql, .ref qc, .ref qtl, .ref qtg, .ref qty, .int (iI sz), .int (iI sz), .int (iI 0)])), (qk, .inl (cI, 120, .inl K)), (ql, .inl (cI, 120, .inl Ln)), (qc, .inl (cI, 4800, .inl C)), (qtl, .inl (cI, 120, .inl TL)), (qtg, .inl (cI, 1920, .inl TG)), (qty, .inl (cI, 120, .inl TY))] H := xP
  have xD : va_D xA0 [(hT, .inr (1, [.ref qk, .ref ql, .ref qc, .ref qtl, .ref qtg, .ref qty, .int (iI sz), .int (iI sz), .int (iI 0)])), (qk, .inl (cI, 120, .inl K)), (ql, .inl (cI, 120, .inl Ln)), (qc, .inl (cI, 4800, .inl C)), (qtl, .inl (cI, 120, .inl TL)), (qtg, .inl (cI, 1920, .inl TG)), (qty, .inl (cI, 120, .inl TY))] := xD
  exact xret _ _ _ _ (sz, 0) d_Terms_beginReading_13 (by first | exact ⟨rfl, rfl⟩ | (dsimp only; exact ⟨rfl, rfl⟩)) xP xD xS
set_option maxHeartbeats 4000000 in
set_option maxRecDepth 100000 in
theorem c_Terms_cutTo (l : Launch) (D : va_G) (cI : ClassId) (hT : Nat) (qk : Nat) (ql : Nat) (qc : Nat) (qtl : Nat) (qtg : Nat) (qty : Nat) (K : Nat → Int32) (Ln : Nat → Int32) (C : Nat → Int32) (TL : Nat → Int32) (TG : Nat → Int32) (TY : Nat → Int32) (sz : Int) (fr : Int) (fl : Int) (ns : Int) (hz : 0 ≤ sz ∧ sz ≤ 120) (hns : -2147483648 ≤ ns ∧ ns < 2147483648) : CtV l D [(cI, .int)] y_Terms_cutTo b_Terms_cutTo 2 0 [.ref hT, .int (iI ns)] [(hT, .inr (1, [.ref qk, .ref ql, .ref qc, .ref qtl, .ref qtg, .ref qty, .int (iI sz), .int (iI fr), .int (iI fl)])), (qk, .inl (cI, 120, .inl K)), (ql, .inl (cI, 120, .inl Ln)), (qc, .inl (cI, 4800, .inl C)), (qtl, .inl (cI, 120, .inl TL)), (qtg, .inl (cI, 1920, .inl TG)), (qty, .inl (cI, 120, .inl TY))] (S := Int) (fun u => u = if 0 ≤ ns ∧ ns < sz then ns else sz) (fun u => [(hT, .inr (1, [.ref qk, .ref ql, .ref qc, .ref qtl, .ref qtg, .ref qty, .int (iI u), .int (iI fr), .int (iI fl)])), (qk, .inl (cI, 120, .inl K)), (ql, .inl (cI, 120, .inl Ln)), (qc, .inl (cI, 4800, .inl C)), (qtl, .inl (cI, 120, .inl TL)), (qtg, .inl (cI, 1920, .inl TG)), (qty, .inl (cI, 120, .inl TY))]) := by
  refine CtV.walk (by decide) (Nat.le_of_ble_eq_true rfl) ?_
  intro xp xe0 xs xm xar xbelow xmeth xc xA0 xQ xe xb xml xo xt xP xK xD xA xret ls xl xS
  have xl : lv_has ls 2 [(0, .ref hT), (1, .int (iI ns))] := xl
  have xo : xs.vm.findClass R_Terms = some xm.cls := xo
  refine lv_iload_n xe xb d_Terms_cutTo_0 rfl (lv_at xl 1 rfl) ?_
  refine tk_if_lt (tgt := 17) xe xb d_Terms_cutTo_1 (by decide) (by omega) (fun c_1 => ?_) (fun c_1 => ?_)
  · exact xret _ _ _ _ sz d_Terms_cutTo_17 (by first | exact (by split <;> omega) | (dsimp only; exact (by split <;> omega))) xP xD xS
  · refine lv_iload_n xe xb d_Terms_cutTo_4 rfl (lv_at xl 1 rfl) ?_
    refine lv_aload_n xe xb d_Terms_cutTo_5 rfl (lv_at xl 0 rfl) ?_
    refine va_get (D := D) (ci := 1) (v := .int (iI sz)) (C := R_Terms) (T := F_Terms) (N := 9) xe xb xt i_Terms xo xK xP 0 rfl rfl 6 (by decide) (xt _ mw_Terms_30) (fun _ h9 => h9) rfl d_Terms_cutTo_6 ?_
    refine tk_icmp_ge (tgt := 17) xe xb d_Terms_cutTo_9 (by decide) (by omega) (fun c_2 => ?_) (fun c_2 => ?_)
    · exact xret _ _ _ _ sz d_Terms_cutTo_17 (by first | exact (by split <;> omega) | (dsimp only; exact (by split <;> omega))) xP xD xS
    · refine lv_aload_n xe xb d_Terms_cutTo_12 rfl (lv_at xl 0 rfl) ?_
      refine lv_iload_n xe xb d_Terms_cutTo_13 rfl (lv_at xl 1 rfl) ?_
      refine va_put (D := D) (ci := 1) (v := .int (iI ns)) (ty := .int) (C := R_Terms) (T := F_Terms) (N := 9) xe xb xt i_Terms t_Terms t_Terms_ok n_Terms xo xK xP xD xS 0 rfl rfl 6 (by decide) (xt _ mw_Terms_30) (fun _ h9 => h9) rfl (by decide +kernel) rfl rfl (Nat.le_of_ble_eq_true rfl) d_Terms_cutTo_14 (fun H locs xP xD xS => ?_)
      have xP : va_P D classes [(hT, .inr (1, [.ref qk, .ref ql, .ref qc, .ref qtl, .ref qtg, .ref qty, .int (iI ns), .int (iI fr), .int (iI fl)])), (qk, .inl (cI, 120, .inl K)), (ql, .inl (cI, 120, .inl Ln)), (qc, .inl (cI, 4800, .inl C)), (qtl, .inl (cI, 120, .inl TL)), (qtg, .inl (cI, 1920, .inl TG)), (qty, .inl (cI, 120, .inl TY))] H := xP
      have xD : va_D xA0 [(hT, .inr (1, [.ref qk, .ref ql, .ref qc, .ref qtl, .ref qtg, .ref qty, .int (iI ns), .int (iI fr), .int (iI fl)])), (qk, .inl (cI, 120, .inl K)), (ql, .inl (cI, 120, .inl Ln)), (qc, .inl (cI, 4800, .inl C)), (qtl, .inl (cI, 120, .inl TL)), (qtg, .inl (cI, 1920, .inl TG)), (qty, .inl (cI, 120, .inl TY))] := xD
      exact xret _ _ _ _ ns d_Terms_cutTo_17 (by first | exact (by split <;> omega) | (dsimp only; exact (by split <;> omega))) xP xD xS
set_option maxHeartbeats 4000000 in
set_option maxRecDepth 100000 in
theorem c_Terms_has (l : Launch) (D : va_G) (cI : ClassId) (hT : Nat) (qk : Nat) (ql : Nat) (qc : Nat) (qtl : Nat) (qtg : Nat) (qty : Nat) (K : Nat → Int32) (Ln : Nat → Int32) (C : Nat → Int32) (TL : Nat → Int32) (TG : Nat → Int32) (TY : Nat → Int32) (sz : Int) (fr : Int) (fl : Int) (t : Int) (hz : 0 ≤ sz ∧ sz ≤ 120) (ht : -2147483648 ≤ t ∧ t < 2147483648) : CtI l D [(cI, .int)] y_Terms_has b_Terms_has 2 (some .boolean) 0 [.ref hT, .int (iI t)] [(hT, .inr (1, [.ref qk, .ref ql, .ref qc, .ref qtl, .ref qtg, .ref qty, .int (iI sz), .int (iI fr), .int (iI fl)])), (qk, .inl (cI, 120, .inl K)), (ql, .inl (cI, 120, .inl Ln)), (qc, .inl (cI, 4800, .inl C)), (qtl, .inl (cI, 120, .inl TL)), (qtg, .inl (cI, 1920, .inl TG)), (qty, .inl (cI, 120, .inl TY))] (S := Unit) (fun z u => (z = 1 ∧ (0 ≤ t ∧ t < sz)) ∨ (z = 0 ∧ ¬ (0 ≤ t ∧ t < sz))) (fun u => [(hT, .inr (1, [.ref qk, .ref ql, .ref qc, .ref qtl, .ref qtg, .ref qty, .int (iI sz), .int (iI fr), .int (iI fl)])), (qk, .inl (cI, 120, .inl K)), (ql, .inl (cI, 120, .inl Ln)), (qc, .inl (cI, 4800, .inl C)), (qtl, .inl (cI, 120, .inl TL)), (qtg, .inl (cI, 1920, .inl TG)), (qty, .inl (cI, 120, .inl TY))]) := by
  refine CtI.walk (fun z => z = 0 ∨ z = 1) (fun z hz => by rcases hz with rfl | rfl <;> decide) (by decide) (Nat.le_of_ble_eq_true rfl) ?_
  intro xp xe0 xs xm xar xbelow xmeth xc xA0 xQ xe xb xml xo xt xP xK xD xA xret ls xl xS
  have xl : lv_has ls 2 [(0, .ref hT), (1, .int (iI t))] := xl
  have xo : xs.vm.findClass R_Terms = some xm.cls := xo
  refine lv_iload_n xe xb d_Terms_has_0 rfl (lv_at xl 1 rfl) ?_
  refine tk_if_lt (tgt := 22) xe xb d_Terms_has_1 (by decide) (by omega) (fun c_1 => ?_) (fun c_1 => ?_)
  · refine lv_iconst (v := iI (0)) xe xb d_Terms_has_22 rfl ?_
    exact xret _ _ _ _ 0 () d_Terms_has_23 (by omega) (by omega) (by omega) xP xD xS
  · refine lv_iload_n xe xb d_Terms_has_4 rfl (lv_at xl 1 rfl) ?_
    refine lv_aload_n xe xb d_Terms_has_5 rfl (lv_at xl 0 rfl) ?_
    refine va_get (D := D) (ci := 1) (v := .int (iI sz)) (C := R_Terms) (T := F_Terms) (N := 9) xe xb xt i_Terms xo xK xP 0 rfl rfl 6 (by decide) (xt _ mw_Terms_30) (fun _ h9 => h9) rfl d_Terms_has_6 ?_
    refine tk_icmp_ge (tgt := 22) xe xb d_Terms_has_9 (by decide) (by omega) (fun c_2 => ?_) (fun c_2 => ?_)
    · refine lv_iconst (v := iI (0)) xe xb d_Terms_has_22 rfl ?_
      exact xret _ _ _ _ 0 () d_Terms_has_23 (by omega) (by omega) (by omega) xP xD xS
    · refine lv_iload_n xe xb d_Terms_has_12 rfl (lv_at xl 1 rfl) ?_
      refine lv_bipush (v := iI (120)) xe xb d_Terms_has_13 (by decide) ?_
      refine tk_icmp_ge (tgt := 22) xe xb d_Terms_has_15 (by decide) (by omega) (fun c_3 => ?_) (fun c_3 => ?_)
      · refine lv_iconst (v := iI (0)) xe xb d_Terms_has_22 rfl ?_
        exact xret _ _ _ _ 0 () d_Terms_has_23 (by omega) (by omega) (by omega) xP xD xS
      · refine lv_iconst (v := iI (1)) xe xb d_Terms_has_18 rfl ?_
        refine lv_goto (tgt := 23) xe xb d_Terms_has_19 (by decide) ?_
        exact xret _ _ _ _ 1 () d_Terms_has_23 (by omega) (by omega) (by omega) xP xD xS
set_option maxHeartbeats 4000000 in
set_option maxRecDepth 100000 in
theorem c_Terms_sortOf (l : Launch) (D : va_G) (cI : ClassId) (hT : Nat) (qk : Nat) (ql : Nat) (qc : Nat) (qtl : Nat) (qtg : Nat) (qty : Nat) (K : Nat → Int32) (Ln : Nat → Int32) (C : Nat → Int32) (TL : Nat → Int32) (TG : Nat → Int32) (TY : Nat → Int32) (sz : Int) (fr : Int) (fl : Int) (t : Int) (hz : 0 ≤ sz ∧ sz ≤ 120) (ht : -2147483648 ≤ t ∧ t < 2147483648) : CtI l D [(cI, .int)] y_Terms_sortOf b_Terms_sortOf 2 (some .int) 1 [.ref hT, .int (iI t)] [(hT, .inr (1, [.ref qk, .ref ql, .ref qc, .ref qtl, .ref qtg, .ref qty, .int (iI sz), .int (iI fr), .int (iI fl)])), (qk, .inl (cI, 120, .inl K)), (ql, .inl (cI, 120, .inl Ln)), (qc, .inl (cI, 4800, .inl C)), (qtl, .inl (cI, 120, .inl TL)), (qtg, .inl (cI, 1920, .inl TG)), (qty, .inl (cI, 120, .inl TY))] (S := Unit) (fun z u => z = if 0 ≤ t ∧ t < sz then (if tI TY t ≠ -1 then 2 else if 0 < tI TL t then 1 else 0) else 0) (fun u => [(hT, .inr (1, [.ref qk, .ref ql, .ref qc, .ref qtl, .ref qtg, .ref qty, .int (iI sz), .int (iI fr), .int (iI fl)])), (qk, .inl (cI, 120, .inl K)), (ql, .inl (cI, 120, .inl Ln)), (qc, .inl (cI, 4800, .inl C)), (qtl, .inl (cI, 120, .inl TL)), (qtg, .inl (cI, 1920, .inl TG)), (qty, .inl (cI, 120, .inl TY))]) := by
  refine CtI.walk (fun _ => True) (fun z _ => vp_nar_int _) (by decide) (Nat.le_of_ble_eq_true rfl) ?_
  intro xp xe0 xs xm xar xbelow xmeth xc xA0 xQ xe xb xml xo xt xP xK xD xA xret ls xl xS
  have xl : lv_has ls 2 [(0, .ref hT), (1, .int (iI t))] := xl
  have xo : xs.vm.findClass R_Terms = some xm.cls := xo
  refine lv_aload_n xe xb d_Terms_sortOf_0 rfl (lv_at xl 0 rfl) ?_
  refine lv_iload_n xe xb d_Terms_sortOf_1 rfl (lv_at xl 1 rfl) ?_
  refine tk_callVi (As := [.int (iI t)]) (rest := []) (wr := []) (wn := fun u => [(hT, .inr (1, [.ref qk, .ref ql, .ref qc, .ref qtl, .ref qtg, .ref qty, .int (iI sz), .int (iI fr), .int (iI fl)])), (qk, .inl (cI, 120, .inl K)), (ql, .inl (cI, 120, .inl Ln)), (qc, .inl (cI, 4800, .inl C)), (qtl, .inl (cI, 120, .inl TL)), (qtg, .inl (cI, 1920, .inl TG)), (qty, .inl (cI, 120, .inl TY))]) ⟨xe, xb, xml, xo, xt⟩ (c_Terms_has l D cI hT qk ql qc qtl qtg qty K Ln C TL TG TY sz fr fl t (by first | assumption | omega) (by first | assumption | omega)) k_Terms_has mw_Terms_41 ⟨Nat.le_of_ble_eq_true rfl, Nat.le_of_ble_eq_true rfl⟩ xK xP xD xS xA rfl xl.1 rfl (Nat.le_of_ble_eq_true rfl) d_Terms_sortOf_2 ⟨Nat.zero_le _, Nat.zero_le _⟩ [0, 1, 2, 3, 4, 5, 6] [] [0, 1, 2, 3, 4, 5, 6] rfl rfl (by decide) (by decide) (by decide) (by decide) (fun _ => rfl) rfl rfl rfl (fun z_2 u H locs hr_3 hw_1 xP xD xS => ?_)
  try dsimp only at hw_1
  have xP : va_P D classes [(hT, .inr (1, [.ref qk, .ref ql, .ref qc, .ref qtl, .ref qtg, .ref qty, .int (iI sz), .int (iI fr), .int (iI fl)])), (qk, .inl (cI, 120, .inl K)), (ql, .inl (cI, 120, .inl Ln)), (qc, .inl (cI, 4800, .inl C)), (qtl, .inl (cI, 120, .inl TL)), (qtg, .inl (cI, 1920, .inl TG)), (qty, .inl (cI, 120, .inl TY))] H := xP
  have xD : va_D xA0 [(hT, .inr (1, [.ref qk, .ref ql, .ref qc, .ref qtl, .ref qtg, .ref qty, .int (iI sz), .int (iI fr), .int (iI fl)])), (qk, .inl (cI, 120, .inl K)), (ql, .inl (cI, 120, .inl Ln)), (qc, .inl (cI, 4800, .inl C)), (qtl, .inl (cI, 120, .inl TL)), (qtg, .inl (cI, 1920, .inl TG)), (qty, .inl (cI, 120, .inl TY))] := xD
  rcases hw_1 with ⟨rfl, hb_4⟩ | ⟨rfl, hb_5⟩
  · refine tk_if_ne (tgt := 10) xe xb d_Terms_sortOf_5 (by decide) (by omega) (fun c_6 => ?_) (fun c_6 => absurd c_6 (by omega))
    refine lv_aload_n xe xb d_Terms_sortOf_10 rfl (lv_at xl 0 rfl) ?_
    refine va_get (D := D) (ci := 1) (v := .ref qty) (C := R_Terms) (T := F_Terms) (N := 9) xe xb xt i_Terms xo xK xP 0 rfl rfl 5 (by decide) (xt _ mw_Terms_27) (fun _ h9 => h9) rfl d_Terms_sortOf_11 ?_
    refine lv_iload_n xe xb d_Terms_sortOf_14 rfl (lv_at xl 1 rfl) ?_
    refine tk_iald xe xb xK xP 6 0 rfl rfl (by omega) d_Terms_sortOf_15 ?_
    have hr_7 := tI_rg TY t
    refine lv_iconst (v := iI (-1)) xe xb d_Terms_sortOf_16 rfl ?_
    refine tk_icmp_eq (tgt := 22) xe xb d_Terms_sortOf_17 (by decide) (by omega) (fun c_8 => ?_) (fun c_8 => ?_)
    · refine lv_aload_n xe xb d_Terms_sortOf_22 rfl (lv_at xl 0 rfl) ?_
      refine va_get (D := D) (ci := 1) (v := .ref qtl) (C := R_Terms) (T := F_Terms) (N := 9) xe xb xt i_Terms xo xK xP 0 rfl rfl 3 (by decide) (xt _ mw_Terms_21) (fun _ h9 => h9) rfl d_Terms_sortOf_23 ?_
      refine lv_iload_n xe xb d_Terms_sortOf_26 rfl (lv_at xl 1 rfl) ?_
      refine tk_iald xe xb xK xP 4 0 rfl rfl (by omega) d_Terms_sortOf_27 ?_
      have hr_9 := tI_rg TL t
      refine tk_if_le (tgt := 35) xe xb d_Terms_sortOf_28 (by decide) (by omega) (fun c_10 => ?_) (fun c_10 => ?_)
      · refine lv_iconst (v := iI (0)) xe xb d_Terms_sortOf_35 rfl ?_
        exact xret _ _ _ _ 0 () d_Terms_sortOf_36 trivial (by omega) (by (repeat' split) <;> omega) xP xD xS
      · refine lv_iconst (v := iI (1)) xe xb d_Terms_sortOf_31 rfl ?_
        refine lv_goto (tgt := 36) xe xb d_Terms_sortOf_32 (by decide) ?_
        exact xret _ _ _ _ 1 () d_Terms_sortOf_36 trivial (by omega) (by (repeat' split) <;> omega) xP xD xS
    · refine lv_iconst (v := iI (2)) xe xb d_Terms_sortOf_20 rfl ?_
      exact xret _ _ _ _ 2 () d_Terms_sortOf_21 trivial (by omega) (by (repeat' split) <;> omega) xP xD xS
  · refine tk_if_ne (tgt := 10) xe xb d_Terms_sortOf_5 (by decide) (by omega) (fun c_11 => absurd c_11 (by omega)) (fun c_11 => ?_)
    refine lv_iconst (v := iI (0)) xe xb d_Terms_sortOf_8 rfl ?_
    exact xret _ _ _ _ 0 () d_Terms_sortOf_9 trivial (by omega) (by (repeat' split) <;> omega) xP xD xS
set_option maxHeartbeats 4000000 in
set_option maxRecDepth 100000 in
theorem c_Terms_codeAt (l : Launch) (D : va_G) (cI : ClassId) (hT : Nat) (qk : Nat) (ql : Nat) (qc : Nat) (qtl : Nat) (qtg : Nat) (qty : Nat) (K : Nat → Int32) (Ln : Nat → Int32) (C : Nat → Int32) (TL : Nat → Int32) (TG : Nat → Int32) (TY : Nat → Int32) (sz : Int) (fr : Int) (fl : Int) (t : Int) (i : Int) (hz : 0 ≤ sz ∧ sz ≤ 120) (ht : -2147483648 ≤ t ∧ t < 2147483648) (hi : -2147483648 ≤ i ∧ i < 2147483648) : CtI l D [(cI, .int)] y_Terms_codeAt b_Terms_codeAt 3 (some .int) 1 [.ref hT, .int (iI t), .int (iI i)] [(hT, .inr (1, [.ref qk, .ref ql, .ref qc, .ref qtl, .ref qtg, .ref qty, .int (iI sz), .int (iI fr), .int (iI fl)])), (qk, .inl (cI, 120, .inl K)), (ql, .inl (cI, 120, .inl Ln)), (qc, .inl (cI, 4800, .inl C)), (qtl, .inl (cI, 120, .inl TL)), (qtg, .inl (cI, 1920, .inl TG)), (qty, .inl (cI, 120, .inl TY))] (S := Unit) (fun z u => z = if (0 ≤ t ∧ t < sz) ∧ 0 ≤ i ∧ i < tI Ln t ∧ i < 40 then tI C (t * 40 + i) else -1) (fun u => [(hT, .inr (1, [.ref qk, .ref ql, .ref qc, .ref qtl, .ref qtg, .ref qty, .int (iI sz), .int (iI fr), .int (iI fl)])), (qk, .inl (cI, 120, .inl K)), (ql, .inl (cI, 120, .inl Ln)), (qc, .inl (cI, 4800, .inl C)), (qtl, .inl (cI, 120, .inl TL)), (qtg, .inl (cI, 1920, .inl TG)), (qty, .inl (cI, 120, .inl TY))]) := by
  refine CtI.walk (fun _ => True) (fun z _ => vp_nar_int _) (by decide) (Nat.le_of_ble_eq_true rfl) ?_
  intro xp xe0 xs xm xar xbelow xmeth xc xA0 xQ xe xb xml xo xt xP xK xD xA xret ls xl xS
  have xl : lv_has ls 3 [(0, .ref hT), (1, .int (iI t)), (2, .int (iI i))] := xl
  have xo : xs.vm.findClass R_Terms = some xm.cls := xo
  refine lv_aload_n xe xb d_Terms_codeAt_0 rfl (lv_at xl 0 rfl) ?_
  refine lv_iload_n xe xb d_Terms_codeAt_1 rfl (lv_at xl 1 rfl) ?_
  refine tk_callVi (As := [.int (iI t)]) (rest := []) (wr := []) (wn := fun u => [(hT, .inr (1, [.ref qk, .ref ql, .ref qc, .ref qtl, .ref qtg, .ref qty, .int (iI sz), .int (iI fr), .int (iI fl)])), (qk, .inl (cI, 120, .inl K)), (ql, .inl (cI, 120, .inl Ln)), (qc, .inl (cI, 4800, .inl C)), (qtl, .inl (cI, 120, .inl TL)), (qtg, .inl (cI, 1920, .inl TG)), (qty, .inl (cI, 120, .inl TY))]) ⟨xe, xb, xml, xo, xt⟩ (c_Terms_has l D cI hT qk ql qc qtl qtg qty K Ln C TL TG TY sz fr fl t (by first | assumption | omega) (by first | assumption | omega)) k_Terms_has mw_Terms_41 ⟨Nat.le_of_ble_eq_true rfl, Nat.le_of_ble_eq_true rfl⟩ xK xP xD xS xA rfl xl.1 rfl (Nat.le_of_ble_eq_true rfl) d_Terms_codeAt_2 ⟨Nat.zero_le _, Nat.zero_le _⟩ [0, 1, 2, 3, 4, 5, 6] [] [0, 1, 2, 3, 4, 5, 6] rfl rfl (by decide) (by decide) (by decide) (by decide) (fun _ => rfl) rfl rfl rfl (fun z_2 u H locs hr_3 hw_1 xP xD xS => ?_)
  try dsimp only at hw_1
  have xP : va_P D classes [(hT, .inr (1, [.ref qk, .ref ql, .ref qc, .ref qtl, .ref qtg, .ref qty, .int (iI sz), .int (iI fr), .int (iI fl)])), (qk, .inl (cI, 120, .inl K)), (ql, .inl (cI, 120, .inl Ln)), (qc, .inl (cI, 4800, .inl C)), (qtl, .inl (cI, 120, .inl TL)), (qtg, .inl (cI, 1920, .inl TG)), (qty, .inl (cI, 120, .inl TY))] H := xP
  have xD : va_D xA0 [(hT, .inr (1, [.ref qk, .ref ql, .ref qc, .ref qtl, .ref qtg, .ref qty, .int (iI sz), .int (iI fr), .int (iI fl)])), (qk, .inl (cI, 120, .inl K)), (ql, .inl (cI, 120, .inl Ln)), (qc, .inl (cI, 4800, .inl C)), (qtl, .inl (cI, 120, .inl TL)), (qtg, .inl (cI, 1920, .inl TG)), (qty, .inl (cI, 120, .inl TY))] := xD
  rcases hw_1 with ⟨rfl, hb_4⟩ | ⟨rfl, hb_5⟩
  · refine tk_if_eq (tgt := 42) xe xb d_Terms_codeAt_5 (by decide) (by omega) (fun c_6 => absurd c_6 (by omega)) (fun c_6 => ?_)
    refine lv_iload_n xe xb d_Terms_codeAt_8 rfl (lv_at xl 2 rfl) ?_
    refine tk_if_lt (tgt := 42) xe xb d_Terms_codeAt_9 (by decide) (by omega) (fun c_7 => ?_) (fun c_7 => ?_)
    · refine lv_iconst (v := iI (-1)) xe xb d_Terms_codeAt_42 rfl ?_
      exact xret _ _ _ _ (-1) () d_Terms_codeAt_43 trivial (by omega) (by first | (rw [if_pos (by omega)]) | (rw [if_neg (by omega)])) xP xD xS
    · refine lv_iload_n xe xb d_Terms_codeAt_12 rfl (lv_at xl 2 rfl) ?_
      refine lv_aload_n xe xb d_Terms_codeAt_13 rfl (lv_at xl 0 rfl) ?_
      refine va_get (D := D) (ci := 1) (v := .ref ql) (C := R_Terms) (T := F_Terms) (N := 9) xe xb xt i_Terms xo xK xP 0 rfl rfl 1 (by decide) (xt _ mw_Terms_15) (fun _ h9 => h9) rfl d_Terms_codeAt_14 ?_
      refine lv_iload_n xe xb d_Terms_codeAt_17 rfl (lv_at xl 1 rfl) ?_
      refine tk_iald xe xb xK xP 2 0 rfl rfl (by omega) d_Terms_codeAt_18 ?_
      have hr_8 := tI_rg Ln t
      refine tk_icmp_ge (tgt := 42) xe xb d_Terms_codeAt_19 (by decide) (by omega) (fun c_9 => ?_) (fun c_9 => ?_)
      · refine lv_iconst (v := iI (-1)) xe xb d_Terms_codeAt_42 rfl ?_
        exact xret _ _ _ _ (-1) () d_Terms_codeAt_43 trivial (by omega) (by first | (rw [if_pos (by omega)]) | (rw [if_neg (by omega)])) xP xD xS
      · refine lv_iload_n xe xb d_Terms_codeAt_22 rfl (lv_at xl 2 rfl) ?_
        refine lv_bipush (v := iI (40)) xe xb d_Terms_codeAt_23 (by decide) ?_
        refine tk_icmp_ge (tgt := 42) xe xb d_Terms_codeAt_25 (by decide) (by omega) (fun c_10 => ?_) (fun c_10 => ?_)
        · refine lv_iconst (v := iI (-1)) xe xb d_Terms_codeAt_42 rfl ?_
          exact xret _ _ _ _ (-1) () d_Terms_codeAt_43 trivial (by omega) (by first | (rw [if_pos (by omega)]) | (rw [if_neg (by omega)])) xP xD xS
        · refine lv_aload_n xe xb d_Terms_codeAt_28 rfl (lv_at xl 0 rfl) ?_
          refine va_get (D := D) (ci := 1) (v := .ref qc) (C := R_Terms) (T := F_Terms) (N := 9) xe xb xt i_Terms xo xK xP 0 rfl rfl 2 (by decide) (xt _ mw_Terms_18) (fun _ h9 => h9) rfl d_Terms_codeAt_29 ?_
          refine lv_iload_n xe xb d_Terms_codeAt_32 rfl (lv_at xl 1 rfl) ?_
          refine lv_bipush (v := iI (40)) xe xb d_Terms_codeAt_33 (by decide) ?_
          refine tk_imul xe xb d_Terms_codeAt_35 ?_
          refine lv_iload_n xe xb d_Terms_codeAt_36 rfl (lv_at xl 2 rfl) ?_
          refine tk_iadd xe xb d_Terms_codeAt_37 ?_
          refine tk_iald xe xb xK xP 3 0 rfl rfl (by omega) d_Terms_codeAt_38 ?_
          have hr_11 := tI_rg C ((t * 40) + i)
          refine lv_goto (tgt := 43) xe xb d_Terms_codeAt_39 (by decide) ?_
          exact xret _ _ _ _ (tI C ((t * 40) + i)) () d_Terms_codeAt_43 trivial (by omega) (by first | (rw [if_pos (by omega)]) | (rw [if_neg (by omega)])) xP xD xS
  · refine tk_if_eq (tgt := 42) xe xb d_Terms_codeAt_5 (by decide) (by omega) (fun c_12 => ?_) (fun c_12 => absurd c_12 (by omega))
    refine lv_iconst (v := iI (-1)) xe xb d_Terms_codeAt_42 rfl ?_
    exact xret _ _ _ _ (-1) () d_Terms_codeAt_43 trivial (by omega) (by first | (rw [if_pos (by omega)]) | (rw [if_neg (by omega)])) xP xD xS
set_option maxHeartbeats 4000000 in
set_option maxRecDepth 100000 in
theorem c_Terms_tagAt (l : Launch) (D : va_G) (cI : ClassId) (hT : Nat) (qk : Nat) (ql : Nat) (qc : Nat) (qtl : Nat) (qtg : Nat) (qty : Nat) (K : Nat → Int32) (Ln : Nat → Int32) (C : Nat → Int32) (TL : Nat → Int32) (TG : Nat → Int32) (TY : Nat → Int32) (sz : Int) (fr : Int) (fl : Int) (t : Int) (i : Int) (hz : 0 ≤ sz ∧ sz ≤ 120) (ht : -2147483648 ≤ t ∧ t < 2147483648) (hi : -2147483648 ≤ i ∧ i < 2147483648) : CtI l D [(cI, .int)] y_Terms_tagAt b_Terms_tagAt 3 (some .int) 1 [.ref hT, .int (iI t), .int (iI i)] [(hT, .inr (1, [.ref qk, .ref ql, .ref qc, .ref qtl, .ref qtg, .ref qty, .int (iI sz), .int (iI fr), .int (iI fl)])), (qk, .inl (cI, 120, .inl K)), (ql, .inl (cI, 120, .inl Ln)), (qc, .inl (cI, 4800, .inl C)), (qtl, .inl (cI, 120, .inl TL)), (qtg, .inl (cI, 1920, .inl TG)), (qty, .inl (cI, 120, .inl TY))] (S := Unit) (fun z u => z = if (0 ≤ t ∧ t < sz) ∧ 0 ≤ i ∧ i < tI TL t ∧ i < 16 then tI TG (t * 16 + i) else -1) (fun u => [(hT, .inr (1, [.ref qk, .ref ql, .ref qc, .ref qtl, .ref qtg, .ref qty, .int (iI sz), .int (iI fr), .int (iI fl)])), (qk, .inl (cI, 120, .inl K)), (ql, .inl (cI, 120, .inl Ln)), (qc, .inl (cI, 4800, .inl C)), (qtl, .inl (cI, 120, .inl TL)), (qtg, .inl (cI, 1920, .inl TG)), (qty, .inl (cI, 120, .inl TY))]) := by
  refine CtI.walk (fun _ => True) (fun z _ => vp_nar_int _) (by decide) (Nat.le_of_ble_eq_true rfl) ?_
  intro xp xe0 xs xm xar xbelow xmeth xc xA0 xQ xe xb xml xo xt xP xK xD xA xret ls xl xS
  have xl : lv_has ls 3 [(0, .ref hT), (1, .int (iI t)), (2, .int (iI i))] := xl
  have xo : xs.vm.findClass R_Terms = some xm.cls := xo
  refine lv_aload_n xe xb d_Terms_tagAt_0 rfl (lv_at xl 0 rfl) ?_
  refine lv_iload_n xe xb d_Terms_tagAt_1 rfl (lv_at xl 1 rfl) ?_
  refine tk_callVi (As := [.int (iI t)]) (rest := []) (wr := []) (wn := fun u => [(hT, .inr (1, [.ref qk, .ref ql, .ref qc, .ref qtl, .ref qtg, .ref qty, .int (iI sz), .int (iI fr), .int (iI fl)])), (qk, .inl (cI, 120, .inl K)), (ql, .inl (cI, 120, .inl Ln)), (qc, .inl (cI, 4800, .inl C)), (qtl, .inl (cI, 120, .inl TL)), (qtg, .inl (cI, 1920, .inl TG)), (qty, .inl (cI, 120, .inl TY))]) ⟨xe, xb, xml, xo, xt⟩ (c_Terms_has l D cI hT qk ql qc qtl qtg qty K Ln C TL TG TY sz fr fl t (by first | assumption | omega) (by first | assumption | omega)) k_Terms_has mw_Terms_41 ⟨Nat.le_of_ble_eq_true rfl, Nat.le_of_ble_eq_true rfl⟩ xK xP xD xS xA rfl xl.1 rfl (Nat.le_of_ble_eq_true rfl) d_Terms_tagAt_2 ⟨Nat.zero_le _, Nat.zero_le _⟩ [0, 1, 2, 3, 4, 5, 6] [] [0, 1, 2, 3, 4, 5, 6] rfl rfl (by decide) (by decide) (by decide) (by decide) (fun _ => rfl) rfl rfl rfl (fun z_2 u H locs hr_3 hw_1 xP xD xS => ?_)
  try dsimp only at hw_1
  have xP : va_P D classes [(hT, .inr (1, [.ref qk, .ref ql, .ref qc, .ref qtl, .ref qtg, .ref qty, .int (iI sz), .int (iI fr), .int (iI fl)])), (qk, .inl (cI, 120, .inl K)), (ql, .inl (cI, 120, .inl Ln)), (qc, .inl (cI, 4800, .inl C)), (qtl, .inl (cI, 120, .inl TL)), (qtg, .inl (cI, 1920, .inl TG)), (qty, .inl (cI, 120, .inl TY))] H := xP
  have xD : va_D xA0 [(hT, .inr (1, [.ref qk, .ref ql, .ref qc, .ref qtl, .ref qtg, .ref qty, .int (iI sz), .int (iI fr), .int (iI fl)])), (qk, .inl (cI, 120, .inl K)), (ql, .inl (cI, 120, .inl Ln)), (qc, .inl (cI, 4800, .inl C)), (qtl, .inl (cI, 120, .inl TL)), (qtg, .inl (cI, 1920, .inl TG)), (qty, .inl (cI, 120, .inl TY))] := xD
  rcases hw_1 with ⟨rfl, hb_4⟩ | ⟨rfl, hb_5⟩
  · refine tk_if_eq (tgt := 42) xe xb d_Terms_tagAt_5 (by decide) (by omega) (fun c_6 => absurd c_6 (by omega)) (fun c_6 => ?_)
    refine lv_iload_n xe xb d_Terms_tagAt_8 rfl (lv_at xl 2 rfl) ?_
    refine tk_if_lt (tgt := 42) xe xb d_Terms_tagAt_9 (by decide) (by omega) (fun c_7 => ?_) (fun c_7 => ?_)
    · refine lv_iconst (v := iI (-1)) xe xb d_Terms_tagAt_42 rfl ?_
      exact xret _ _ _ _ (-1) () d_Terms_tagAt_43 trivial (by omega) (by first | (rw [if_pos (by omega)]) | (rw [if_neg (by omega)])) xP xD xS
    · refine lv_iload_n xe xb d_Terms_tagAt_12 rfl (lv_at xl 2 rfl) ?_
      refine lv_aload_n xe xb d_Terms_tagAt_13 rfl (lv_at xl 0 rfl) ?_
      refine va_get (D := D) (ci := 1) (v := .ref qtl) (C := R_Terms) (T := F_Terms) (N := 9) xe xb xt i_Terms xo xK xP 0 rfl rfl 3 (by decide) (xt _ mw_Terms_21) (fun _ h9 => h9) rfl d_Terms_tagAt_14 ?_
      refine lv_iload_n xe xb d_Terms_tagAt_17 rfl (lv_at xl 1 rfl) ?_
      refine tk_iald xe xb xK xP 4 0 rfl rfl (by omega) d_Terms_tagAt_18 ?_
      have hr_8 := tI_rg TL t
      refine tk_icmp_ge (tgt := 42) xe xb d_Terms_tagAt_19 (by decide) (by omega) (fun c_9 => ?_) (fun c_9 => ?_)
      · refine lv_iconst (v := iI (-1)) xe xb d_Terms_tagAt_42 rfl ?_
        exact xret _ _ _ _ (-1) () d_Terms_tagAt_43 trivial (by omega) (by first | (rw [if_pos (by omega)]) | (rw [if_neg (by omega)])) xP xD xS
      · refine lv_iload_n xe xb d_Terms_tagAt_22 rfl (lv_at xl 2 rfl) ?_
        refine lv_bipush (v := iI (16)) xe xb d_Terms_tagAt_23 (by decide) ?_
        refine tk_icmp_ge (tgt := 42) xe xb d_Terms_tagAt_25 (by decide) (by omega) (fun c_10 => ?_) (fun c_10 => ?_)
        · refine lv_iconst (v := iI (-1)) xe xb d_Terms_tagAt_42 rfl ?_
          exact xret _ _ _ _ (-1) () d_Terms_tagAt_43 trivial (by omega) (by first | (rw [if_pos (by omega)]) | (rw [if_neg (by omega)])) xP xD xS
        · refine lv_aload_n xe xb d_Terms_tagAt_28 rfl (lv_at xl 0 rfl) ?_
          refine va_get (D := D) (ci := 1) (v := .ref qtg) (C := R_Terms) (T := F_Terms) (N := 9) xe xb xt i_Terms xo xK xP 0 rfl rfl 4 (by decide) (xt _ mw_Terms_24) (fun _ h9 => h9) rfl d_Terms_tagAt_29 ?_
          refine lv_iload_n xe xb d_Terms_tagAt_32 rfl (lv_at xl 1 rfl) ?_
          refine lv_bipush (v := iI (16)) xe xb d_Terms_tagAt_33 (by decide) ?_
          refine tk_imul xe xb d_Terms_tagAt_35 ?_
          refine lv_iload_n xe xb d_Terms_tagAt_36 rfl (lv_at xl 2 rfl) ?_
          refine tk_iadd xe xb d_Terms_tagAt_37 ?_
          refine tk_iald xe xb xK xP 5 0 rfl rfl (by omega) d_Terms_tagAt_38 ?_
          have hr_11 := tI_rg TG ((t * 16) + i)
          refine lv_goto (tgt := 43) xe xb d_Terms_tagAt_39 (by decide) ?_
          exact xret _ _ _ _ (tI TG ((t * 16) + i)) () d_Terms_tagAt_43 trivial (by omega) (by first | (rw [if_pos (by omega)]) | (rw [if_neg (by omega)])) xP xD xS
  · refine tk_if_eq (tgt := 42) xe xb d_Terms_tagAt_5 (by decide) (by omega) (fun c_12 => ?_) (fun c_12 => absurd c_12 (by omega))
    refine lv_iconst (v := iI (-1)) xe xb d_Terms_tagAt_42 rfl ?_
    exact xret _ _ _ _ (-1) () d_Terms_tagAt_43 trivial (by omega) (by first | (rw [if_pos (by omega)]) | (rw [if_neg (by omega)])) xP xD xS
set_option maxHeartbeats 4000000 in
set_option maxRecDepth 100000 in
theorem c_Terms_holds (l : Launch) (D : va_G) (cI : ClassId) (qa : Nat) (la : Nat) (Ca : Nat → Int32) (h : Nat) (q : Nat) (cap : Nat) (n : Int) (f : Nat → Int32) (sp : Int) (a : Int) (hn : 0 ≤ n ∧ n ≤ cap ∧ cap < 1000000) (ha : 0 ≤ a ∧ a + n ≤ la ∧ la < 1000000) : CtI l D [(cI, .int)] y_Terms_holds b_Terms_holds 4 (some .boolean) 0 [.ref qa, .int (iI a), .ref h] [(qa, .inl (cI, la, .inl Ca)), (h, .inr (0, [.ref q, .int (iI n), .int (iI sp)])), (q, .inl (cI, cap, .inl f))] (S := Unit) (fun z u => (z = 1 ∧ (seg Ca a n = lst (tI f) n)) ∨ (z = 0 ∧ ¬ (seg Ca a n = lst (tI f) n))) (fun u => [(qa, .inl (cI, la, .inl Ca)), (h, .inr (0, [.ref q, .int (iI n), .int (iI sp)])), (q, .inl (cI, cap, .inl f))]) := by
  refine CtI.walk (fun z => z = 0 ∨ z = 1) (fun z hz => by rcases hz with rfl | rfl <;> decide) (by decide) (Nat.le_of_ble_eq_true rfl) ?_
  intro xp xe0 xs xm xar xbelow xmeth xc xA0 xQ xe xb xml xo xt xP xK xD xA xret ls xl xS
  have xl : lv_has ls 4 [(0, .ref qa), (1, .int (iI a)), (2, .ref h)] := xl
  have xo : xs.vm.findClass R_Terms = some xm.cls := xo
  refine lv_iload_n xe xb d_Terms_holds_0 rfl (lv_at xl 1 rfl) ?_
  refine tk_if_lt (tgt := 15) xe xb d_Terms_holds_1 (by decide) (by omega) (fun c_1 => ?_) (fun c_1 => ?_)
  · refine lv_iconst (v := iI (0)) xe xb d_Terms_holds_15 rfl ?_
    exact xret _ _ _ _ 0 () d_Terms_holds_16 (by omega) (by omega) (by omega) xP xD xS
  · refine lv_iload_n xe xb d_Terms_holds_4 rfl (lv_at xl 1 rfl) ?_
    refine lv_aload_n xe xb d_Terms_holds_5 rfl (lv_at xl 2 rfl) ?_
    refine va_get (D := D) (ci := 0) (v := .int (iI n)) (C := R_Row) (T := F_Row) (N := 3) xe xb xt i_Row xo xK xP 1 rfl rfl 1 (by decide) (xt _ mw_Terms_53) (fun _ h9 => h9) rfl d_Terms_holds_6 ?_
    refine tk_iadd xe xb d_Terms_holds_9 ?_
    refine lv_aload_n xe xb d_Terms_holds_10 rfl (lv_at xl 0 rfl) ?_
    refine tk_alen xe xb xK xP 0 0 rfl rfl d_Terms_holds_11 ?_
    refine tk_icmp_le (tgt := 17) xe xb d_Terms_holds_12 (by decide) (by omega) (fun c_2 => ?_) (fun c_2 => ?_)
    · refine lv_iconst (v := iI (0)) xe xb d_Terms_holds_17 rfl ?_
      refine lv_istore_n (lv' := [(3, .int (iI 0)), (0, .ref qa), (1, .int (iI a)), (2, .ref h)]) xe xb d_Terms_holds_18 rfl xl (by decide) rfl (fun ls xl => ?_)
      have loop_19 : ∀ (n9 : Nat) (i : Int), (n - i).toNat < n9 → (0 ≤ i ∧ i ≤ n) → (∀ j, 0 ≤ j → j < i → tI Ca (a + j) = tI f j) → ∀ (H : Heap) (locs : List Loc), va_P D classes [(qa, .inl (cI, la, .inl Ca)), (h, .inr (0, [.ref q, .int (iI n), .int (iI sp)])), (q, .inl (cI, cap, .inl f))] H → va_D xA0 [(qa, .inl (cI, la, .inl Ca)), (h, .inr (0, [.ref q, .int (iI n), .int (iI sp)])), (q, .inl (cI, cap, .inl f))] → va_S xA0 xs.heap H locs → ∀ ls : Array Slot, lv_has ls 4 [(0, .ref qa), (1, .int (iI a)), (2, .ref h), (3, .int (iI i))] → W xp l xe0 (tk_rm 0) xs xm xar xbelow xmeth xc H locs 0 0 xQ (F0 xm 19 ls []) := by
        intro n9
        induction n9 with
        | zero => intro i h9; exact absurd h9 (Nat.not_lt_zero _)
        | succ n9 ih9 =>
          intro i hm9 hi he H locs xP xD xS ls xl
          have ih_19 := ih9
          have hm_19 := hm9
          refine lv_iload_n xe xb d_Terms_holds_19 rfl (lv_at xl 3 rfl) ?_
          refine lv_aload_n xe xb d_Terms_holds_20 rfl (lv_at xl 2 rfl) ?_
          refine va_get (D := D) (ci := 0) (v := .int (iI n)) (C := R_Row) (T := F_Row) (N := 3) xe xb xt i_Row xo xK xP 1 rfl rfl 1 (by decide) (xt _ mw_Terms_53) (fun _ h9 => h9) rfl d_Terms_holds_21 ?_
          refine tk_icmp_ge (tgt := 58) xe xb d_Terms_holds_24 (by decide) (by omega) (fun c_3 => ?_) (fun c_3 => ?_)
          · refine lv_iconst (v := iI (1)) xe xb d_Terms_holds_58 rfl ?_
            exact xret _ _ _ _ 1 () d_Terms_holds_59 (by omega) (by omega) (Or.inl ⟨rfl, lst_ext (fun j h0 h1 => he j h0 (by omega))⟩) xP xD xS
          · refine lv_iload_n xe xb d_Terms_holds_27 rfl (lv_at xl 3 rfl) ?_
            refine lv_aload_n xe xb d_Terms_holds_28 rfl (lv_at xl 2 rfl) ?_
            refine va_get (D := D) (ci := 0) (v := .ref q) (C := R_Row) (T := F_Row) (N := 3) xe xb xt i_Row xo xK xP 1 rfl rfl 0 (by decide) (xt _ mw_Terms_62) (fun _ h9 => h9) rfl d_Terms_holds_29 ?_
            refine tk_alen xe xb xK xP 2 0 rfl rfl d_Terms_holds_32 ?_
            refine tk_icmp_ge (tgt := 58) xe xb d_Terms_holds_33 (by decide) (by omega) (fun c_4 => ?_) (fun c_4 => ?_)
            · refine lv_iconst (v := iI (1)) xe xb d_Terms_holds_58 rfl ?_
              exact xret _ _ _ _ 1 () d_Terms_holds_59 (by omega) (by omega) (Or.inl ⟨rfl, lst_ext (fun j h0 h1 => he j h0 (by omega))⟩) xP xD xS
            · refine lv_aload_n xe xb d_Terms_holds_36 rfl (lv_at xl 0 rfl) ?_
              refine lv_iload_n xe xb d_Terms_holds_37 rfl (lv_at xl 1 rfl) ?_
              refine lv_iload_n xe xb d_Terms_holds_38 rfl (lv_at xl 3 rfl) ?_
              refine tk_iadd xe xb d_Terms_holds_39 ?_
              refine tk_iald xe xb xK xP 0 0 rfl rfl (by omega) d_Terms_holds_40 ?_
              have hr_5 := tI_rg Ca (a + i)
              refine lv_aload_n xe xb d_Terms_holds_41 rfl (lv_at xl 2 rfl) ?_
              refine va_get (D := D) (ci := 0) (v := .ref q) (C := R_Row) (T := F_Row) (N := 3) xe xb xt i_Row xo xK xP 1 rfl rfl 0 (by decide) (xt _ mw_Terms_62) (fun _ h9 => h9) rfl d_Terms_holds_42 ?_
              refine lv_iload_n xe xb d_Terms_holds_45 rfl (lv_at xl 3 rfl) ?_
              refine tk_iald xe xb xK xP 2 0 rfl rfl (by omega) d_Terms_holds_46 ?_
              have hr_6 := tI_rg f i
              refine tk_icmp_eq (tgt := 52) xe xb d_Terms_holds_47 (by decide) (by omega) (fun C47 => ?_) (fun C47 => ?_)
              · refine tk_iinc (v := (i + 1)) (lv' := [(3, .int (iI (i + 1))), (0, .ref qa), (1, .int (iI a)), (2, .ref h)]) xe xb d_Terms_holds_52 xl (k := 3) rfl rfl (by decide) rfl (fun ls xl => ?_)
                refine lv_goto (tgt := 19) xe xb d_Terms_holds_55 (by decide) ?_
                exact ih_19 (i + 1) (by omega) (by first | assumption | omega) (fun j h0 h1 => by rcases (show j < i ∨ j = i by omega) with h2 | h2; exact he j h0 h2; rw [h2]; exact C47) _ _ xP xD xS ls (lv_sub xl [1, 2, 3, 0] rfl)
              · refine lv_iconst (v := iI (0)) xe xb d_Terms_holds_50 rfl ?_
                exact xret _ _ _ _ 0 () d_Terms_holds_51 (by omega) (by omega) (Or.inr ⟨rfl, fun h9 => C47 (lst_eq h9 i hi.1 (by omega))⟩) xP xD xS
      exact loop_19 _ 0 (Nat.lt_succ_self _) (by first | assumption | omega) (fun j h0 h1 => by omega) _ _ xP xD xS ls (lv_sub xl [1, 2, 3, 0] rfl)
    · refine lv_iconst (v := iI (0)) xe xb d_Terms_holds_15 rfl ?_
      exact xret _ _ _ _ 0 () d_Terms_holds_16 (by omega) (by omega) (by omega) xP xD xS
set_option maxHeartbeats 4000000 in
set_option maxRecDepth 100000 in
theorem c_Quads_beginReading (l : Launch) (D : va_G) (cI : ClassId) (hQ : Nat) (qp : Nat) (P : Nat → Int32) (qz : Int) (qf : Int)  : CtV l D [(cI, .int)] y_Quads_beginReading b_Quads_beginReading 1 0 [.ref hQ] [(hQ, .inr (2, [.ref qp, .int (iI qz), .int (iI qf)])), (qp, .inl (cI, 320, .inl P))] (S := Int) (fun u => u = 0) (fun u => [(hQ, .inr (2, [.ref qp, .int (iI qz), .int (iI u)])), (qp, .inl (cI, 320, .inl P))]) := by
  refine CtV.walk (by decide) (Nat.le_of_ble_eq_true rfl) ?_
  intro xp xe0 xs xm xar xbelow xmeth xc xA0 xQ xe xb xml xo xt xP xK xD xA xret ls xl xS
  have xl : lv_has ls 1 [(0, .ref hQ)] := xl
  have xo : xs.vm.findClass R_Quads = some xm.cls := xo
  refine lv_aload_n xe xb d_Quads_beginReading_0 rfl (lv_at xl 0 rfl) ?_
  refine lv_iconst (v := iI (0)) xe xb d_Quads_beginReading_1 rfl ?_
  refine va_put (D := D) (ci := 2) (v := .int (iI 0)) (ty := .boolean) (C := R_Quads) (T := F_Quads) (N := 3) xe xb xt i_Quads t_Quads t_Quads_ok n_Quads xo xK xP xD xS 0 rfl rfl 2 (by decide) (xt _ mw_Quads_19) (fun _ h9 => h9) rfl (by decide +kernel) (by decide) (by decide) (Nat.le_of_ble_eq_true rfl) d_Quads_beginReading_2 (fun H locs xP xD xS => ?_)
  have xP : va_P D classes [(hQ, .inr (2, [.ref qp, .int (iI qz), .int (iI 0)])), (qp, .inl (cI, 320, .inl P))] H := xP
  have xD : va_D xA0 [(hQ, .inr (2, [.ref qp, .int (iI qz), .int (iI 0)])), (qp, .inl (cI, 320, .inl P))] := xD
  exact xret _ _ _ _ 0 d_Quads_beginReading_5 (by first | exact rfl | (dsimp only; exact rfl)) xP xD xS
set_option maxHeartbeats 4000000 in
set_option maxRecDepth 100000 in
theorem c_Quads_cutTo (l : Launch) (D : va_G) (cI : ClassId) (hQ : Nat) (qp : Nat) (P : Nat → Int32) (qz : Int) (qf : Int) (ns : Int) (hz : 0 ≤ qz ∧ qz ≤ 80) (hns : -2147483648 ≤ ns ∧ ns < 2147483648) : CtV l D [(cI, .int)] y_Quads_cutTo b_Quads_cutTo 2 0 [.ref hQ, .int (iI ns)] [(hQ, .inr (2, [.ref qp, .int (iI qz), .int (iI qf)])), (qp, .inl (cI, 320, .inl P))] (S := Int) (fun u => u = if 0 ≤ ns ∧ ns < qz then ns else qz) (fun u => [(hQ, .inr (2, [.ref qp, .int (iI u), .int (iI qf)])), (qp, .inl (cI, 320, .inl P))]) := by
  refine CtV.walk (by decide) (Nat.le_of_ble_eq_true rfl) ?_
  intro xp xe0 xs xm xar xbelow xmeth xc xA0 xQ xe xb xml xo xt xP xK xD xA xret ls xl xS
  have xl : lv_has ls 2 [(0, .ref hQ), (1, .int (iI ns))] := xl
  have xo : xs.vm.findClass R_Quads = some xm.cls := xo
  refine lv_iload_n xe xb d_Quads_cutTo_0 rfl (lv_at xl 1 rfl) ?_
  refine tk_if_lt (tgt := 17) xe xb d_Quads_cutTo_1 (by decide) (by omega) (fun c_1 => ?_) (fun c_1 => ?_)
  · exact xret _ _ _ _ qz d_Quads_cutTo_17 (by first | exact (by split <;> omega) | (dsimp only; exact (by split <;> omega))) xP xD xS
  · refine lv_iload_n xe xb d_Quads_cutTo_4 rfl (lv_at xl 1 rfl) ?_
    refine lv_aload_n xe xb d_Quads_cutTo_5 rfl (lv_at xl 0 rfl) ?_
    refine va_get (D := D) (ci := 2) (v := .int (iI qz)) (C := R_Quads) (T := F_Quads) (N := 3) xe xb xt i_Quads xo xK xP 0 rfl rfl 1 (by decide) (xt _ mw_Quads_15) (fun _ h9 => h9) rfl d_Quads_cutTo_6 ?_
    refine tk_icmp_ge (tgt := 17) xe xb d_Quads_cutTo_9 (by decide) (by omega) (fun c_2 => ?_) (fun c_2 => ?_)
    · exact xret _ _ _ _ qz d_Quads_cutTo_17 (by first | exact (by split <;> omega) | (dsimp only; exact (by split <;> omega))) xP xD xS
    · refine lv_aload_n xe xb d_Quads_cutTo_12 rfl (lv_at xl 0 rfl) ?_
      refine lv_iload_n xe xb d_Quads_cutTo_13 rfl (lv_at xl 1 rfl) ?_
      refine va_put (D := D) (ci := 2) (v := .int (iI ns)) (ty := .int) (C := R_Quads) (T := F_Quads) (N := 3) xe xb xt i_Quads t_Quads t_Quads_ok n_Quads xo xK xP xD xS 0 rfl rfl 1 (by decide) (xt _ mw_Quads_15) (fun _ h9 => h9) rfl (by decide +kernel) rfl rfl (Nat.le_of_ble_eq_true rfl) d_Quads_cutTo_14 (fun H locs xP xD xS => ?_)
      have xP : va_P D classes [(hQ, .inr (2, [.ref qp, .int (iI ns), .int (iI qf)])), (qp, .inl (cI, 320, .inl P))] H := xP
      have xD : va_D xA0 [(hQ, .inr (2, [.ref qp, .int (iI ns), .int (iI qf)])), (qp, .inl (cI, 320, .inl P))] := xD
      exact xret _ _ _ _ ns d_Quads_cutTo_17 (by first | exact (by split <;> omega) | (dsimp only; exact (by split <;> omega))) xP xD xS
set_option maxHeartbeats 4000000 in
set_option maxRecDepth 100000 in
theorem c_Quads_has (l : Launch) (D : va_G) (cI : ClassId) (hQ : Nat) (qp : Nat) (P : Nat → Int32) (qz : Int) (qf : Int) (i : Int) (hz : 0 ≤ qz ∧ qz ≤ 80) (hi : -2147483648 ≤ i ∧ i < 2147483648) : CtI l D [(cI, .int)] y_Quads_has b_Quads_has 2 (some .boolean) 0 [.ref hQ, .int (iI i)] [(hQ, .inr (2, [.ref qp, .int (iI qz), .int (iI qf)])), (qp, .inl (cI, 320, .inl P))] (S := Unit) (fun z u => (z = 1 ∧ (0 ≤ i ∧ i < qz)) ∨ (z = 0 ∧ ¬ (0 ≤ i ∧ i < qz))) (fun u => [(hQ, .inr (2, [.ref qp, .int (iI qz), .int (iI qf)])), (qp, .inl (cI, 320, .inl P))]) := by
  refine CtI.walk (fun z => z = 0 ∨ z = 1) (fun z hz => by rcases hz with rfl | rfl <;> decide) (by decide) (Nat.le_of_ble_eq_true rfl) ?_
  intro xp xe0 xs xm xar xbelow xmeth xc xA0 xQ xe xb xml xo xt xP xK xD xA xret ls xl xS
  have xl : lv_has ls 2 [(0, .ref hQ), (1, .int (iI i))] := xl
  have xo : xs.vm.findClass R_Quads = some xm.cls := xo
  refine lv_iload_n xe xb d_Quads_has_0 rfl (lv_at xl 1 rfl) ?_
  refine tk_if_lt (tgt := 22) xe xb d_Quads_has_1 (by decide) (by omega) (fun c_1 => ?_) (fun c_1 => ?_)
  · refine lv_iconst (v := iI (0)) xe xb d_Quads_has_22 rfl ?_
    exact xret _ _ _ _ 0 () d_Quads_has_23 (by omega) (by omega) (by omega) xP xD xS
  · refine lv_iload_n xe xb d_Quads_has_4 rfl (lv_at xl 1 rfl) ?_
    refine lv_aload_n xe xb d_Quads_has_5 rfl (lv_at xl 0 rfl) ?_
    refine va_get (D := D) (ci := 2) (v := .int (iI qz)) (C := R_Quads) (T := F_Quads) (N := 3) xe xb xt i_Quads xo xK xP 0 rfl rfl 1 (by decide) (xt _ mw_Quads_15) (fun _ h9 => h9) rfl d_Quads_has_6 ?_
    refine tk_icmp_ge (tgt := 22) xe xb d_Quads_has_9 (by decide) (by omega) (fun c_2 => ?_) (fun c_2 => ?_)
    · refine lv_iconst (v := iI (0)) xe xb d_Quads_has_22 rfl ?_
      exact xret _ _ _ _ 0 () d_Quads_has_23 (by omega) (by omega) (by omega) xP xD xS
    · refine lv_iload_n xe xb d_Quads_has_12 rfl (lv_at xl 1 rfl) ?_
      refine lv_bipush (v := iI (80)) xe xb d_Quads_has_13 (by decide) ?_
      refine tk_icmp_ge (tgt := 22) xe xb d_Quads_has_15 (by decide) (by omega) (fun c_3 => ?_) (fun c_3 => ?_)
      · refine lv_iconst (v := iI (0)) xe xb d_Quads_has_22 rfl ?_
        exact xret _ _ _ _ 0 () d_Quads_has_23 (by omega) (by omega) (by omega) xP xD xS
      · refine lv_iconst (v := iI (1)) xe xb d_Quads_has_18 rfl ?_
        refine lv_goto (tgt := 23) xe xb d_Quads_has_19 (by decide) ?_
        exact xret _ _ _ _ 1 () d_Quads_has_23 (by omega) (by omega) (by omega) xP xD xS
set_option maxHeartbeats 4000000 in
set_option maxRecDepth 100000 in
theorem c_Quads_part (l : Launch) (D : va_G) (cI : ClassId) (hQ : Nat) (qp : Nat) (P : Nat → Int32) (qz : Int) (qf : Int) (i : Int) (w : Int) (hz : 0 ≤ qz ∧ qz ≤ 80) (hi : -2147483648 ≤ i ∧ i < 2147483648) (hw : -2147483648 ≤ w ∧ w < 2147483648) : CtI l D [(cI, .int)] y_Quads_part b_Quads_part 3 (some .int) 1 [.ref hQ, .int (iI i), .int (iI w)] [(hQ, .inr (2, [.ref qp, .int (iI qz), .int (iI qf)])), (qp, .inl (cI, 320, .inl P))] (S := Unit) (fun z u => z = if (0 ≤ i ∧ i < qz) ∧ 0 ≤ w ∧ w < 4 then tI P (i * 4 + w) else -1) (fun u => [(hQ, .inr (2, [.ref qp, .int (iI qz), .int (iI qf)])), (qp, .inl (cI, 320, .inl P))]) := by
  refine CtI.walk (fun _ => True) (fun z _ => vp_nar_int _) (by decide) (Nat.le_of_ble_eq_true rfl) ?_
  intro xp xe0 xs xm xar xbelow xmeth xc xA0 xQ xe xb xml xo xt xP xK xD xA xret ls xl xS
  have xl : lv_has ls 3 [(0, .ref hQ), (1, .int (iI i)), (2, .int (iI w))] := xl
  have xo : xs.vm.findClass R_Quads = some xm.cls := xo
  refine lv_aload_n xe xb d_Quads_part_0 rfl (lv_at xl 0 rfl) ?_
  refine lv_iload_n xe xb d_Quads_part_1 rfl (lv_at xl 1 rfl) ?_
  refine tk_callVi (As := [.int (iI i)]) (rest := []) (wr := []) (wn := fun u => [(hQ, .inr (2, [.ref qp, .int (iI qz), .int (iI qf)])), (qp, .inl (cI, 320, .inl P))]) ⟨xe, xb, xml, xo, xt⟩ (c_Quads_has l D cI hQ qp P qz qf i (by first | assumption | omega) (by first | assumption | omega)) k_Quads_has mw_Quads_23 ⟨Nat.le_of_ble_eq_true rfl, Nat.le_of_ble_eq_true rfl⟩ xK xP xD xS xA rfl xl.1 rfl (Nat.le_of_ble_eq_true rfl) d_Quads_part_2 ⟨Nat.zero_le _, Nat.zero_le _⟩ [0, 1] [] [0, 1] rfl rfl (by decide) (by decide) (by decide) (by decide) (fun _ => rfl) rfl rfl rfl (fun z_2 u H locs hr_3 hw_1 xP xD xS => ?_)
  try dsimp only at hw_1
  have xP : va_P D classes [(hQ, .inr (2, [.ref qp, .int (iI qz), .int (iI qf)])), (qp, .inl (cI, 320, .inl P))] H := xP
  have xD : va_D xA0 [(hQ, .inr (2, [.ref qp, .int (iI qz), .int (iI qf)])), (qp, .inl (cI, 320, .inl P))] := xD
  rcases hw_1 with ⟨rfl, hb_4⟩ | ⟨rfl, hb_5⟩
  · refine tk_if_eq (tgt := 30) xe xb d_Quads_part_5 (by decide) (by omega) (fun c_6 => absurd c_6 (by omega)) (fun c_6 => ?_)
    refine lv_iload_n xe xb d_Quads_part_8 rfl (lv_at xl 2 rfl) ?_
    refine tk_if_lt (tgt := 30) xe xb d_Quads_part_9 (by decide) (by omega) (fun c_7 => ?_) (fun c_7 => ?_)
    · refine lv_iconst (v := iI (-1)) xe xb d_Quads_part_30 rfl ?_
      exact xret _ _ _ _ (-1) () d_Quads_part_31 trivial (by omega) (by first | (rw [if_pos (by omega)]) | (rw [if_neg (by omega)])) xP xD xS
    · refine lv_iload_n xe xb d_Quads_part_12 rfl (lv_at xl 2 rfl) ?_
      refine lv_iconst (v := iI (4)) xe xb d_Quads_part_13 rfl ?_
      refine tk_icmp_ge (tgt := 30) xe xb d_Quads_part_14 (by decide) (by omega) (fun c_8 => ?_) (fun c_8 => ?_)
      · refine lv_iconst (v := iI (-1)) xe xb d_Quads_part_30 rfl ?_
        exact xret _ _ _ _ (-1) () d_Quads_part_31 trivial (by omega) (by first | (rw [if_pos (by omega)]) | (rw [if_neg (by omega)])) xP xD xS
      · refine lv_aload_n xe xb d_Quads_part_17 rfl (lv_at xl 0 rfl) ?_
        refine va_get (D := D) (ci := 2) (v := .ref qp) (C := R_Quads) (T := F_Quads) (N := 3) xe xb xt i_Quads xo xK xP 0 rfl rfl 0 (by decide) (xt _ mw_Quads_9) (fun _ h9 => h9) rfl d_Quads_part_18 ?_
        refine lv_iload_n xe xb d_Quads_part_21 rfl (lv_at xl 1 rfl) ?_
        refine lv_iconst (v := iI (4)) xe xb d_Quads_part_22 rfl ?_
        refine tk_imul xe xb d_Quads_part_23 ?_
        refine lv_iload_n xe xb d_Quads_part_24 rfl (lv_at xl 2 rfl) ?_
        refine tk_iadd xe xb d_Quads_part_25 ?_
        refine tk_iald xe xb xK xP 1 0 rfl rfl (by omega) d_Quads_part_26 ?_
        have hr_9 := tI_rg P ((i * 4) + w)
        refine lv_goto (tgt := 31) xe xb d_Quads_part_27 (by decide) ?_
        exact xret _ _ _ _ (tI P ((i * 4) + w)) () d_Quads_part_31 trivial (by omega) (by first | (rw [if_pos (by omega)]) | (rw [if_neg (by omega)])) xP xD xS
  · refine tk_if_eq (tgt := 30) xe xb d_Quads_part_5 (by decide) (by omega) (fun c_10 => ?_) (fun c_10 => absurd c_10 (by omega))
    refine lv_iconst (v := iI (-1)) xe xb d_Quads_part_30 rfl ?_
    exact xret _ _ _ _ (-1) () d_Quads_part_31 trivial (by omega) (by first | (rw [if_pos (by omega)]) | (rw [if_neg (by omega)])) xP xD xS
