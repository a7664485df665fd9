def en (T : List Int) (p : Int) : Int := if rd T (bl T p) = 35 then cm T (bl T p) else bl T p
theorem d_Reader_begin_0 : decode b_Reader_begin 0 = .ok (.aload_n 0, 1) := by decide +kernel
theorem d_Reader_begin_1 : decode b_Reader_begin 1 = .ok (.iconst 0, 1) := by decide +kernel
theorem d_Reader_begin_2 : decode b_Reader_begin 2 = .ok (.putfield 40, 3) := by decide +kernel
theorem d_Reader_begin_5 : decode b_Reader_begin 5 = .ok (.aload_n 0, 1) := by decide +kernel
theorem d_Reader_begin_6 : decode b_Reader_begin 6 = .ok (.iconst (-1), 1) := by decide +kernel
theorem d_Reader_begin_7 : decode b_Reader_begin 7 = .ok (.putfield 47, 3) := by decide +kernel
theorem d_Reader_begin_10 : decode b_Reader_begin 10 = .ok (.aload_n 0, 1) := by decide +kernel
theorem d_Reader_begin_11 : decode b_Reader_begin 11 = .ok (.getfield 15, 3) := by decide +kernel
theorem d_Reader_begin_14 : decode b_Reader_begin 14 = .ok (.invokevirtual 50, 3) := by decide +kernel
theorem d_Reader_begin_17 : decode b_Reader_begin 17 = .ok (.aload_n 0, 1) := by decide +kernel
theorem d_Reader_begin_18 : decode b_Reader_begin 18 = .ok (.getfield 19, 3) := by decide +kernel
theorem d_Reader_begin_21 : decode b_Reader_begin 21 = .ok (.invokevirtual 55, 3) := by decide +kernel
theorem d_Reader_begin_24 : decode b_Reader_begin 24 = .ok (.return_, 1) := by decide +kernel
theorem d_Reader_comesToStatement_0 : decode b_Reader_comesToStatement 0 = .ok (.aload_n 0, 1) := by decide +kernel
theorem d_Reader_comesToStatement_1 : decode b_Reader_comesToStatement 1 = .ok (.invokevirtual 58, 3) := by decide +kernel
theorem d_Reader_comesToStatement_4 : decode b_Reader_comesToStatement 4 = .ok (.aload_n 0, 1) := by decide +kernel
theorem d_Reader_comesToStatement_5 : decode b_Reader_comesToStatement 5 = .ok (.invokevirtual 61, 3) := by decide +kernel
theorem d_Reader_comesToStatement_8 : decode b_Reader_comesToStatement 8 = .ok (.istore_n 1, 1) := by decide +kernel
theorem d_Reader_comesToStatement_9 : decode b_Reader_comesToStatement 9 = .ok (.iload_n 1, 1) := by decide +kernel
theorem d_Reader_comesToStatement_10 : decode b_Reader_comesToStatement 10 = .ok (.iconst (-1), 1) := by decide +kernel
theorem d_Reader_comesToStatement_11 : decode b_Reader_comesToStatement 11 = .ok (.if_icmp .eq 19, 3) := by decide +kernel
theorem d_Reader_comesToStatement_14 : decode b_Reader_comesToStatement 14 = .ok (.iload_n 1, 1) := by decide +kernel
theorem d_Reader_comesToStatement_15 : decode b_Reader_comesToStatement 15 = .ok (.bipush 10, 2) := by decide +kernel
theorem d_Reader_comesToStatement_17 : decode b_Reader_comesToStatement 17 = .ok (.if_icmp .eq 13, 3) := by decide +kernel
theorem d_Reader_comesToStatement_20 : decode b_Reader_comesToStatement 20 = .ok (.iload_n 1, 1) := by decide +kernel
theorem d_Reader_comesToStatement_21 : decode b_Reader_comesToStatement 21 = .ok (.bipush 35, 2) := by decide +kernel
theorem d_Reader_comesToStatement_23 : decode b_Reader_comesToStatement 23 = .ok (.if_icmp .eq 7, 3) := by decide +kernel
theorem d_Reader_comesToStatement_26 : decode b_Reader_comesToStatement 26 = .ok (.iconst 1, 1) := by decide +kernel
theorem d_Reader_comesToStatement_27 : decode b_Reader_comesToStatement 27 = .ok (.goto 4, 3) := by decide +kernel
theorem d_Reader_comesToStatement_30 : decode b_Reader_comesToStatement 30 = .ok (.iconst 0, 1) := by decide +kernel
theorem d_Reader_comesToStatement_31 : decode b_Reader_comesToStatement 31 = .ok (.ireturn, 1) := by decide +kernel
theorem d_Reader_endLine_0 : decode b_Reader_endLine 0 = .ok (.aload_n 0, 1) := by decide +kernel
theorem d_Reader_endLine_1 : decode b_Reader_endLine 1 = .ok (.invokevirtual 58, 3) := by decide +kernel
theorem d_Reader_endLine_4 : decode b_Reader_endLine 4 = .ok (.aload_n 0, 1) := by decide +kernel
theorem d_Reader_endLine_5 : decode b_Reader_endLine 5 = .ok (.invokevirtual 61, 3) := by decide +kernel
theorem d_Reader_endLine_8 : decode b_Reader_endLine 8 = .ok (.bipush 35, 2) := by decide +kernel
theorem d_Reader_endLine_10 : decode b_Reader_endLine 10 = .ok (.if_icmp .ne 7, 3) := by decide +kernel
theorem d_Reader_endLine_13 : decode b_Reader_endLine 13 = .ok (.aload_n 0, 1) := by decide +kernel
theorem d_Reader_endLine_14 : decode b_Reader_endLine 14 = .ok (.invokevirtual 80, 3) := by decide +kernel
theorem d_Reader_endLine_17 : decode b_Reader_endLine 17 = .ok (.aload_n 0, 1) := by decide +kernel
theorem d_Reader_endLine_18 : decode b_Reader_endLine 18 = .ok (.invokevirtual 61, 3) := by decide +kernel
theorem d_Reader_endLine_21 : decode b_Reader_endLine 21 = .ok (.iconst (-1), 1) := by decide +kernel
theorem d_Reader_endLine_22 : decode b_Reader_endLine 22 = .ok (.if_icmp .ne 5, 3) := by decide +kernel
theorem d_Reader_endLine_25 : decode b_Reader_endLine 25 = .ok (.iconst 0, 1) := by decide +kernel
theorem d_Reader_endLine_26 : decode b_Reader_endLine 26 = .ok (.ireturn, 1) := by decide +kernel
theorem d_Reader_endLine_27 : decode b_Reader_endLine 27 = .ok (.aload_n 0, 1) := by decide +kernel
theorem d_Reader_endLine_28 : decode b_Reader_endLine 28 = .ok (.bipush 10, 2) := by decide +kernel
theorem d_Reader_endLine_30 : decode b_Reader_endLine 30 = .ok (.invokevirtual 69, 3) := by decide +kernel
theorem d_Reader_endLine_33 : decode b_Reader_endLine 33 = .ok (.aload_n 0, 1) := by decide +kernel
theorem d_Reader_endLine_34 : decode b_Reader_endLine 34 = .ok (.getfield 47, 3) := by decide +kernel
theorem d_Reader_endLine_37 : decode b_Reader_endLine 37 = .ok (.iconst (-1), 1) := by decide +kernel
theorem d_Reader_endLine_38 : decode b_Reader_endLine 38 = .ok (.if_icmp .ne 7, 3) := by decide +kernel
theorem d_Reader_endLine_41 : decode b_Reader_endLine 41 = .ok (.iconst 1, 1) := by decide +kernel
theorem d_Reader_endLine_42 : decode b_Reader_endLine 42 = .ok (.goto 4, 3) := by decide +kernel
theorem d_Reader_endLine_45 : decode b_Reader_endLine 45 = .ok (.iconst 0, 1) := by decide +kernel
theorem d_Reader_endLine_46 : decode b_Reader_endLine 46 = .ok (.ireturn, 1) := by decide +kernel
set_option maxHeartbeats 4000000 in
set_option maxRecDepth 100000 in
theorem c_Reader_begin (l : Launch) (D : va_G) (cI : ClassId) (hr : Nat) (ht : Nat) (hT : Nat) (hQ : Nat) (hx : Nat) (hy : Nat) (hg : Nat) (hn : Nat) (p : Int) (bh : Int) (f : Int) (qk : Nat) (ql : Nat) (qc : Nat) (qtl : Nat) (qtg : Nat) (qty : Nat) (K : Nat → Int32) (Ln : Nat → Int32) (C : Nat → Int32) (TL : Nat → Int32) (TG : Nat → Int32) (TY : Nat → Int32) (sz : Int) (fr : Int) (fl : Int) (qp : Nat) (P : Nat → Int32) (qz : Int) (qf : Int)  : CtV l D [(cI, .int)] y_Reader_begin b_Reader_begin 1 1 [.ref hr] [(hr, .inr (3, [.ref ht, .ref hT, .ref hQ, .ref hx, .ref hy, .ref hg, .ref hn, .int (iI p), .int (iI bh), .int (iI f)])), (hT, .inr (1, [.ref qk, .ref ql, .ref qc, .ref qtl, .ref qtg, .ref qty, .int (iI sz), .int (iI fr), .int (iI fl)])), (qk, .inl (cI, 120, .inl K)), (ql, .inl (cI, 120, .inl Ln)), (qc, .inl (cI, 4800, .inl C)), (qtl, .inl (cI, 120, .inl TL)), (qtg, .inl (cI, 1920, .inl TG)), (qty, .inl (cI, 120, .inl TY)), (hQ, .inr (2, [.ref qp, .int (iI qz), .int (iI qf)])), (qp, .inl (cI, 320, .inl P))] (S := Int × Int × Int × Int × Int) (fun u => u.1 = 0 ∧ u.2.1 = -1 ∧ u.2.2.1 = sz ∧ u.2.2.2.1 = 0 ∧ u.2.2.2.2 = 0) (fun u => [(hr, .inr (3, [.ref ht, .ref hT, .ref hQ, .ref hx, .ref hy, .ref hg, .ref hn, .int (iI u.1), .int (iI bh), .int (iI u.2.1)])), (hT, .inr (1, [.ref qk, .ref ql, .ref qc, .ref qtl, .ref qtg, .ref qty, .int (iI sz), .int (iI u.2.2.1), .int (iI u.2.2.2.1)])), (qk, .inl (cI, 120, .inl K)), (ql, .inl (cI, 120, .inl Ln)), (qc, .inl (cI, 4800, .inl C)), (qtl, .inl (cI, 120, .inl TL)), (qtg, .inl (cI, 1920, .inl TG)), (qty, .inl (cI, 120, .inl TY)), (hQ, .inr (2, [.ref qp, .int (iI qz), .int (iI u.2.2.2.2)])), (qp, .inl (cI, 320, .inl P))]) := by
  refine CtV.walk (by decide) (Nat.le_of_ble_eq_true rfl) ?_
  intro xp xe0 xs xm xar xbelow xmeth xc xA0 xQ xe xb xml xo xt xP xK xD xA xret ls xl xS
  have xl : lv_has ls 1 [(0, .ref hr)] := xl
  have xo : xs.vm.findClass R_Reader = some xm.cls := xo
  refine lv_aload_n xe xb d_Reader_begin_0 rfl (lv_at xl 0 rfl) ?_
  refine lv_iconst (v := iI (0)) xe xb d_Reader_begin_1 rfl ?_
  refine va_put (D := D) (ci := 3) (v := .int (iI 0)) (ty := .int) (C := R_Reader) (T := F_Reader) (N := 10) xe xb xt i_Reader t_Reader t_Reader_ok n_Reader xo xK xP xD xS 0 rfl rfl 7 (by decide) (xt _ mw_Reader_40) (fun _ h9 => h9) rfl (by decide +kernel) rfl rfl (Nat.le_of_ble_eq_true rfl) d_Reader_begin_2 (fun H locs xP xD xS => ?_)
  have xP : va_P D classes [(hr, .inr (3, [.ref ht, .ref hT, .ref hQ, .ref hx, .ref hy, .ref hg, .ref hn, .int (iI 0), .int (iI bh), .int (iI f)])), (hT, .inr (1, [.ref qk, .ref ql, .ref qc, .ref qtl, .ref qtg, .ref qty, .int (iI sz), .int (iI fr), .int (iI fl)])), (qk, .inl (cI, 120, .inl K)), (ql, .inl (cI, 120, .inl Ln)), (qc, .inl (cI, 4800, .inl C)), (qtl, .inl (cI, 120, .inl TL)), (qtg, .inl (cI, 1920, .inl TG)), (qty, .inl (cI, 120, .inl TY)), (hQ, .inr (2, [.ref qp, .int (iI qz), .int (iI qf)])), (qp, .inl (cI, 320, .inl P))] H := xP
  have xD : va_D xA0 [(hr, .inr (3, [.ref ht, .ref hT, .ref hQ, .ref hx, .ref hy, .ref hg, .ref hn, .int (iI 0), .int (iI bh), .int (iI f)])), (hT, .inr (1, [.ref qk, .ref ql, .ref qc, .ref qtl, .ref qtg, .ref qty, .int (iI sz), .int (iI fr), .int (iI fl)])), (qk, .inl (cI, 120, .inl K)), (ql, .inl (cI, 120, .inl Ln)), (qc, .inl (cI, 4800, .inl C)), (qtl, .inl (cI, 120, .inl TL)), (qtg, .inl (cI, 1920, .inl TG)), (qty, .inl (cI, 120, .inl TY)), (hQ, .inr (2, [.ref qp, .int (iI qz), .int (iI qf)])), (qp, .inl (cI, 320, .inl P))] := xD
  refine lv_aload_n xe xb d_Reader_begin_5 rfl (lv_at xl 0 rfl) ?_
  refine lv_iconst (v := iI (-1)) xe xb d_Reader_begin_6 rfl ?_
  refine va_put (D := D) (ci := 3) (v := .int (iI (-1))) (ty := .int) (C := R_Reader) (T := F_Reader) (N := 10) xe xb xt i_Reader t_Reader t_Reader_ok n_Reader xo xK xP xD xS 0 rfl rfl 9 (by decide) (xt _ mw_Reader_47) (fun _ h9 => h9) rfl (by decide +kernel) rfl rfl (Nat.le_of_ble_eq_true rfl) d_Reader_begin_7 (fun H locs xP xD xS => ?_)
  have xP : va_P D classes [(hr, .inr (3, [.ref ht, .ref hT, .ref hQ, .ref hx, .ref hy, .ref hg, .ref hn, .int (iI 0), .int (iI bh), .int (iI (-1))])), (hT, .inr (1, [.ref qk, .ref ql, .ref qc, .ref qtl, .ref qtg, .ref qty, .int (iI sz), .int (iI fr), .int (iI fl)])), (qk, .inl (cI, 120, .inl K)), (ql, .inl (cI, 120, .inl Ln)), (qc, .inl (cI, 4800, .inl C)), (qtl, .inl (cI, 120, .inl TL)), (qtg, .inl (cI, 1920, .inl TG)), (qty, .inl (cI, 120, .inl TY)), (hQ, .inr (2, [.ref qp, .int (iI qz), .int (iI qf)])), (qp, .inl (cI, 320, .inl P))] H := xP
  have xD : va_D xA0 [(hr, .inr (3, [.ref ht, .ref hT, .ref hQ, .ref hx, .ref hy, .ref hg, .ref hn, .int (iI 0), .int (iI bh), .int (iI (-1))])), (hT, .inr (1, [.ref qk, .ref ql, .ref qc, .ref qtl, .ref qtg, .ref qty, .int (iI sz), .int (iI fr), .int (iI fl)])), (qk, .inl (cI, 120, .inl K)), (ql, .inl (cI, 120, .inl Ln)), (qc, .inl (cI, 4800, .inl C)), (qtl, .inl (cI, 120, .inl TL)), (qtg, .inl (cI, 1920, .inl TG)), (qty, .inl (cI, 120, .inl TY)), (hQ, .inr (2, [.ref qp, .int (iI qz), .int (iI qf)])), (qp, .inl (cI, 320, .inl P))] := xD
  refine lv_aload_n xe xb d_Reader_begin_10 rfl (lv_at xl 0 rfl) ?_
  refine va_get (D := D) (ci := 3) (v := .ref hT) (C := R_Reader) (T := F_Reader) (N := 10) xe xb xt i_Reader xo xK xP 0 rfl rfl 1 (by decide) (xt _ mw_Reader_15) (fun _ h9 => h9) rfl d_Reader_begin_11 ?_
  refine tk_callVv (As := []) (rest := []) (wr := [(hr, .inr (3, [.ref ht, .ref hT, .ref hQ, .ref hx, .ref hy, .ref hg, .ref hn, .int (iI 0), .int (iI bh), .int (iI (-1))])), (hQ, .inr (2, [.ref qp, .int (iI qz), .int (iI qf)])), (qp, .inl (cI, 320, .inl P))]) (wn := fun u => [(hr, .inr (3, [.ref ht, .ref hT, .ref hQ, .ref hx, .ref hy, .ref hg, .ref hn, .int (iI 0), .int (iI bh), .int (iI (-1))])), (hT, .inr (1, [.ref qk, .ref ql, .ref qc, .ref qtl, .ref qtg, .ref qty, .int (iI sz), .int (iI u.1), .int (iI u.2)])), (qk, .inl (cI, 120, .inl K)), (ql, .inl (cI, 120, .inl Ln)), (qc, .inl (cI, 4800, .inl C)), (qtl, .inl (cI, 120, .inl TL)), (qtg, .inl (cI, 1920, .inl TG)), (qty, .inl (cI, 120, .inl TY)), (hQ, .inr (2, [.ref qp, .int (iI qz), .int (iI qf)])), (qp, .inl (cI, 320, .inl P))]) ⟨xe, xb, xml, xo, xt⟩ (c_Terms_beginReading l D cI hT qk ql qc qtl qtg qty K Ln C TL TG TY sz fr fl ) k_Terms_beginReading mw_Reader_50 ⟨Nat.le_of_ble_eq_true rfl, Nat.le_of_ble_eq_true rfl⟩ xK xP xD xS xA rfl xl.1 rfl (Nat.le_of_ble_eq_true rfl) d_Reader_begin_14 ⟨Nat.zero_le _, Nat.zero_le _⟩ [1, 2, 3, 4, 5, 6, 7] [0, 8, 9] [0, 3, 4, 5, 6, 7, 8, 9, 1, 2] rfl rfl (by decide) (by decide) (by decide) (by decide) (fun _ => rfl) rfl rfl rfl (fun u H locs hw_3 xP xD xS => ?_)
  obtain ⟨fr2_1, fl2_2⟩ := u
  try dsimp only at hw_3
  have xP : va_P D classes [(hr, .inr (3, [.ref ht, .ref hT, .ref hQ, .ref hx, .ref hy, .ref hg, .ref hn, .int (iI 0), .int (iI bh), .int (iI (-1))])), (hT, .inr (1, [.ref qk, .ref ql, .ref qc, .ref qtl, .ref qtg, .ref qty, .int (iI sz), .int (iI fr2_1), .int (iI fl2_2)])), (qk, .inl (cI, 120, .inl K)), (ql, .inl (cI, 120, .inl Ln)), (qc, .inl (cI, 4800, .inl C)), (qtl, .inl (cI, 120, .inl TL)), (qtg, .inl (cI, 1920, .inl TG)), (qty, .inl (cI, 120, .inl TY)), (hQ, .inr (2, [.ref qp, .int (iI qz), .int (iI qf)])), (qp, .inl (cI, 320, .inl P))] H := xP
  have xD : va_D xA0 [(hr, .inr (3, [.ref ht, .ref hT, .ref hQ, .ref hx, .ref hy, .ref hg, .ref hn, .int (iI 0), .int (iI bh), .int (iI (-1))])), (hT, .inr (1, [.ref qk, .ref ql, .ref qc, .ref qtl, .ref qtg, .ref qty, .int (iI sz), .int (iI fr2_1), .int (iI fl2_2)])), (qk, .inl (cI, 120, .inl K)), (ql, .inl (cI, 120, .inl Ln)), (qc, .inl (cI, 4800, .inl C)), (qtl, .inl (cI, 120, .inl TL)), (qtg, .inl (cI, 1920, .inl TG)), (qty, .inl (cI, 120, .inl TY)), (hQ, .inr (2, [.ref qp, .int (iI qz), .int (iI qf)])), (qp, .inl (cI, 320, .inl P))] := xD
  have HA := hw_3
  refine lv_aload_n xe xb d_Reader_begin_17 rfl (lv_at xl 0 rfl) ?_
  refine va_get (D := D) (ci := 3) (v := .ref hQ) (C := R_Reader) (T := F_Reader) (N := 10) xe xb xt i_Reader xo xK xP 0 rfl rfl 2 (by decide) (xt _ mw_Reader_19) (fun _ h9 => h9) rfl d_Reader_begin_18 ?_
  refine tk_callVv (As := []) (rest := []) (wr := [(hr, .inr (3, [.ref ht, .ref hT, .ref hQ, .ref hx, .ref hy, .ref hg, .ref hn, .int (iI 0), .int (iI bh), .int (iI (-1))])), (hT, .inr (1, [.ref qk, .ref ql, .ref qc, .ref qtl, .ref qtg, .ref qty, .int (iI sz), .int (iI fr2_1), .int (iI fl2_2)])), (qk, .inl (cI, 120, .inl K)), (ql, .inl (cI, 120, .inl Ln)), (qc, .inl (cI, 4800, .inl C)), (qtl, .inl (cI, 120, .inl TL)), (qtg, .inl (cI, 1920, .inl TG)), (qty, .inl (cI, 120, .inl TY))]) (wn := fun u => [(hr, .inr (3, [.ref ht, .ref hT, .ref hQ, .ref hx, .ref hy, .ref hg, .ref hn, .int (iI 0), .int (iI bh), .int (iI (-1))])), (hT, .inr (1, [.ref qk, .ref ql, .ref qc, .ref qtl, .ref qtg, .ref qty, .int (iI sz), .int (iI fr2_1), .int (iI fl2_2)])), (qk, .inl (cI, 120, .inl K)), (ql, .inl (cI, 120, .inl Ln)), (qc, .inl (cI, 4800, .inl C)), (qtl, .inl (cI, 120, .inl TL)), (qtg, .inl (cI, 1920, .inl TG)), (qty, .inl (cI, 120, .inl TY)), (hQ, .inr (2, [.ref qp, .int (iI qz), .int (iI u)])), (qp, .inl (cI, 320, .inl P))]) ⟨xe, xb, xml, xo, xt⟩ (c_Quads_beginReading l D cI hQ qp P qz qf ) k_Quads_beginReading mw_Reader_55 ⟨Nat.le_of_ble_eq_true rfl, Nat.le_of_ble_eq_true rfl⟩ xK xP xD xS xA rfl xl.1 rfl (Nat.le_of_ble_eq_true rfl) d_Reader_begin_21 ⟨Nat.zero_le _, Nat.zero_le _⟩ [8, 9] [0, 1, 2, 3, 4, 5, 6, 7] [0, 1, 2, 3, 4, 5, 6, 7, 8, 9] rfl rfl (by decide) (by decide) (by decide) (by decide) (fun _ => rfl) rfl rfl rfl (fun u H locs hw_6 xP xD xS => ?_)
  obtain ⟨qf2_5, rfl⟩ : ∃ v, v = u := ⟨_, rfl⟩
  try dsimp only at hw_6
  have xP : va_P D classes [(hr, .inr (3, [.ref ht, .ref hT, .ref hQ, .ref hx, .ref hy, .ref hg, .ref hn, .int (iI 0), .int (iI bh), .int (iI (-1))])), (hT, .inr (1, [.ref qk, .ref ql, .ref qc, .ref qtl, .ref qtg, .ref qty, .int (iI sz), .int (iI fr2_1), .int (iI fl2_2)])), (qk, .inl (cI, 120, .inl K)), (ql, .inl (cI, 120, .inl Ln)), (qc, .inl (cI, 4800, .inl C)), (qtl, .inl (cI, 120, .inl TL)), (qtg, .inl (cI, 1920, .inl TG)), (qty, .inl (cI, 120, .inl TY)), (hQ, .inr (2, [.ref qp, .int (iI qz), .int (iI qf2_5)])), (qp, .inl (cI, 320, .inl P))] H := xP
  have xD : va_D xA0 [(hr, .inr (3, [.ref ht, .ref hT, .ref hQ, .ref hx, .ref hy, .ref hg, .ref hn, .int (iI 0), .int (iI bh), .int (iI (-1))])), (hT, .inr (1, [.ref qk, .ref ql, .ref qc, .ref qtl, .ref qtg, .ref qty, .int (iI sz), .int (iI fr2_1), .int (iI fl2_2)])), (qk, .inl (cI, 120, .inl K)), (ql, .inl (cI, 120, .inl Ln)), (qc, .inl (cI, 4800, .inl C)), (qtl, .inl (cI, 120, .inl TL)), (qtg, .inl (cI, 1920, .inl TG)), (qty, .inl (cI, 120, .inl TY)), (hQ, .inr (2, [.ref qp, .int (iI qz), .int (iI qf2_5)])), (qp, .inl (cI, 320, .inl P))] := xD
  have HB := hw_6
  exact xret _ _ _ _ (0, (-1), fr2_1, fl2_2, qf2_5) d_Reader_begin_24 (by first | exact ⟨rfl, rfl, HA.1, HA.2, HB⟩ | (dsimp only; exact ⟨rfl, rfl, HA.1, HA.2, HB⟩)) xP xD xS
set_option maxHeartbeats 4000000 in
set_option maxRecDepth 100000 in
theorem c_Reader_comesToStatement (l : Launch) (D : va_G) (cI : ClassId) (hr : Nat) (ht : Nat) (hT : Nat) (hQ : Nat) (hx : Nat) (hy : Nat) (hg : Nat) (hn : Nat) (p : Int) (bh : Int) (f : Int) (qt : Nat) (ct : Nat) (nt : Int) (ft : Nat → Int32) (st : Int) (h0 : 0 ≤ nt ∧ nt ≤ ct ∧ ct < 1000000) (hB : byt (lst (tI ft) nt)) (hp : 0 ≤ p ∧ p ≤ nt) : CtI l D [(cI, .int)] y_Reader_comesToStatement b_Reader_comesToStatement 2 (some .boolean) 3 [.ref hr] [(hr, .inr (3, [.ref ht, .ref hT, .ref hQ, .ref hx, .ref hy, .ref hg, .ref hn, .int (iI p), .int (iI bh), .int (iI f)])), (ht, .inr (0, [.ref qt, .int (iI nt), .int (iI st)])), (qt, .inl (cI, ct, .inl ft))] (S := Int) (fun z u => u = bl (lst (tI ft) nt) p ∧ p ≤ u ∧ u ≤ nt ∧ ((z = 1 ∧ rd (lst (tI ft) nt) u ≠ -1 ∧ rd (lst (tI ft) nt) u ≠ 10 ∧ rd (lst (tI ft) nt) u ≠ 35) ∨ (z = 0 ∧ (rd (lst (tI ft) nt) u = -1 ∨ rd (lst (tI ft) nt) u = 10 ∨ rd (lst (tI ft) nt) u = 35)))) (fun u => [(hr, .inr (3, [.ref ht, .ref hT, .ref hQ, .ref hx, .ref hy, .ref hg, .ref hn, .int (iI u), .int (iI bh), .int (iI f)])), (ht, .inr (0, [.ref qt, .int (iI nt), .int (iI st)])), (qt, .inl (cI, ct, .inl ft))]) := by
  refine CtI.walk (fun z => z = 0 ∨ z = 1) (fun z hz => by rcases hz with rfl | rfl <;> decide) (by decide) (Nat.le_of_ble_eq_true rfl) ?_
  intro xp xe0 xs xm xar xbelow xmeth xc xA0 xQ xe xb xml xo xt xP xK xD xA xret ls xl xS
  have xl : lv_has ls 2 [(0, .ref hr)] := xl
  have xo : xs.vm.findClass R_Reader = some xm.cls := xo
  refine lv_aload_n xe xb d_Reader_comesToStatement_0 rfl (lv_at xl 0 rfl) ?_
  refine tk_callVv (As := []) (rest := []) (wr := []) (wn := fun u => [(hr, .inr (3, [.ref ht, .ref hT, .ref hQ, .ref hx, .ref hy, .ref hg, .ref hn, .int (iI u), .int (iI bh), .int (iI f)])), (ht, .inr (0, [.ref qt, .int (iI nt), .int (iI st)])), (qt, .inl (cI, ct, .inl ft))]) ⟨xe, xb, xml, xo, xt⟩ (c_Reader_skipBlanks l D cI hr ht hT hQ hx hy hg hn p bh f qt ct nt ft st (by first | assumption | omega) (by first | assumption | omega) (by first | assumption | omega)) k_Reader_skipBlanks mw_Reader_58 ⟨Nat.le_of_ble_eq_true rfl, Nat.le_of_ble_eq_true rfl⟩ xK xP xD xS xA rfl xl.1 rfl (Nat.le_of_ble_eq_true rfl) d_Reader_comesToStatement_1 ⟨Nat.zero_le _, Nat.zero_le _⟩ [0, 1, 2] [] [0, 1, 2] rfl rfl (by decide) (by decide) (by decide) (by decide) (fun _ => rfl) rfl rfl rfl (fun u H locs hw_2 xP xD xS => ?_)
  obtain ⟨p2_1, rfl⟩ : ∃ v, v = u := ⟨_, rfl⟩
  try dsimp only at hw_2
  have xP : va_P D classes [(hr, .inr (3, [.ref ht, .ref hT, .ref hQ, .ref hx, .ref hy, .ref hg, .ref hn, .int (iI p2_1), .int (iI bh), .int (iI f)])), (ht, .inr (0, [.ref qt, .int (iI nt), .int (iI st)])), (qt, .inl (cI, ct, .inl ft))] H := xP
  have xD : va_D xA0 [(hr, .inr (3, [.ref ht, .ref hT, .ref hQ, .ref hx, .ref hy, .ref hg, .ref hn, .int (iI p2_1), .int (iI bh), .int (iI f)])), (ht, .inr (0, [.ref qt, .int (iI nt), .int (iI st)])), (qt, .inl (cI, ct, .inl ft))] := xD
  have HB := hw_2
  refine lv_aload_n xe xb d_Reader_comesToStatement_4 rfl (lv_at xl 0 rfl) ?_
  refine tk_callVi (As := []) (rest := []) (wr := []) (wn := fun u => [(hr, .inr (3, [.ref ht, .ref hT, .ref hQ, .ref hx, .ref hy, .ref hg, .ref hn, .int (iI p2_1), .int (iI bh), .int (iI f)])), (ht, .inr (0, [.ref qt, .int (iI nt), .int (iI st)])), (qt, .inl (cI, ct, .inl ft))]) ⟨xe, xb, xml, xo, xt⟩ (c_Reader_peek l D cI hr ht hT hQ hx hy hg hn p2_1 bh f qt ct nt ft st (by first | assumption | omega) (by first | assumption | omega) (by first | assumption | omega)) k_Reader_peek mw_Reader_61 ⟨Nat.le_of_ble_eq_true rfl, Nat.le_of_ble_eq_true rfl⟩ xK xP xD xS xA rfl xl.1 rfl (Nat.le_of_ble_eq_true rfl) d_Reader_comesToStatement_5 ⟨Nat.zero_le _, Nat.zero_le _⟩ [0, 1, 2] [] [0, 1, 2] rfl rfl (by decide) (by decide) (by decide) (by decide) (fun _ => rfl) rfl rfl rfl (fun z_5 u H locs hr_6 hw_4 xP xD xS => ?_)
  try dsimp only at hw_4
  have xP : va_P D classes [(hr, .inr (3, [.ref ht, .ref hT, .ref hQ, .ref hx, .ref hy, .ref hg, .ref hn, .int (iI p2_1), .int (iI bh), .int (iI f)])), (ht, .inr (0, [.ref qt, .int (iI nt), .int (iI st)])), (qt, .inl (cI, ct, .inl ft))] H := xP
  have xD : va_D xA0 [(hr, .inr (3, [.ref ht, .ref hT, .ref hQ, .ref hx, .ref hy, .ref hg, .ref hn, .int (iI p2_1), .int (iI bh), .int (iI f)])), (ht, .inr (0, [.ref qt, .int (iI nt), .int (iI st)])), (qt, .inl (cI, ct, .inl ft))] := xD
  have HG := hw_4
  refine lv_istore_n (lv' := [(1, .int (iI z_5)), (0, .ref hr)]) xe xb d_Reader_comesToStatement_8 rfl xl (by decide) rfl (fun ls xl => ?_)
  refine lv_iload_n xe xb d_Reader_comesToStatement_9 rfl (lv_at xl 0 rfl) ?_
  refine lv_iconst (v := iI (-1)) xe xb d_Reader_comesToStatement_10 rfl ?_
  refine tk_icmp_eq (tgt := 30) xe xb d_Reader_comesToStatement_11 (by decide) (by omega) (fun c_7 => ?_) (fun c_7 => ?_)
  · refine lv_iconst (v := iI (0)) xe xb d_Reader_comesToStatement_30 rfl ?_
    exact xret _ _ _ _ 0 p2_1 d_Reader_comesToStatement_31 (by omega) (by omega) (by first | exact (⟨HB.1, HB.2.1, HB.2.2.1, by rw [← HG]; omega⟩) | (dsimp only; exact (⟨HB.1, HB.2.1, HB.2.2.1, by rw [← HG]; omega⟩))) xP xD xS
  · refine lv_iload_n xe xb d_Reader_comesToStatement_14 rfl (lv_at xl 0 rfl) ?_
    refine lv_bipush (v := iI (10)) xe xb d_Reader_comesToStatement_15 (by decide) ?_
    refine tk_icmp_eq (tgt := 30) xe xb d_Reader_comesToStatement_17 (by decide) (by omega) (fun c_8 => ?_) (fun c_8 => ?_)
    · refine lv_iconst (v := iI (0)) xe xb d_Reader_comesToStatement_30 rfl ?_
      exact xret _ _ _ _ 0 p2_1 d_Reader_comesToStatement_31 (by omega) (by omega) (by first | exact (⟨HB.1, HB.2.1, HB.2.2.1, by rw [← HG]; omega⟩) | (dsimp only; exact (⟨HB.1, HB.2.1, HB.2.2.1, by rw [← HG]; omega⟩))) xP xD xS
    · refine lv_iload_n xe xb d_Reader_comesToStatement_20 rfl (lv_at xl 0 rfl) ?_
      refine lv_bipush (v := iI (35)) xe xb d_Reader_comesToStatement_21 (by decide) ?_
      refine tk_icmp_eq (tgt := 30) xe xb d_Reader_comesToStatement_23 (by decide) (by omega) (fun c_9 => ?_) (fun c_9 => ?_)
      · refine lv_iconst (v := iI (0)) xe xb d_Reader_comesToStatement_30 rfl ?_
        exact xret _ _ _ _ 0 p2_1 d_Reader_comesToStatement_31 (by omega) (by omega) (by first | exact (⟨HB.1, HB.2.1, HB.2.2.1, by rw [← HG]; omega⟩) | (dsimp only; exact (⟨HB.1, HB.2.1, HB.2.2.1, by rw [← HG]; omega⟩))) xP xD xS
      · refine lv_iconst (v := iI (1)) xe xb d_Reader_comesToStatement_26 rfl ?_
        refine lv_goto (tgt := 31) xe xb d_Reader_comesToStatement_27 (by decide) ?_
        exact xret _ _ _ _ 1 p2_1 d_Reader_comesToStatement_31 (by omega) (by omega) (by first | exact (⟨HB.1, HB.2.1, HB.2.2.1, by rw [← HG]; omega⟩) | (dsimp only; exact (⟨HB.1, HB.2.1, HB.2.2.1, by rw [← HG]; omega⟩))) xP xD xS
set_option maxHeartbeats 4000000 in
set_option maxRecDepth 100000 in
theorem c_Reader_endLine (l : Launch) (D : va_G) (cI : ClassId) (hr : Nat) (ht : Nat) (hT : Nat) (hQ : Nat) (hx : Nat) (hy : Nat) (hg : Nat) (hn : Nat) (p : Int) (bh : Int) (f : Int) (qt : Nat) (ct : Nat) (nt : Int) (ft : Nat → Int32) (st : Int) (h0 : 0 ≤ nt ∧ nt ≤ ct ∧ ct < 1000000) (hB : byt (lst (tI ft) nt)) (hp : 0 ≤ p ∧ p ≤ nt) (hf : f = -1 ∨ (0 ≤ f ∧ f ≤ nt ∧ p = nt)) : CtI l D [(cI, .int)] y_Reader_endLine b_Reader_endLine 1 (some .boolean) 3 [.ref hr] [(hr, .inr (3, [.ref ht, .ref hT, .ref hQ, .ref hx, .ref hy, .ref hg, .ref hn, .int (iI p), .int (iI bh), .int (iI f)])), (ht, .inr (0, [.ref qt, .int (iI nt), .int (iI st)])), (qt, .inl (cI, ct, .inl ft))] (S := Int × Int) (fun z u => p ≤ (en (lst (tI ft) nt) p) ∧ (en (lst (tI ft) nt) p) ≤ nt ∧ ((z = 0 ∧ rd (lst (tI ft) nt) (en (lst (tI ft) nt) p) = -1 ∧ u.1 = (en (lst (tI ft) nt) p) ∧ u.2 = f) ∨ (z = 1 ∧ f = -1 ∧ rd (lst (tI ft) nt) (en (lst (tI ft) nt) p) = 10 ∧ u.1 = (en (lst (tI ft) nt) p) + 1 ∧ u.2 = -1) ∨ (z = 0 ∧ f = -1 ∧ rd (lst (tI ft) nt) (en (lst (tI ft) nt) p) ≠ -1 ∧ rd (lst (tI ft) nt) (en (lst (tI ft) nt) p) ≠ 10 ∧ u.1 = nt ∧ u.2 = (en (lst (tI ft) nt) p)))) (fun u => [(hr, .inr (3, [.ref ht, .ref hT, .ref hQ, .ref hx, .ref hy, .ref hg, .ref hn, .int (iI u.1), .int (iI bh), .int (iI u.2)])), (ht, .inr (0, [.ref qt, .int (iI nt), .int (iI st)])), (qt, .inl (cI, ct, .inl ft))]) := by
  refine CtI.walk (fun z => z = 0 ∨ z = 1) (fun z hz => by rcases hz with rfl | rfl <;> decide) (by decide) (Nat.le_of_ble_eq_true rfl) ?_
  intro xp xe0 xs xm xar xbelow xmeth xc xA0 xQ xe xb xml xo xt xP xK xD xA xret ls xl xS
  have xl : lv_has ls 1 [(0, .ref hr)] := xl
  have xo : xs.vm.findClass R_Reader = some xm.cls := xo
  have hL : (((lst (tI ft) nt)).length : Int) = nt := by rw [lst_length]; omega
  refine lv_aload_n xe xb d_Reader_endLine_0 rfl (lv_at xl 0 rfl) ?_
  refine tk_callVv (As := []) (rest := []) (wr := []) (wn := fun u => [(hr, .inr (3, [.ref ht, .ref hT, .ref hQ, .ref hx, .ref hy, .ref hg, .ref hn, .int (iI u), .int (iI bh), .int (iI f)])), (ht, .inr (0, [.ref qt, .int (iI nt), .int (iI st)])), (qt, .inl (cI, ct, .inl ft))]) ⟨xe, xb, xml, xo, xt⟩ (c_Reader_skipBlanks l D cI hr ht hT hQ hx hy hg hn p bh f qt ct nt ft st (by first | assumption | omega) (by first | assumption | omega) (by first | assumption | omega)) k_Reader_skipBlanks mw_Reader_58 ⟨Nat.le_of_ble_eq_true rfl, Nat.le_of_ble_eq_true rfl⟩ xK xP xD xS xA rfl xl.1 rfl (Nat.le_of_ble_eq_true rfl) d_Reader_endLine_1 ⟨Nat.zero_le _, Nat.zero_le _⟩ [0, 1, 2] [] [0, 1, 2] rfl rfl (by decide) (by decide) (by decide) (by decide) (fun _ => rfl) rfl rfl rfl (fun u H locs hw_2 xP xD xS => ?_)
  obtain ⟨p2_1, rfl⟩ : ∃ v, v = u := ⟨_, rfl⟩
  try dsimp only at hw_2
  have xP : va_P D classes [(hr, .inr (3, [.ref ht, .ref hT, .ref hQ, .ref hx, .ref hy, .ref hg, .ref hn, .int (iI p2_1), .int (iI bh), .int (iI f)])), (ht, .inr (0, [.ref qt, .int (iI nt), .int (iI st)])), (qt, .inl (cI, ct, .inl ft))] H := xP
  have xD : va_D xA0 [(hr, .inr (3, [.ref ht, .ref hT, .ref hQ, .ref hx, .ref hy, .ref hg, .ref hn, .int (iI p2_1), .int (iI bh), .int (iI f)])), (ht, .inr (0, [.ref qt, .int (iI nt), .int (iI st)])), (qt, .inl (cI, ct, .inl ft))] := xD
  have HB := hw_2
  refine lv_aload_n xe xb d_Reader_endLine_4 rfl (lv_at xl 0 rfl) ?_
  refine tk_callVi (As := []) (rest := []) (wr := []) (wn := fun u => [(hr, .inr (3, [.ref ht, .ref hT, .ref hQ, .ref hx, .ref hy, .ref hg, .ref hn, .int (iI p2_1), .int (iI bh), .int (iI f)])), (ht, .inr (0, [.ref qt, .int (iI nt), .int (iI st)])), (qt, .inl (cI, ct, .inl ft))]) ⟨xe, xb, xml, xo, xt⟩ (c_Reader_peek l D cI hr ht hT hQ hx hy hg hn p2_1 bh f qt ct nt ft st (by first | assumption | omega) (by first | assumption | omega) (by first | assumption | omega)) k_Reader_peek mw_Reader_61 ⟨Nat.le_of_ble_eq_true rfl, Nat.le_of_ble_eq_true rfl⟩ xK xP xD xS xA rfl xl.1 rfl (Nat.le_of_ble_eq_true rfl) d_Reader_endLine_5 ⟨Nat.zero_le _, Nat.zero_le _⟩ [0, 1, 2] [] [0, 1, 2] rfl rfl (by decide) (by decide) (by decide) (by decide) (fun _ => rfl) rfl rfl rfl (fun z_5 u H locs hr_6 hw_4 xP xD xS => ?_)
  try dsimp only at hw_4
  have xP : va_P D classes [(hr, .inr (3, [.ref ht, .ref hT, .ref hQ, .ref hx, .ref hy, .ref hg, .ref hn, .int (iI p2_1), .int (iI bh), .int (iI f)])), (ht, .inr (0, [.ref qt, .int (iI nt), .int (iI st)])), (qt, .inl (cI, ct, .inl ft))] H := xP
  have xD : va_D xA0 [(hr, .inr (3, [.ref ht, .ref hT, .ref hQ, .ref hx, .ref hy, .ref hg, .ref hn, .int (iI p2_1), .int (iI bh), .int (iI f)])), (ht, .inr (0, [.ref qt, .int (iI nt), .int (iI st)])), (qt, .inl (cI, ct, .inl ft))] := xD
  have HG := hw_4
  refine lv_bipush (v := iI (35)) xe xb d_Reader_endLine_8 (by decide) ?_
  refine tk_icmp_ne (tgt := 17) xe xb d_Reader_endLine_10 (by decide) (by omega) (fun C10 => ?_) (fun C10 => ?_)
  · have HE : _ = (en (lst (tI ft) nt) p) := HB.1.trans (if_neg (by rw [← HB.1, ← HG]; exact C10)).symm
    refine lv_aload_n xe xb d_Reader_endLine_17 rfl (lv_at xl 0 rfl) ?_
    refine tk_callVi (As := []) (rest := []) (wr := []) (wn := fun u => [(hr, .inr (3, [.ref ht, .ref hT, .ref hQ, .ref hx, .ref hy, .ref hg, .ref hn, .int (iI p2_1), .int (iI bh), .int (iI f)])), (ht, .inr (0, [.ref qt, .int (iI nt), .int (iI st)])), (qt, .inl (cI, ct, .inl ft))]) ⟨xe, xb, xml, xo, xt⟩ (c_Reader_peek l D cI hr ht hT hQ hx hy hg hn p2_1 bh f qt ct nt ft st (by first | assumption | omega) (by first | assumption | omega) (by first | assumption | omega)) k_Reader_peek mw_Reader_61 ⟨Nat.le_of_ble_eq_true rfl, Nat.le_of_ble_eq_true rfl⟩ xK xP xD xS xA rfl xl.1 rfl (Nat.le_of_ble_eq_true rfl) d_Reader_endLine_18 ⟨Nat.zero_le _, Nat.zero_le _⟩ [0, 1, 2] [] [0, 1, 2] rfl rfl (by decide) (by decide) (by decide) (by decide) (fun _ => rfl) rfl rfl rfl (fun z_8 u H locs hr_9 hw_7 xP xD xS => ?_)
    try dsimp only at hw_7
    have xP : va_P D classes [(hr, .inr (3, [.ref ht, .ref hT, .ref hQ, .ref hx, .ref hy, .ref hg, .ref hn, .int (iI p2_1), .int (iI bh), .int (iI f)])), (ht, .inr (0, [.ref qt, .int (iI nt), .int (iI st)])), (qt, .inl (cI, ct, .inl ft))] H := xP
    have xD : va_D xA0 [(hr, .inr (3, [.ref ht, .ref hT, .ref hQ, .ref hx, .ref hy, .ref hg, .ref hn, .int (iI p2_1), .int (iI bh), .int (iI f)])), (ht, .inr (0, [.ref qt, .int (iI nt), .int (iI st)])), (qt, .inl (cI, ct, .inl ft))] := xD
    have HG2 := hw_7
    refine lv_iconst (v := iI (-1)) xe xb d_Reader_endLine_21 rfl ?_
    refine tk_icmp_ne (tgt := 27) xe xb d_Reader_endLine_22 (by decide) (by omega) (fun C22 => ?_) (fun C22 => ?_)
    · have h8 := rd_lt (show rd _ _ ≠ -1 by rw [← HG2]; exact C22)
      refine lv_aload_n xe xb d_Reader_endLine_27 rfl (lv_at xl 0 rfl) ?_
      refine lv_bipush (v := iI (10)) xe xb d_Reader_endLine_28 (by decide) ?_
      refine tk_callVv (As := [.int (iI 10)]) (rest := []) (wr := []) (wn := fun u => [(hr, .inr (3, [.ref ht, .ref hT, .ref hQ, .ref hx, .ref hy, .ref hg, .ref hn, .int (iI u.1), .int (iI bh), .int (iI u.2)])), (ht, .inr (0, [.ref qt, .int (iI nt), .int (iI st)])), (qt, .inl (cI, ct, .inl ft))]) ⟨xe, xb, xml, xo, xt⟩ (c_Reader_take l D cI hr ht hT hQ hx hy hg hn p2_1 bh f qt ct nt ft st 10 (by first | assumption | omega) (by first | assumption | omega) (by first | assumption | omega) (by first | assumption | omega) (by first | assumption | omega)) k_Reader_take mw_Reader_69 ⟨Nat.le_of_ble_eq_true rfl, Nat.le_of_ble_eq_true rfl⟩ xK xP xD xS xA rfl xl.1 rfl (Nat.le_of_ble_eq_true rfl) d_Reader_endLine_30 ⟨Nat.zero_le _, Nat.zero_le _⟩ [0, 1, 2] [] [0, 1, 2] rfl rfl (by decide) (by decide) (by decide) (by decide) (fun _ => rfl) rfl rfl rfl (fun u H locs hw_12 xP xD xS => ?_)
      obtain ⟨p2_10, f2_11⟩ := u
      try dsimp only at hw_12
      have xP : va_P D classes [(hr, .inr (3, [.ref ht, .ref hT, .ref hQ, .ref hx, .ref hy, .ref hg, .ref hn, .int (iI p2_10), .int (iI bh), .int (iI f2_11)])), (ht, .inr (0, [.ref qt, .int (iI nt), .int (iI st)])), (qt, .inl (cI, ct, .inl ft))] H := xP
      have xD : va_D xA0 [(hr, .inr (3, [.ref ht, .ref hT, .ref hQ, .ref hx, .ref hy, .ref hg, .ref hn, .int (iI p2_10), .int (iI bh), .int (iI f2_11)])), (ht, .inr (0, [.ref qt, .int (iI nt), .int (iI st)])), (qt, .inl (cI, ct, .inl ft))] := xD
      rcases hw_12 with ⟨Ha, Hb, Hc⟩ | ⟨Ha, Hb, Hc⟩
      · refine lv_aload_n xe xb d_Reader_endLine_33 rfl (lv_at xl 0 rfl) ?_
        refine va_get (D := D) (ci := 3) (v := .int (iI f2_11)) (C := R_Reader) (T := F_Reader) (N := 10) xe xb xt i_Reader xo xK xP 0 rfl rfl 9 (by decide) (xt _ mw_Reader_47) (fun _ h9 => h9) rfl d_Reader_endLine_34 ?_
        refine lv_iconst (v := iI (-1)) xe xb d_Reader_endLine_37 rfl ?_
        refine tk_icmp_ne (tgt := 45) xe xb d_Reader_endLine_38 (by decide) (by omega) (fun c_14 => absurd c_14 (by omega)) (fun c_14 => ?_)
        refine lv_iconst (v := iI (1)) xe xb d_Reader_endLine_41 rfl ?_
        refine lv_goto (tgt := 46) xe xb d_Reader_endLine_42 (by decide) ?_
        exact xret _ _ _ _ 1 (p2_10, f2_11) d_Reader_endLine_46 (by omega) (by omega) (by first | exact (⟨by omega, by omega, Or.inr (Or.inl ⟨rfl, by omega, by rw [← HE]; exact Ha, by rw [← HE]; exact Hb, by omega⟩)⟩) | (dsimp only; exact (⟨by omega, by omega, Or.inr (Or.inl ⟨rfl, by omega, by rw [← HE]; exact Ha, by rw [← HE]; exact Hb, by omega⟩)⟩))) xP xD xS
      · refine lv_aload_n xe xb d_Reader_endLine_33 rfl (lv_at xl 0 rfl) ?_
        refine va_get (D := D) (ci := 3) (v := .int (iI f2_11)) (C := R_Reader) (T := F_Reader) (N := 10) xe xb xt i_Reader xo xK xP 0 rfl rfl 9 (by decide) (xt _ mw_Reader_47) (fun _ h9 => h9) rfl d_Reader_endLine_34 ?_
        refine lv_iconst (v := iI (-1)) xe xb d_Reader_endLine_37 rfl ?_
        refine tk_icmp_ne (tgt := 45) xe xb d_Reader_endLine_38 (by decide) (by rw [Hc, if_pos (by omega)]; omega) (fun c_15 => ?_) (fun c_15 => absurd c_15 (by rw [Hc, if_pos (by omega)]; omega))
        refine lv_iconst (v := iI (0)) xe xb d_Reader_endLine_45 rfl ?_
        exact xret _ _ _ _ 0 (p2_10, f2_11) d_Reader_endLine_46 (by omega) (by omega) (by first | exact (⟨by omega, by omega, Or.inr (Or.inr ⟨rfl, by omega, by rw [← HE, ← HG2]; exact C22, by rw [← HE]; exact Ha, Hb, by rw [Hc, if_pos (by omega)]; exact HE⟩)⟩) | (dsimp only; exact (⟨by omega, by omega, Or.inr (Or.inr ⟨rfl, by omega, by rw [← HE, ← HG2]; exact C22, by rw [← HE]; exact Ha, Hb, by rw [Hc, if_pos (by omega)]; exact HE⟩)⟩))) xP xD xS
    · refine lv_iconst (v := iI (0)) xe xb d_Reader_endLine_25 rfl ?_
      exact xret _ _ _ _ 0 (p2_1, f) d_Reader_endLine_26 (by omega) (by omega) (by first | exact (⟨by omega, by omega, Or.inl ⟨rfl, by rw [← HE, ← HG2]; exact C22, HE, rfl⟩⟩) | (dsimp only; exact (⟨by omega, by omega, Or.inl ⟨rfl, by rw [← HE, ← HG2]; exact C22, HE, rfl⟩⟩))) xP xD xS
  · refine lv_aload_n xe xb d_Reader_endLine_13 rfl (lv_at xl 0 rfl) ?_
    refine tk_callVv (As := []) (rest := []) (wr := []) (wn := fun u => [(hr, .inr (3, [.ref ht, .ref hT, .ref hQ, .ref hx, .ref hy, .ref hg, .ref hn, .int (iI u), .int (iI bh), .int (iI f)])), (ht, .inr (0, [.ref qt, .int (iI nt), .int (iI st)])), (qt, .inl (cI, ct, .inl ft))]) ⟨xe, xb, xml, xo, xt⟩ (c_Reader_skipComment l D cI hr ht hT hQ hx hy hg hn p2_1 bh f qt ct nt ft st (by first | assumption | omega) (by first | assumption | omega) (by first | assumption | omega)) k_Reader_skipComment mw_Reader_80 ⟨Nat.le_of_ble_eq_true rfl, Nat.le_of_ble_eq_true rfl⟩ xK xP xD xS xA rfl xl.1 rfl (Nat.le_of_ble_eq_true rfl) d_Reader_endLine_14 ⟨Nat.zero_le _, Nat.zero_le _⟩ [0, 1, 2] [] [0, 1, 2] rfl rfl (by decide) (by decide) (by decide) (by decide) (fun _ => rfl) rfl rfl rfl (fun u H locs hw_17 xP xD xS => ?_)
    obtain ⟨p2_16, rfl⟩ : ∃ v, v = u := ⟨_, rfl⟩
    try dsimp only at hw_17
    have xP : va_P D classes [(hr, .inr (3, [.ref ht, .ref hT, .ref hQ, .ref hx, .ref hy, .ref hg, .ref hn, .int (iI p2_16), .int (iI bh), .int (iI f)])), (ht, .inr (0, [.ref qt, .int (iI nt), .int (iI st)])), (qt, .inl (cI, ct, .inl ft))] H := xP
    have xD : va_D xA0 [(hr, .inr (3, [.ref ht, .ref hT, .ref hQ, .ref hx, .ref hy, .ref hg, .ref hn, .int (iI p2_16), .int (iI bh), .int (iI f)])), (ht, .inr (0, [.ref qt, .int (iI nt), .int (iI st)])), (qt, .inl (cI, ct, .inl ft))] := xD
    have HC := hw_17
    have HE : _ = (en (lst (tI ft) nt) p) := HC.1.trans ((congrArg (cm (lst (tI ft) nt)) HB.1).trans (if_pos (by rw [← HB.1, ← HG]; exact C10)).symm)
    refine lv_aload_n xe xb d_Reader_endLine_17 rfl (lv_at xl 0 rfl) ?_
    refine tk_callVi (As := []) (rest := []) (wr := []) (wn := fun u => [(hr, .inr (3, [.ref ht, .ref hT, .ref hQ, .ref hx, .ref hy, .ref hg, .ref hn, .int (iI p2_16), .int (iI bh), .int (iI f)])), (ht, .inr (0, [.ref qt, .int (iI nt), .int (iI st)])), (qt, .inl (cI, ct, .inl ft))]) ⟨xe, xb, xml, xo, xt⟩ (c_Reader_peek l D cI hr ht hT hQ hx hy hg hn p2_16 bh f qt ct nt ft st (by first | assumption | omega) (by first | assumption | omega) (by first | assumption | omega)) k_Reader_peek mw_Reader_61 ⟨Nat.le_of_ble_eq_true rfl, Nat.le_of_ble_eq_true rfl⟩ xK xP xD xS xA rfl xl.1 rfl (Nat.le_of_ble_eq_true rfl) d_Reader_endLine_18 ⟨Nat.zero_le _, Nat.zero_le _⟩ [0, 1, 2] [] [0, 1, 2] rfl rfl (by decide) (by decide) (by decide) (by decide) (fun _ => rfl) rfl rfl rfl (fun z_20 u H locs hr_21 hw_19 xP xD xS => ?_)
    try dsimp only at hw_19
    have xP : va_P D classes [(hr, .inr (3, [.ref ht, .ref hT, .ref hQ, .ref hx, .ref hy, .ref hg, .ref hn, .int (iI p2_16), .int (iI bh), .int (iI f)])), (ht, .inr (0, [.ref qt, .int (iI nt), .int (iI st)])), (qt, .inl (cI, ct, .inl ft))] H := xP
    have xD : va_D xA0 [(hr, .inr (3, [.ref ht, .ref hT, .ref hQ, .ref hx, .ref hy, .ref hg, .ref hn, .int (iI p2_16), .int (iI bh), .int (iI f)])), (ht, .inr (0, [.ref qt, .int (iI nt), .int (iI st)])), (qt, .inl (cI, ct, .inl ft))] := xD
    have HG2 := hw_19
    refine lv_iconst (v := iI (-1)) xe xb d_Reader_endLine_21 rfl ?_
    refine tk_icmp_ne (tgt := 27) xe xb d_Reader_endLine_22 (by decide) (by omega) (fun C22 => ?_) (fun C22 => ?_)
    · have h8 := rd_lt (show rd _ _ ≠ -1 by rw [← HG2]; exact C22)
      refine lv_aload_n xe xb d_Reader_endLine_27 rfl (lv_at xl 0 rfl) ?_
      refine lv_bipush (v := iI (10)) xe xb d_Reader_endLine_28 (by decide) ?_
      refine tk_callVv (As := [.int (iI 10)]) (rest := []) (wr := []) (wn := fun u => [(hr, .inr (3, [.ref ht, .ref hT, .ref hQ, .ref hx, .ref hy, .ref hg, .ref hn, .int (iI u.1), .int (iI bh), .int (iI u.2)])), (ht, .inr (0, [.ref qt, .int (iI nt), .int (iI st)])), (qt, .inl (cI, ct, .inl ft))]) ⟨xe, xb, xml, xo, xt⟩ (c_Reader_take l D cI hr ht hT hQ hx hy hg hn p2_16 bh f qt ct nt ft st 10 (by first | assumption | omega) (by first | assumption | omega) (by first | assumption | omega) (by first | assumption | omega) (by first | assumption | omega)) k_Reader_take mw_Reader_69 ⟨Nat.le_of_ble_eq_true rfl, Nat.le_of_ble_eq_true rfl⟩ xK xP xD xS xA rfl xl.1 rfl (Nat.le_of_ble_eq_true rfl) d_Reader_endLine_30 ⟨Nat.zero_le _, Nat.zero_le _⟩ [0, 1, 2] [] [0, 1, 2] rfl rfl (by decide) (by decide) (by decide) (by decide) (fun _ => rfl) rfl rfl rfl (fun u H locs hw_24 xP xD xS => ?_)
      obtain ⟨p2_22, f2_23⟩ := u
      try dsimp only at hw_24
      have xP : va_P D classes [(hr, .inr (3, [.ref ht, .ref hT, .ref hQ, .ref hx, .ref hy, .ref hg, .ref hn, .int (iI p2_22), .int (iI bh), .int (iI f2_23)])), (ht, .inr (0, [.ref qt, .int (iI nt), .int (iI st)])), (qt, .inl (cI, ct, .inl ft))] H := xP
      have xD : va_D xA0 [(hr, .inr (3, [.ref ht, .ref hT, .ref hQ, .ref hx, .ref hy, .ref hg, .ref hn, .int (iI p2_22), .int (iI bh), .int (iI f2_23)])), (ht, .inr (0, [.ref qt, .int (iI nt), .int (iI st)])), (qt, .inl (cI, ct, .inl ft))] := xD
      rcases hw_24 with ⟨Ha, Hb, Hc⟩ | ⟨Ha, Hb, Hc⟩
      · refine lv_aload_n xe xb d_Reader_endLine_33 rfl (lv_at xl 0 rfl) ?_
        refine va_get (D := D) (ci := 3) (v := .int (iI f2_23)) (C := R_Reader) (T := F_Reader) (N := 10) xe xb xt i_Reader xo xK xP 0 rfl rfl 9 (by decide) (xt _ mw_Reader_47) (fun _ h9 => h9) rfl d_Reader_endLine_34 ?_
        refine lv_iconst (v := iI (-1)) xe xb d_Reader_endLine_37 rfl ?_
        refine tk_icmp_ne (tgt := 45) xe xb d_Reader_endLine_38 (by decide) (by omega) (fun c_26 => absurd c_26 (by omega)) (fun c_26 => ?_)
        refine lv_iconst (v := iI (1)) xe xb d_Reader_endLine_41 rfl ?_
        refine lv_goto (tgt := 46) xe xb d_Reader_endLine_42 (by decide) ?_
        exact xret _ _ _ _ 1 (p2_22, f2_23) d_Reader_endLine_46 (by omega) (by omega) (by first | exact (⟨by omega, by omega, Or.inr (Or.inl ⟨rfl, by omega, by rw [← HE]; exact Ha, by rw [← HE]; exact Hb, by omega⟩)⟩) | (dsimp only; exact (⟨by omega, by omega, Or.inr (Or.inl ⟨rfl, by omega, by rw [← HE]; exact Ha, by rw [← HE]; exact Hb, by omega⟩)⟩))) xP xD xS
      · refine lv_aload_n xe xb d_Reader_endLine_33 rfl (lv_at xl 0 rfl) ?_
        refine va_get (D := D) (ci := 3) (v := .int (iI f2_23)) (C := R_Reader) (T := F_Reader) (N := 10) xe xb xt i_Reader xo xK xP 0 rfl rfl 9 (by decide) (xt _ mw_Reader_47) (fun _ h9 => h9) rfl d_Reader_endLine_34 ?_
        refine lv_iconst (v := iI (-1)) xe xb d_Reader_endLine_37 rfl ?_
        refine tk_icmp_ne (tgt := 45) xe xb d_Reader_endLine_38 (by decide) (by rw [Hc, if_pos (by omega)]; omega) (fun c_27 => ?_) (fun c_27 => absurd c_27 (by rw [Hc, if_pos (by omega)]; omega))
        refine lv_iconst (v := iI (0)) xe xb d_Reader_endLine_45 rfl ?_
        exact xret _ _ _ _ 0 (p2_22, f2_23) d_Reader_endLine_46 (by omega) (by omega) (by first | exact (⟨by omega, by omega, Or.inr (Or.inr ⟨rfl, by omega, by rw [← HE, ← HG2]; exact C22, by rw [← HE]; exact Ha, Hb, by rw [Hc, if_pos (by omega)]; exact HE⟩)⟩) | (dsimp only; exact (⟨by omega, by omega, Or.inr (Or.inr ⟨rfl, by omega, by rw [← HE, ← HG2]; exact C22, by rw [← HE]; exact Ha, Hb, by rw [Hc, if_pos (by omega)]; exact HE⟩)⟩))) xP xD xS
    · refine lv_iconst (v := iI (0)) xe xb d_Reader_endLine_25 rfl ?_
      exact xret _ _ _ _ 0 (p2_16, f) d_Reader_endLine_26 (by omega) (by omega) (by first | exact (⟨by omega, by omega, Or.inl ⟨rfl, by rw [← HE, ← HG2]; exact C22, HE, rfl⟩⟩) | (dsimp only; exact (⟨by omega, by omega, Or.inl ⟨rfl, by rw [← HE, ← HG2]; exact C22, HE, rfl⟩⟩))) xP xD xS
