theorem d_Printer_addTag_0 : decode b_Printer_addTag 0 = .ok (.aload_n 0, 1) := by decide +kernel
theorem d_Printer_addTag_1 : decode b_Printer_addTag 1 = .ok (.getfield 24, 3) := by decide +kernel
theorem d_Printer_addTag_4 : decode b_Printer_addTag 4 = .ok (.bipush 64, 2) := by decide +kernel
theorem d_Printer_addTag_6 : decode b_Printer_addTag 6 = .ok (.invokevirtual 59, 3) := by decide +kernel
theorem d_Printer_addTag_9 : decode b_Printer_addTag 9 = .ok (.iconst 0, 1) := by decide +kernel
theorem d_Printer_addTag_10 : decode b_Printer_addTag 10 = .ok (.istore_n 2, 1) := by decide +kernel
theorem d_Printer_addTag_11 : decode b_Printer_addTag 11 = .ok (.iload_n 2, 1) := by decide +kernel
theorem d_Printer_addTag_12 : decode b_Printer_addTag 12 = .ok (.aload_n 0, 1) := by decide +kernel
theorem d_Printer_addTag_13 : decode b_Printer_addTag 13 = .ok (.getfield 9, 3) := by decide +kernel
theorem d_Printer_addTag_16 : decode b_Printer_addTag 16 = .ok (.getfield 93, 3) := by decide +kernel
theorem d_Printer_addTag_19 : decode b_Printer_addTag 19 = .ok (.iload_n 1, 1) := by decide +kernel
theorem d_Printer_addTag_20 : decode b_Printer_addTag 20 = .ok (.iaload, 1) := by decide +kernel
theorem d_Printer_addTag_21 : decode b_Printer_addTag 21 = .ok (.if_icmp .ge 25, 3) := by decide +kernel
theorem d_Printer_addTag_24 : decode b_Printer_addTag 24 = .ok (.aload_n 0, 1) := by decide +kernel
theorem d_Printer_addTag_25 : decode b_Printer_addTag 25 = .ok (.getfield 24, 3) := by decide +kernel
theorem d_Printer_addTag_28 : decode b_Printer_addTag 28 = .ok (.aload_n 0, 1) := by decide +kernel
theorem d_Printer_addTag_29 : decode b_Printer_addTag 29 = .ok (.getfield 9, 3) := by decide +kernel
theorem d_Printer_addTag_32 : decode b_Printer_addTag 32 = .ok (.iload_n 1, 1) := by decide +kernel
theorem d_Printer_addTag_33 : decode b_Printer_addTag 33 = .ok (.iload_n 2, 1) := by decide +kernel
theorem d_Printer_addTag_34 : decode b_Printer_addTag 34 = .ok (.invokevirtual 102, 3) := by decide +kernel
theorem d_Printer_addTag_37 : decode b_Printer_addTag 37 = .ok (.invokevirtual 59, 3) := by decide +kernel
theorem d_Printer_addTag_40 : decode b_Printer_addTag 40 = .ok (.iinc 2 1, 3) := by decide +kernel
theorem d_Printer_addTag_43 : decode b_Printer_addTag 43 = .ok (.goto (-32), 3) := by decide +kernel
theorem d_Printer_addTag_46 : decode b_Printer_addTag 46 = .ok (.return_, 1) := by decide +kernel
theorem d_Printer_addCodes_0 : decode b_Printer_addCodes 0 = .ok (.aload_n 0, 1) := by decide +kernel
theorem d_Printer_addCodes_1 : decode b_Printer_addCodes 1 = .ok (.getfield 9, 3) := by decide +kernel
theorem d_Printer_addCodes_4 : decode b_Printer_addCodes 4 = .ok (.getfield 84, 3) := by decide +kernel
theorem d_Printer_addCodes_7 : decode b_Printer_addCodes 7 = .ok (.iload_n 1, 1) := by decide +kernel
theorem d_Printer_addCodes_8 : decode b_Printer_addCodes 8 = .ok (.iaload, 1) := by decide +kernel
theorem d_Printer_addCodes_9 : decode b_Printer_addCodes 9 = .ok (.iconst 2, 1) := by decide +kernel
theorem d_Printer_addCodes_10 : decode b_Printer_addCodes 10 = .ok (.if_icmp .ne 7, 3) := by decide +kernel
theorem d_Printer_addCodes_13 : decode b_Printer_addCodes 13 = .ok (.iconst 1, 1) := by decide +kernel
theorem d_Printer_addCodes_14 : decode b_Printer_addCodes 14 = .ok (.goto 4, 3) := by decide +kernel
theorem d_Printer_addCodes_17 : decode b_Printer_addCodes 17 = .ok (.iconst 0, 1) := by decide +kernel
theorem d_Printer_addCodes_18 : decode b_Printer_addCodes 18 = .ok (.istore_n 2, 1) := by decide +kernel
theorem d_Printer_addCodes_19 : decode b_Printer_addCodes 19 = .ok (.aload_n 0, 1) := by decide +kernel
theorem d_Printer_addCodes_20 : decode b_Printer_addCodes 20 = .ok (.getfield 24, 3) := by decide +kernel
theorem d_Printer_addCodes_23 : decode b_Printer_addCodes 23 = .ok (.iload_n 2, 1) := by decide +kernel
theorem d_Printer_addCodes_24 : decode b_Printer_addCodes 24 = .ok (.ifCond .eq 8, 3) := by decide +kernel
theorem d_Printer_addCodes_27 : decode b_Printer_addCodes 27 = .ok (.bipush 34, 2) := by decide +kernel
theorem d_Printer_addCodes_29 : decode b_Printer_addCodes 29 = .ok (.goto 5, 3) := by decide +kernel
theorem d_Printer_addCodes_32 : decode b_Printer_addCodes 32 = .ok (.bipush 60, 2) := by decide +kernel
theorem d_Printer_addCodes_34 : decode b_Printer_addCodes 34 = .ok (.invokevirtual 59, 3) := by decide +kernel
theorem d_Printer_addCodes_37 : decode b_Printer_addCodes 37 = .ok (.iconst 0, 1) := by decide +kernel
theorem d_Printer_addCodes_38 : decode b_Printer_addCodes 38 = .ok (.istore_n 3, 1) := by decide +kernel
theorem d_Printer_addCodes_39 : decode b_Printer_addCodes 39 = .ok (.iload_n 3, 1) := by decide +kernel
theorem d_Printer_addCodes_40 : decode b_Printer_addCodes 40 = .ok (.aload_n 0, 1) := by decide +kernel
theorem d_Printer_addCodes_41 : decode b_Printer_addCodes 41 = .ok (.getfield 9, 3) := by decide +kernel
theorem d_Printer_addCodes_44 : decode b_Printer_addCodes 44 = .ok (.getfield 105, 3) := by decide +kernel
theorem d_Printer_addCodes_47 : decode b_Printer_addCodes 47 = .ok (.iload_n 1, 1) := by decide +kernel
theorem d_Printer_addCodes_48 : decode b_Printer_addCodes 48 = .ok (.iaload, 1) := by decide +kernel
theorem d_Printer_addCodes_49 : decode b_Printer_addCodes 49 = .ok (.if_icmp .ge 94, 3) := by decide +kernel
theorem d_Printer_addCodes_52 : decode b_Printer_addCodes 52 = .ok (.aload_n 0, 1) := by decide +kernel
theorem d_Printer_addCodes_53 : decode b_Printer_addCodes 53 = .ok (.getfield 9, 3) := by decide +kernel
theorem d_Printer_addCodes_56 : decode b_Printer_addCodes 56 = .ok (.iload_n 1, 1) := by decide +kernel
theorem d_Printer_addCodes_57 : decode b_Printer_addCodes 57 = .ok (.iload_n 3, 1) := by decide +kernel
theorem d_Printer_addCodes_58 : decode b_Printer_addCodes 58 = .ok (.invokevirtual 108, 3) := by decide +kernel
theorem d_Printer_addCodes_61 : decode b_Printer_addCodes 61 = .ok (.istore 4, 2) := by decide +kernel
theorem d_Printer_addCodes_63 : decode b_Printer_addCodes 63 = .ok (.iload_n 2, 1) := by decide +kernel
theorem d_Printer_addCodes_64 : decode b_Printer_addCodes 64 = .ok (.ifCond .eq 11, 3) := by decide +kernel
theorem d_Printer_addCodes_67 : decode b_Printer_addCodes 67 = .ok (.iload 4, 2) := by decide +kernel
theorem d_Printer_addCodes_69 : decode b_Printer_addCodes 69 = .ok (.invokestatic 111, 3) := by decide +kernel
theorem d_Printer_addCodes_72 : decode b_Printer_addCodes 72 = .ok (.goto 4, 3) := by decide +kernel
theorem d_Printer_addCodes_75 : decode b_Printer_addCodes 75 = .ok (.iconst (-1), 1) := by decide +kernel
theorem d_Printer_addCodes_76 : decode b_Printer_addCodes 76 = .ok (.istore 5, 2) := by decide +kernel
theorem d_Printer_addCodes_78 : decode b_Printer_addCodes 78 = .ok (.iload 5, 2) := by decide +kernel
theorem d_Printer_addCodes_80 : decode b_Printer_addCodes 80 = .ok (.iconst (-1), 1) := by decide +kernel
theorem d_Printer_addCodes_81 : decode b_Printer_addCodes 81 = .ok (.if_icmp .eq 24, 3) := by decide +kernel
theorem d_Printer_addCodes_84 : decode b_Printer_addCodes 84 = .ok (.aload_n 0, 1) := by decide +kernel
theorem d_Printer_addCodes_85 : decode b_Printer_addCodes 85 = .ok (.getfield 24, 3) := by decide +kernel
theorem d_Printer_addCodes_88 : decode b_Printer_addCodes 88 = .ok (.bipush 92, 2) := by decide +kernel
theorem d_Printer_addCodes_90 : decode b_Printer_addCodes 90 = .ok (.invokevirtual 59, 3) := by decide +kernel
theorem d_Printer_addCodes_93 : decode b_Printer_addCodes 93 = .ok (.aload_n 0, 1) := by decide +kernel
theorem d_Printer_addCodes_94 : decode b_Printer_addCodes 94 = .ok (.getfield 24, 3) := by decide +kernel
theorem d_Printer_addCodes_97 : decode b_Printer_addCodes 97 = .ok (.iload 5, 2) := by decide +kernel
theorem d_Printer_addCodes_99 : decode b_Printer_addCodes 99 = .ok (.invokevirtual 59, 3) := by decide +kernel
theorem d_Printer_addCodes_102 : decode b_Printer_addCodes 102 = .ok (.goto 35, 3) := by decide +kernel
theorem d_Printer_addCodes_105 : decode b_Printer_addCodes 105 = .ok (.iload 4, 2) := by decide +kernel
theorem d_Printer_addCodes_107 : decode b_Printer_addCodes 107 = .ok (.bipush 32, 2) := by decide +kernel
theorem d_Printer_addCodes_109 : decode b_Printer_addCodes 109 = .ok (.if_icmp .lt 22, 3) := by decide +kernel
theorem d_Printer_addCodes_112 : decode b_Printer_addCodes 112 = .ok (.iload 4, 2) := by decide +kernel
theorem d_Printer_addCodes_114 : decode b_Printer_addCodes 114 = .ok (.bipush 126, 2) := by decide +kernel
theorem d_Printer_addCodes_116 : decode b_Printer_addCodes 116 = .ok (.if_icmp .gt 15, 3) := by decide +kernel
theorem d_Printer_addCodes_119 : decode b_Printer_addCodes 119 = .ok (.aload_n 0, 1) := by decide +kernel
theorem d_Printer_addCodes_120 : decode b_Printer_addCodes 120 = .ok (.getfield 24, 3) := by decide +kernel
theorem d_Printer_addCodes_123 : decode b_Printer_addCodes 123 = .ok (.iload 4, 2) := by decide +kernel
theorem d_Printer_addCodes_125 : decode b_Printer_addCodes 125 = .ok (.invokevirtual 59, 3) := by decide +kernel
theorem d_Printer_addCodes_128 : decode b_Printer_addCodes 128 = .ok (.goto 9, 3) := by decide +kernel
theorem d_Printer_addCodes_131 : decode b_Printer_addCodes 131 = .ok (.aload_n 0, 1) := by decide +kernel
theorem d_Printer_addCodes_132 : decode b_Printer_addCodes 132 = .ok (.iload 4, 2) := by decide +kernel
theorem d_Printer_addCodes_134 : decode b_Printer_addCodes 134 = .ok (.invokevirtual 114, 3) := by decide +kernel
theorem d_Printer_addCodes_137 : decode b_Printer_addCodes 137 = .ok (.iinc 3 1, 3) := by decide +kernel
theorem d_Printer_addCodes_140 : decode b_Printer_addCodes 140 = .ok (.goto (-101), 3) := by decide +kernel
theorem d_Printer_addCodes_143 : decode b_Printer_addCodes 143 = .ok (.aload_n 0, 1) := by decide +kernel
theorem d_Printer_addCodes_144 : decode b_Printer_addCodes 144 = .ok (.getfield 24, 3) := by decide +kernel
theorem d_Printer_addCodes_147 : decode b_Printer_addCodes 147 = .ok (.iload_n 2, 1) := by decide +kernel
theorem d_Printer_addCodes_148 : decode b_Printer_addCodes 148 = .ok (.ifCond .eq 8, 3) := by decide +kernel
theorem d_Printer_addCodes_151 : decode b_Printer_addCodes 151 = .ok (.bipush 34, 2) := by decide +kernel
theorem d_Printer_addCodes_153 : decode b_Printer_addCodes 153 = .ok (.goto 5, 3) := by decide +kernel
theorem d_Printer_addCodes_156 : decode b_Printer_addCodes 156 = .ok (.bipush 62, 2) := by decide +kernel
theorem d_Printer_addCodes_158 : decode b_Printer_addCodes 158 = .ok (.invokevirtual 59, 3) := by decide +kernel
theorem d_Printer_addCodes_161 : decode b_Printer_addCodes 161 = .ok (.return_, 1) := by decide +kernel
set_option maxHeartbeats 4000000 in
set_option maxRecDepth 100000 in
theorem c_Printer_addTag (l : Launch) (D : va_G) (cI : ClassId) (hpr : Nat) (hT : Nat) (hQ : Nat) (hpd : Nat) (qst : Nat) (qor : Nat) (pz : Int) (qk : Nat) (ql : Nat) (qc : Nat) (qtl : Nat) (qtg : Nat) (qty : Nat) (K : Nat → Int32) (Ln : Nat → Int32) (C : Nat → Int32) (TL : Nat → Int32) (TG : Nat → Int32) (TY : Nat → Int32) (sz : Int) (fr : Int) (fl : Int) (qpd : Nat) (n : Int) (f : Nat → Int32) (sp : Int) (t : Int) (hn : 0 ≤ n ∧ n ≤ 3000) (hs : tOk Ln TL sz) (ht : 0 ≤ t ∧ t < sz) : CtV l D [(cI, .int)] y_Printer_addTag b_Printer_addTag 3 2 [.ref hpr, .int (iI t)] [(hpr, .inr (4, [.ref hT, .ref hQ, .ref hpd, .ref qst, .ref qor, .int (iI pz)])), (hT, .inr (1, [.ref qk, .ref ql, .ref qc, .ref qtl, .ref qtg, .ref qty, .int (iI sz), .int (iI fr), .int (iI fl)])), (qk, .inl (cI, 120, .inl K)), (ql, .inl (cI, 120, .inl Ln)), (qc, .inl (cI, 4800, .inl C)), (qtl, .inl (cI, 120, .inl TL)), (qtg, .inl (cI, 1920, .inl TG)), (qty, .inl (cI, 120, .inl TY)), (hpd, .inr (0, [.ref qpd, .int (iI n), .int (iI sp)])), (qpd, .inl (cI, 3000, .inl f))] (S := Int × (Nat → Int32) × Int) (fun u => Pw u.1 u.2.1 u.2.2 n f sp (64 :: seg TG (t * 16) (tI TL t))) (fun u => [(hpr, .inr (4, [.ref hT, .ref hQ, .ref hpd, .ref qst, .ref qor, .int (iI pz)])), (hT, .inr (1, [.ref qk, .ref ql, .ref qc, .ref qtl, .ref qtg, .ref qty, .int (iI sz), .int (iI fr), .int (iI fl)])), (qk, .inl (cI, 120, .inl K)), (ql, .inl (cI, 120, .inl Ln)), (qc, .inl (cI, 4800, .inl C)), (qtl, .inl (cI, 120, .inl TL)), (qtg, .inl (cI, 1920, .inl TG)), (qty, .inl (cI, 120, .inl TY)), (hpd, .inr (0, [.ref qpd, .int (iI u.1), .int (iI u.2.2)])), (qpd, .inl (cI, 3000, .inl u.2.1))]) := by
  refine CtV.walk (by decide) (Nat.le_of_ble_eq_true rfl) ?_
  intro xp xe0 xs xm xar xbelow xmeth xc xA0 xQ xe xb xml xo xt xP xK xD xA xret ls xl xS
  have xl : lv_has ls 3 [(0, .ref hpr), (1, .int (iI t))] := xl
  have xo : xs.vm.findClass R_Printer = some xm.cls := xo
  have HC := Pw_nil (s := sp) (f := f) hn
  have hz : 0 ≤ sz ∧ sz ≤ 120 := ⟨hs.1, hs.2.1⟩
  have htt := hs.2.2 t ht.1 ht.2
  refine lv_aload_n xe xb d_Printer_addTag_0 rfl (lv_at xl 0 rfl) ?_
  refine va_get (D := D) (ci := 4) (v := .ref hpd) (C := R_Printer) (T := F_Printer) (N := 6) xe xb xt i_Printer xo xK xP 0 rfl rfl 2 (by decide) (xt _ mw_Printer_24) (fun _ h9 => h9) rfl d_Printer_addTag_1 ?_
  refine lv_bipush (v := iI (64)) xe xb d_Printer_addTag_4 (by decide) ?_
  refine tk_callVv (As := [.int (iI 64)]) (rest := []) (wr := [(hpr, .inr (4, [.ref hT, .ref hQ, .ref hpd, .ref qst, .ref qor, .int (iI pz)])), (hT, .inr (1, [.ref qk, .ref ql, .ref qc, .ref qtl, .ref qtg, .ref qty, .int (iI sz), .int (iI fr), .int (iI fl)])), (qk, .inl (cI, 120, .inl K)), (ql, .inl (cI, 120, .inl Ln)), (qc, .inl (cI, 4800, .inl C)), (qtl, .inl (cI, 120, .inl TL)), (qtg, .inl (cI, 1920, .inl TG)), (qty, .inl (cI, 120, .inl TY))]) (wn := fun u => [(hpr, .inr (4, [.ref hT, .ref hQ, .ref hpd, .ref qst, .ref qor, .int (iI pz)])), (hT, .inr (1, [.ref qk, .ref ql, .ref qc, .ref qtl, .ref qtg, .ref qty, .int (iI sz), .int (iI fr), .int (iI fl)])), (qk, .inl (cI, 120, .inl K)), (ql, .inl (cI, 120, .inl Ln)), (qc, .inl (cI, 4800, .inl C)), (qtl, .inl (cI, 120, .inl TL)), (qtg, .inl (cI, 1920, .inl TG)), (qty, .inl (cI, 120, .inl TY)), (hpd, .inr (0, [.ref qpd, .int (iI u.1), .int (iI u.2.2)])), (qpd, .inl (cI, 3000, .inl u.2.1))]) ⟨xe, xb, xml, xo, xt⟩ (c_Row_addP l D cI hpd qpd n f sp 64 (by first | assumption | omega) (by first | assumption | omega)) k_Row_add mw_Printer_59 ⟨Nat.le_of_ble_eq_true rfl, Nat.le_of_ble_eq_true rfl⟩ xK xP xD xS xA rfl xl.1 rfl (Nat.le_of_ble_eq_true rfl) d_Printer_addTag_6 ⟨Nat.zero_le _, Nat.zero_le _⟩ [8, 9] [0, 1, 2, 3, 4, 5, 6, 7] [0, 1, 2, 3, 4, 5, 6, 7, 8, 9] rfl rfl (by decide) (by decide) (by decide) (by decide) (fun _ => rfl) rfl rfl rfl ?_
  clear xP xD xS
  intro u H locs hw_4 xP xD xS
  obtain ⟨n2_1, f2_2, sp2_3⟩ := u
  try dsimp only at hw_4
  replace xP : va_P D classes [(hpr, .inr (4, [.ref hT, .ref hQ, .ref hpd, .ref qst, .ref qor, .int (iI pz)])), (hT, .inr (1, [.ref qk, .ref ql, .ref qc, .ref qtl, .ref qtg, .ref qty, .int (iI sz), .int (iI fr), .int (iI fl)])), (qk, .inl (cI, 120, .inl K)), (ql, .inl (cI, 120, .inl Ln)), (qc, .inl (cI, 4800, .inl C)), (qtl, .inl (cI, 120, .inl TL)), (qtg, .inl (cI, 1920, .inl TG)), (qty, .inl (cI, 120, .inl TY)), (hpd, .inr (0, [.ref qpd, .int (iI n2_1), .int (iI sp2_3)])), (qpd, .inl (cI, 3000, .inl f2_2))] H := xP
  replace xD : va_D xA0 [(hpr, .inr (4, [.ref hT, .ref hQ, .ref hpd, .ref qst, .ref qor, .int (iI pz)])), (hT, .inr (1, [.ref qk, .ref ql, .ref qc, .ref qtl, .ref qtg, .ref qty, .int (iI sz), .int (iI fr), .int (iI fl)])), (qk, .inl (cI, 120, .inl K)), (ql, .inl (cI, 120, .inl Ln)), (qc, .inl (cI, 4800, .inl C)), (qtl, .inl (cI, 120, .inl TL)), (qtg, .inl (cI, 1920, .inl TG)), (qty, .inl (cI, 120, .inl TY)), (hpd, .inr (0, [.ref qpd, .int (iI n2_1), .int (iI sp2_3)])), (qpd, .inl (cI, 3000, .inl f2_2))] := xD
  replace HC := Pw_trans hn.1 HC hw_4
  have hgr := Pw_rg HC
  clear hw_4
  refine lv_iconst (v := iI (0)) xe xb d_Printer_addTag_9 rfl ?_
  refine lv_istore_n (lv' := [(2, .int (iI 0)), (0, .ref hpr), (1, .int (iI t))]) xe xb d_Printer_addTag_10 rfl xl (by decide) rfl ?_
  clear xl
  intro ls xl
  have loop_11 : ∀ (n9 : Nat) (i : Int) (nv : Int) (fv : Nat → Int32) (sv : Int), (16 - i).toNat < n9 → (0 ≤ i ∧ i ≤ tI TL t) → (Pw nv fv sv n f sp (64 :: seg TG (t * 16) i)) → ∀ (H : Heap) (locs : List Loc), va_P D classes [(hpr, .inr (4, [.ref hT, .ref hQ, .ref hpd, .ref qst, .ref qor, .int (iI pz)])), (hT, .inr (1, [.ref qk, .ref ql, .ref qc, .ref qtl, .ref qtg, .ref qty, .int (iI sz), .int (iI fr), .int (iI fl)])), (qk, .inl (cI, 120, .inl K)), (ql, .inl (cI, 120, .inl Ln)), (qc, .inl (cI, 4800, .inl C)), (qtl, .inl (cI, 120, .inl TL)), (qtg, .inl (cI, 1920, .inl TG)), (qty, .inl (cI, 120, .inl TY)), (hpd, .inr (0, [.ref qpd, .int (iI nv), .int (iI sv)])), (qpd, .inl (cI, 3000, .inl fv))] H → va_D xA0 [(hpr, .inr (4, [.ref hT, .ref hQ, .ref hpd, .ref qst, .ref qor, .int (iI pz)])), (hT, .inr (1, [.ref qk, .ref ql, .ref qc, .ref qtl, .ref qtg, .ref qty, .int (iI sz), .int (iI fr), .int (iI fl)])), (qk, .inl (cI, 120, .inl K)), (ql, .inl (cI, 120, .inl Ln)), (qc, .inl (cI, 4800, .inl C)), (qtl, .inl (cI, 120, .inl TL)), (qtg, .inl (cI, 1920, .inl TG)), (qty, .inl (cI, 120, .inl TY)), (hpd, .inr (0, [.ref qpd, .int (iI nv), .int (iI sv)])), (qpd, .inl (cI, 3000, .inl fv))] → va_S xA0 xs.heap H locs → ∀ ls : Array Slot, lv_has ls 3 [(0, .ref hpr), (1, .int (iI t)), (2, .int (iI i))] → W xp l xe0 (tk_rm 2) xs xm xar xbelow xmeth xc H locs 0 0 xQ (F0 xm 11 ls []) := by
    intro n9
    induction n9 with
    | zero => intro i nv fv sv h9; exact absurd h9 (Nat.not_lt_zero _)
    | succ n9 ih9 =>
      intro i nv fv sv hm9 hi hP H locs xP xD xS ls xl
      have ih_11 := ih9
      have hm_11 := hm9
      have HC := hP
      have hgr := Pw_rg HC
      refine lv_iload_n xe xb d_Printer_addTag_11 rfl (lv_at xl 2 rfl) ?_
      refine lv_aload_n xe xb d_Printer_addTag_12 rfl (lv_at xl 0 rfl) ?_
      refine va_get (D := D) (ci := 4) (v := .ref hT) (C := R_Printer) (T := F_Printer) (N := 6) xe xb xt i_Printer xo xK xP 0 rfl rfl 0 (by decide) (xt _ mw_Printer_9) (fun _ h9 => h9) rfl d_Printer_addTag_13 ?_
      refine va_get (D := D) (ci := 1) (v := .ref qtl) (C := R_Terms) (T := F_Terms) (N := 9) xe xb xt i_Terms xo xK xP 1 rfl rfl 3 (by decide) (xt _ mw_Printer_93) (fun _ h9 => h9) rfl d_Printer_addTag_16 ?_
      refine lv_iload_n xe xb d_Printer_addTag_19 rfl (lv_at xl 1 rfl) ?_
      refine tk_iald xe xb xK xP 5 0 rfl rfl (by omega) d_Printer_addTag_20 ?_
      have hr_6 := tI_rg TL t
      refine tk_icmp_ge (tgt := 46) xe xb d_Printer_addTag_21 (by decide) (by omega) (fun c_7 => ?_) (fun c_7 => ?_)
      · exact xret _ _ _ _ (nv, fv, sv) d_Printer_addTag_46 (by first | exact (Pw_cast HC (by rw [show i = tI TL t by omega])) | (dsimp only; exact (Pw_cast HC (by rw [show i = tI TL t by omega])))) xP xD xS
      · refine lv_aload_n xe xb d_Printer_addTag_24 rfl (lv_at xl 0 rfl) ?_
        refine va_get (D := D) (ci := 4) (v := .ref hpd) (C := R_Printer) (T := F_Printer) (N := 6) xe xb xt i_Printer xo xK xP 0 rfl rfl 2 (by decide) (xt _ mw_Printer_24) (fun _ h9 => h9) rfl d_Printer_addTag_25 ?_
        refine lv_aload_n xe xb d_Printer_addTag_28 rfl (lv_at xl 0 rfl) ?_
        refine va_get (D := D) (ci := 4) (v := .ref hT) (C := R_Printer) (T := F_Printer) (N := 6) xe xb xt i_Printer xo xK xP 0 rfl rfl 0 (by decide) (xt _ mw_Printer_9) (fun _ h9 => h9) rfl d_Printer_addTag_29 ?_
        refine lv_iload_n xe xb d_Printer_addTag_32 rfl (lv_at xl 1 rfl) ?_
        refine lv_iload_n xe xb d_Printer_addTag_33 rfl (lv_at xl 2 rfl) ?_
        refine tk_callVi (As := [.int (iI t), .int (iI i)]) (rest := [.ref hpd]) (wr := [(hpr, .inr (4, [.ref hT, .ref hQ, .ref hpd, .ref qst, .ref qor, .int (iI pz)])), (hpd, .inr (0, [.ref qpd, .int (iI nv), .int (iI sv)])), (qpd, .inl (cI, 3000, .inl fv))]) (wn := fun u => [(hpr, .inr (4, [.ref hT, .ref hQ, .ref hpd, .ref qst, .ref qor, .int (iI pz)])), (hT, .inr (1, [.ref qk, .ref ql, .ref qc, .ref qtl, .ref qtg, .ref qty, .int (iI sz), .int (iI fr), .int (iI fl)])), (qk, .inl (cI, 120, .inl K)), (ql, .inl (cI, 120, .inl Ln)), (qc, .inl (cI, 4800, .inl C)), (qtl, .inl (cI, 120, .inl TL)), (qtg, .inl (cI, 1920, .inl TG)), (qty, .inl (cI, 120, .inl TY)), (hpd, .inr (0, [.ref qpd, .int (iI nv), .int (iI sv)])), (qpd, .inl (cI, 3000, .inl fv))]) ⟨xe, xb, xml, xo, xt⟩ (c_Terms_tagAt l D cI hT qk ql qc qtl qtg qty K Ln C TL TG TY sz fr fl t i (by first | assumption | omega) (by first | assumption | omega) (by first | assumption | omega)) k_Terms_tagAt mw_Printer_102 ⟨Nat.le_of_ble_eq_true rfl, Nat.le_of_ble_eq_true rfl⟩ xK xP xD xS xA rfl xl.1 rfl (Nat.le_of_ble_eq_true rfl) d_Printer_addTag_34 ⟨Nat.zero_le _, Nat.zero_le _⟩ [1, 2, 3, 4, 5, 6, 7] [0, 8, 9] [0, 3, 4, 5, 6, 7, 8, 9, 1, 2] rfl rfl (by decide) (by decide) (by decide) (by decide) (fun _ => rfl) rfl rfl rfl ?_
        clear xP xD xS
        intro z_9 u H locs hr_10 hw_8 xP xD xS
        try dsimp only at hw_8
        replace xP : va_P D classes [(hpr, .inr (4, [.ref hT, .ref hQ, .ref hpd, .ref qst, .ref qor, .int (iI pz)])), (hT, .inr (1, [.ref qk, .ref ql, .ref qc, .ref qtl, .ref qtg, .ref qty, .int (iI sz), .int (iI fr), .int (iI fl)])), (qk, .inl (cI, 120, .inl K)), (ql, .inl (cI, 120, .inl Ln)), (qc, .inl (cI, 4800, .inl C)), (qtl, .inl (cI, 120, .inl TL)), (qtg, .inl (cI, 1920, .inl TG)), (qty, .inl (cI, 120, .inl TY)), (hpd, .inr (0, [.ref qpd, .int (iI nv), .int (iI sv)])), (qpd, .inl (cI, 3000, .inl fv))] H := xP
        replace xD : va_D xA0 [(hpr, .inr (4, [.ref hT, .ref hQ, .ref hpd, .ref qst, .ref qor, .int (iI pz)])), (hT, .inr (1, [.ref qk, .ref ql, .ref qc, .ref qtl, .ref qtg, .ref qty, .int (iI sz), .int (iI fr), .int (iI fl)])), (qk, .inl (cI, 120, .inl K)), (ql, .inl (cI, 120, .inl Ln)), (qc, .inl (cI, 4800, .inl C)), (qtl, .inl (cI, 120, .inl TL)), (qtg, .inl (cI, 1920, .inl TG)), (qty, .inl (cI, 120, .inl TY)), (hpd, .inr (0, [.ref qpd, .int (iI nv), .int (iI sv)])), (qpd, .inl (cI, 3000, .inl fv))] := xD
        have HG := hw_8
        rw [if_pos (by omega)] at HG
        refine tk_callVv (As := [.int (iI z_9)]) (rest := []) (wr := [(hpr, .inr (4, [.ref hT, .ref hQ, .ref hpd, .ref qst, .ref qor, .int (iI pz)])), (hT, .inr (1, [.ref qk, .ref ql, .ref qc, .ref qtl, .ref qtg, .ref qty, .int (iI sz), .int (iI fr), .int (iI fl)])), (qk, .inl (cI, 120, .inl K)), (ql, .inl (cI, 120, .inl Ln)), (qc, .inl (cI, 4800, .inl C)), (qtl, .inl (cI, 120, .inl TL)), (qtg, .inl (cI, 1920, .inl TG)), (qty, .inl (cI, 120, .inl TY))]) (wn := fun u => [(hpr, .inr (4, [.ref hT, .ref hQ, .ref hpd, .ref qst, .ref qor, .int (iI pz)])), (hT, .inr (1, [.ref qk, .ref ql, .ref qc, .ref qtl, .ref qtg, .ref qty, .int (iI sz), .int (iI fr), .int (iI fl)])), (qk, .inl (cI, 120, .inl K)), (ql, .inl (cI, 120, .inl Ln)), (qc, .inl (cI, 4800, .inl C)), (qtl, .inl (cI, 120, .inl TL)), (qtg, .inl (cI, 1920, .inl TG)), (qty, .inl (cI, 120, .inl TY)), (hpd, .inr (0, [.ref qpd, .int (iI u.1), .int (iI u.2.2)])), (qpd, .inl (cI, 3000, .inl u.2.1))]) ⟨xe, xb, xml, xo, xt⟩ (c_Row_addP l D cI hpd qpd nv fv sv z_9 (by first | assumption | omega) (by first | assumption | omega)) k_Row_add mw_Printer_59 ⟨Nat.le_of_ble_eq_true rfl, Nat.le_of_ble_eq_true rfl⟩ xK xP xD xS xA rfl xl.1 rfl (Nat.le_of_ble_eq_true rfl) d_Printer_addTag_37 ⟨Nat.zero_le _, Nat.zero_le _⟩ [8, 9] [0, 1, 2, 3, 4, 5, 6, 7] [0, 1, 2, 3, 4, 5, 6, 7, 8, 9] rfl rfl (by decide) (by decide) (by decide) (by decide) (fun _ => rfl) rfl rfl rfl ?_
        clear xP xD xS
        intro u H locs hw_14 xP xD xS
        obtain ⟨n2_11, f2_12, sp2_13⟩ := u
        try dsimp only at hw_14
        replace xP : va_P D classes [(hpr, .inr (4, [.ref hT, .ref hQ, .ref hpd, .ref qst, .ref qor, .int (iI pz)])), (hT, .inr (1, [.ref qk, .ref ql, .ref qc, .ref qtl, .ref qtg, .ref qty, .int (iI sz), .int (iI fr), .int (iI fl)])), (qk, .inl (cI, 120, .inl K)), (ql, .inl (cI, 120, .inl Ln)), (qc, .inl (cI, 4800, .inl C)), (qtl, .inl (cI, 120, .inl TL)), (qtg, .inl (cI, 1920, .inl TG)), (qty, .inl (cI, 120, .inl TY)), (hpd, .inr (0, [.ref qpd, .int (iI n2_11), .int (iI sp2_13)])), (qpd, .inl (cI, 3000, .inl f2_12))] H := xP
        replace xD : va_D xA0 [(hpr, .inr (4, [.ref hT, .ref hQ, .ref hpd, .ref qst, .ref qor, .int (iI pz)])), (hT, .inr (1, [.ref qk, .ref ql, .ref qc, .ref qtl, .ref qtg, .ref qty, .int (iI sz), .int (iI fr), .int (iI fl)])), (qk, .inl (cI, 120, .inl K)), (ql, .inl (cI, 120, .inl Ln)), (qc, .inl (cI, 4800, .inl C)), (qtl, .inl (cI, 120, .inl TL)), (qtg, .inl (cI, 1920, .inl TG)), (qty, .inl (cI, 120, .inl TY)), (hpd, .inr (0, [.ref qpd, .int (iI n2_11), .int (iI sp2_13)])), (qpd, .inl (cI, 3000, .inl f2_12))] := xD
        replace HC := Pw_trans hn.1 HC hw_14
        have hgr := Pw_rg HC
        clear hw_14
        refine tk_iinc (v := (i + 1)) (lv' := [(2, .int (iI (i + 1))), (0, .ref hpr), (1, .int (iI t))]) xe xb d_Printer_addTag_40 xl (k := 2) rfl rfl (by decide) rfl ?_
        clear xl
        intro ls xl
        refine lv_goto (tgt := 11) xe xb d_Printer_addTag_43 (by decide) ?_
        exact ih_11 (i + 1) n2_11 f2_12 sp2_13 (by omega) (by first | assumption | omega) (Pw_cast HC (by rw [seg_succ hi.1, ← HG]; rfl)) _ _ xP xD xS ls (lv_sub xl [1, 2, 0] rfl)
  exact loop_11 _ 0 n2_1 f2_2 sp2_3 (Nat.lt_succ_self _) ⟨Int.le_refl 0, htt.2.2.1⟩ HC _ _ xP xD xS ls (lv_sub xl [1, 2, 0] rfl)
set_option maxHeartbeats 4000000 in
set_option maxRecDepth 100000 in
theorem c_Printer_addCodes (l : Launch) (D : va_G) (cI : ClassId) (hpr : Nat) (hT : Nat) (hQ : Nat) (hpd : Nat) (qst : Nat) (qor : Nat) (pz : Int) (qk : Nat) (ql : Nat) (qc : Nat) (qtl : Nat) (qtg : Nat) (qty : Nat) (K : Nat → Int32) (Ln : Nat → Int32) (C : Nat → Int32) (TL : Nat → Int32) (TG : Nat → Int32) (TY : Nat → Int32) (sz : Int) (fr : Int) (fl : Int) (qpd : Nat) (n : Int) (f : Nat → Int32) (sp : Int) (t : Int) (hn : 0 ≤ n ∧ n ≤ 3000) (hs : tOk Ln TL sz) (ht : 0 ≤ t ∧ t < sz) : CtV l D [(cI, .int)] y_Printer_addCodes b_Printer_addCodes 6 2 [.ref hpr, .int (iI t)] [(hpr, .inr (4, [.ref hT, .ref hQ, .ref hpd, .ref qst, .ref qor, .int (iI pz)])), (hT, .inr (1, [.ref qk, .ref ql, .ref qc, .ref qtl, .ref qtg, .ref qty, .int (iI sz), .int (iI fr), .int (iI fl)])), (qk, .inl (cI, 120, .inl K)), (ql, .inl (cI, 120, .inl Ln)), (qc, .inl (cI, 4800, .inl C)), (qtl, .inl (cI, 120, .inl TL)), (qtg, .inl (cI, 1920, .inl TG)), (qty, .inl (cI, 120, .inl TY)), (hpd, .inr (0, [.ref qpd, .int (iI n), .int (iI sp)])), (qpd, .inl (cI, 3000, .inl f))] (S := Int × (Nat → Int32) × Int) (fun u => Pw u.1 u.2.1 u.2.2 n f sp (tcd ((tmAt K Ln C TL TG TY) t))) (fun u => [(hpr, .inr (4, [.ref hT, .ref hQ, .ref hpd, .ref qst, .ref qor, .int (iI pz)])), (hT, .inr (1, [.ref qk, .ref ql, .ref qc, .ref qtl, .ref qtg, .ref qty, .int (iI sz), .int (iI fr), .int (iI fl)])), (qk, .inl (cI, 120, .inl K)), (ql, .inl (cI, 120, .inl Ln)), (qc, .inl (cI, 4800, .inl C)), (qtl, .inl (cI, 120, .inl TL)), (qtg, .inl (cI, 1920, .inl TG)), (qty, .inl (cI, 120, .inl TY)), (hpd, .inr (0, [.ref qpd, .int (iI u.1), .int (iI u.2.2)])), (qpd, .inl (cI, 3000, .inl u.2.1))]) := by
  refine CtV.walk (by decide) (Nat.le_of_ble_eq_true rfl) ?_
  intro xp xe0 xs xm xar xbelow xmeth xc xA0 xQ xe xb xml xo xt xP xK xD xA xret ls xl xS
  have xl : lv_has ls 6 [(0, .ref hpr), (1, .int (iI t))] := xl
  have xo : xs.vm.findClass R_Printer = some xm.cls := xo
  have HC := Pw_nil (s := sp) (f := f) hn
  have hz : 0 ≤ sz ∧ sz ≤ 120 := ⟨hs.1, hs.2.1⟩
  have htt := hs.2.2 t ht.1 ht.2
  refine lv_aload_n xe xb d_Printer_addCodes_0 rfl (lv_at xl 0 rfl) ?_
  refine va_get (D := D) (ci := 4) (v := .ref hT) (C := R_Printer) (T := F_Printer) (N := 6) xe xb xt i_Printer xo xK xP 0 rfl rfl 0 (by decide) (xt _ mw_Printer_9) (fun _ h9 => h9) rfl d_Printer_addCodes_1 ?_
  refine va_get (D := D) (ci := 1) (v := .ref qk) (C := R_Terms) (T := F_Terms) (N := 9) xe xb xt i_Terms xo xK xP 1 rfl rfl 0 (by decide) (xt _ mw_Printer_84) (fun _ h9 => h9) rfl d_Printer_addCodes_4 ?_
  refine lv_iload_n xe xb d_Printer_addCodes_7 rfl (lv_at xl 1 rfl) ?_
  refine tk_iald xe xb xK xP 2 0 rfl rfl (by omega) d_Printer_addCodes_8 ?_
  have hr_1 := tI_rg K t
  refine lv_iconst (v := iI (2)) xe xb d_Printer_addCodes_9 rfl ?_
  refine tk_icmp_ne (tgt := 17) xe xb d_Printer_addCodes_10 (by decide) (by omega) (fun C10 => ?_) (fun C10 => ?_)
  · refine lv_iconst (v := iI (0)) xe xb d_Printer_addCodes_17 rfl ?_
    refine lv_istore_n (lv' := [(2, .int (iI 0)), (0, .ref hpr), (1, .int (iI t))]) xe xb d_Printer_addCodes_18 rfl xl (by decide) rfl ?_
    clear xl
    intro ls xl
    refine lv_aload_n xe xb d_Printer_addCodes_19 rfl (lv_at xl 1 rfl) ?_
    refine va_get (D := D) (ci := 4) (v := .ref hpd) (C := R_Printer) (T := F_Printer) (N := 6) xe xb xt i_Printer xo xK xP 0 rfl rfl 2 (by decide) (xt _ mw_Printer_24) (fun _ h9 => h9) rfl d_Printer_addCodes_20 ?_
    refine lv_iload_n xe xb d_Printer_addCodes_23 rfl (lv_at xl 0 rfl) ?_
    refine tk_if_eq (tgt := 32) xe xb d_Printer_addCodes_24 (by decide) (by omega) (fun c_2 => ?_) (fun c_2 => absurd c_2 (by omega))
    refine lv_bipush (v := iI (60)) xe xb d_Printer_addCodes_32 (by decide) ?_
    refine tk_callVv (As := [.int (iI 60)]) (rest := []) (wr := [(hpr, .inr (4, [.ref hT, .ref hQ, .ref hpd, .ref qst, .ref qor, .int (iI pz)])), (hT, .inr (1, [.ref qk, .ref ql, .ref qc, .ref qtl, .ref qtg, .ref qty, .int (iI sz), .int (iI fr), .int (iI fl)])), (qk, .inl (cI, 120, .inl K)), (ql, .inl (cI, 120, .inl Ln)), (qc, .inl (cI, 4800, .inl C)), (qtl, .inl (cI, 120, .inl TL)), (qtg, .inl (cI, 1920, .inl TG)), (qty, .inl (cI, 120, .inl TY))]) (wn := fun u => [(hpr, .inr (4, [.ref hT, .ref hQ, .ref hpd, .ref qst, .ref qor, .int (iI pz)])), (hT, .inr (1, [.ref qk, .ref ql, .ref qc, .ref qtl, .ref qtg, .ref qty, .int (iI sz), .int (iI fr), .int (iI fl)])), (qk, .inl (cI, 120, .inl K)), (ql, .inl (cI, 120, .inl Ln)), (qc, .inl (cI, 4800, .inl C)), (qtl, .inl (cI, 120, .inl TL)), (qtg, .inl (cI, 1920, .inl TG)), (qty, .inl (cI, 120, .inl TY)), (hpd, .inr (0, [.ref qpd, .int (iI u.1), .int (iI u.2.2)])), (qpd, .inl (cI, 3000, .inl u.2.1))]) ⟨xe, xb, xml, xo, xt⟩ (c_Row_addP l D cI hpd qpd n f sp 60 (by first | assumption | omega) (by first | assumption | omega)) k_Row_add mw_Printer_59 ⟨Nat.le_of_ble_eq_true rfl, Nat.le_of_ble_eq_true rfl⟩ xK xP xD xS xA rfl xl.1 rfl (Nat.le_of_ble_eq_true rfl) d_Printer_addCodes_34 ⟨Nat.zero_le _, Nat.zero_le _⟩ [8, 9] [0, 1, 2, 3, 4, 5, 6, 7] [0, 1, 2, 3, 4, 5, 6, 7, 8, 9] rfl rfl (by decide) (by decide) (by decide) (by decide) (fun _ => rfl) rfl rfl rfl ?_
    clear xP xD xS
    intro u H locs hw_6 xP xD xS
    obtain ⟨n2_3, f2_4, sp2_5⟩ := u
    try dsimp only at hw_6
    replace xP : va_P D classes [(hpr, .inr (4, [.ref hT, .ref hQ, .ref hpd, .ref qst, .ref qor, .int (iI pz)])), (hT, .inr (1, [.ref qk, .ref ql, .ref qc, .ref qtl, .ref qtg, .ref qty, .int (iI sz), .int (iI fr), .int (iI fl)])), (qk, .inl (cI, 120, .inl K)), (ql, .inl (cI, 120, .inl Ln)), (qc, .inl (cI, 4800, .inl C)), (qtl, .inl (cI, 120, .inl TL)), (qtg, .inl (cI, 1920, .inl TG)), (qty, .inl (cI, 120, .inl TY)), (hpd, .inr (0, [.ref qpd, .int (iI n2_3), .int (iI sp2_5)])), (qpd, .inl (cI, 3000, .inl f2_4))] H := xP
    replace xD : va_D xA0 [(hpr, .inr (4, [.ref hT, .ref hQ, .ref hpd, .ref qst, .ref qor, .int (iI pz)])), (hT, .inr (1, [.ref qk, .ref ql, .ref qc, .ref qtl, .ref qtg, .ref qty, .int (iI sz), .int (iI fr), .int (iI fl)])), (qk, .inl (cI, 120, .inl K)), (ql, .inl (cI, 120, .inl Ln)), (qc, .inl (cI, 4800, .inl C)), (qtl, .inl (cI, 120, .inl TL)), (qtg, .inl (cI, 1920, .inl TG)), (qty, .inl (cI, 120, .inl TY)), (hpd, .inr (0, [.ref qpd, .int (iI n2_3), .int (iI sp2_5)])), (qpd, .inl (cI, 3000, .inl f2_4))] := xD
    replace HC := Pw_trans hn.1 HC hw_6
    have hgr := Pw_rg HC
    clear hw_6
    refine lv_iconst (v := iI (0)) xe xb d_Printer_addCodes_37 rfl ?_
    refine lv_istore_n (lv' := [(3, .int (iI 0)), (2, .int (iI 0)), (0, .ref hpr), (1, .int (iI t))]) xe xb d_Printer_addCodes_38 rfl xl (by decide) rfl ?_
    clear xl
    intro ls xl
    have loop_39 : ∀ (n9 : Nat) (o : Int) (b : Int) (i : Int) (nv : Int) (fv : Nat → Int32) (sv : Int), (40 - i).toNat < n9 → ((b = 1 ∧ o = 34 ∧ tI K t = 2) ∨ (b = 0 ∧ o = 60 ∧ tI K t ≠ 2)) → (0 ≤ i ∧ i ≤ tI Ln t) → (Pw nv fv sv n f sp (o :: cts b (seg C (t * 40) i))) → ∀ (H : Heap) (locs : List Loc), va_P D classes [(hpr, .inr (4, [.ref hT, .ref hQ, .ref hpd, .ref qst, .ref qor, .int (iI pz)])), (hT, .inr (1, [.ref qk, .ref ql, .ref qc, .ref qtl, .ref qtg, .ref qty, .int (iI sz), .int (iI fr), .int (iI fl)])), (qk, .inl (cI, 120, .inl K)), (ql, .inl (cI, 120, .inl Ln)), (qc, .inl (cI, 4800, .inl C)), (qtl, .inl (cI, 120, .inl TL)), (qtg, .inl (cI, 1920, .inl TG)), (qty, .inl (cI, 120, .inl TY)), (hpd, .inr (0, [.ref qpd, .int (iI nv), .int (iI sv)])), (qpd, .inl (cI, 3000, .inl fv))] H → va_D xA0 [(hpr, .inr (4, [.ref hT, .ref hQ, .ref hpd, .ref qst, .ref qor, .int (iI pz)])), (hT, .inr (1, [.ref qk, .ref ql, .ref qc, .ref qtl, .ref qtg, .ref qty, .int (iI sz), .int (iI fr), .int (iI fl)])), (qk, .inl (cI, 120, .inl K)), (ql, .inl (cI, 120, .inl Ln)), (qc, .inl (cI, 4800, .inl C)), (qtl, .inl (cI, 120, .inl TL)), (qtg, .inl (cI, 1920, .inl TG)), (qty, .inl (cI, 120, .inl TY)), (hpd, .inr (0, [.ref qpd, .int (iI nv), .int (iI sv)])), (qpd, .inl (cI, 3000, .inl fv))] → va_S xA0 xs.heap H locs → ∀ ls : Array Slot, lv_has ls 6 [(0, .ref hpr), (1, .int (iI t)), (2, .int (iI b)), (3, .int (iI i))] → W xp l xe0 (tk_rm 2) xs xm xar xbelow xmeth xc H locs 0 0 xQ (F0 xm 39 ls []) := by
      intro n9
      induction n9 with
      | zero => intro o b i nv fv sv h9; exact absurd h9 (Nat.not_lt_zero _)
      | succ n9 ih9 =>
        intro o b i nv fv sv hm9 hb hi hP H locs xP xD xS ls xl
        have ih_39 := ih9
        have hm_39 := hm9
        have HC := hP
        have hgr := Pw_rg HC
        refine lv_iload_n xe xb d_Printer_addCodes_39 rfl (lv_at xl 3 rfl) ?_
        refine lv_aload_n xe xb d_Printer_addCodes_40 rfl (lv_at xl 0 rfl) ?_
        refine va_get (D := D) (ci := 4) (v := .ref hT) (C := R_Printer) (T := F_Printer) (N := 6) xe xb xt i_Printer xo xK xP 0 rfl rfl 0 (by decide) (xt _ mw_Printer_9) (fun _ h9 => h9) rfl d_Printer_addCodes_41 ?_
        refine va_get (D := D) (ci := 1) (v := .ref ql) (C := R_Terms) (T := F_Terms) (N := 9) xe xb xt i_Terms xo xK xP 1 rfl rfl 1 (by decide) (xt _ mw_Printer_105) (fun _ h9 => h9) rfl d_Printer_addCodes_44 ?_
        refine lv_iload_n xe xb d_Printer_addCodes_47 rfl (lv_at xl 1 rfl) ?_
        refine tk_iald xe xb xK xP 3 0 rfl rfl (by omega) d_Printer_addCodes_48 ?_
        have hr_8 := tI_rg Ln t
        refine tk_icmp_ge (tgt := 143) xe xb d_Printer_addCodes_49 (by decide) (by omega) (fun c_9 => ?_) (fun c_9 => ?_)
        · refine lv_aload_n xe xb d_Printer_addCodes_143 rfl (lv_at xl 0 rfl) ?_
          refine va_get (D := D) (ci := 4) (v := .ref hpd) (C := R_Printer) (T := F_Printer) (N := 6) xe xb xt i_Printer xo xK xP 0 rfl rfl 2 (by decide) (xt _ mw_Printer_24) (fun _ h9 => h9) rfl d_Printer_addCodes_144 ?_
          refine lv_iload_n xe xb d_Printer_addCodes_147 rfl (lv_at xl 2 rfl) ?_
          refine tk_if_eq (tgt := 156) xe xb d_Printer_addCodes_148 (by decide) (by omega) (fun c_10 => ?_) (fun c_10 => ?_)
          · refine lv_bipush (v := iI (62)) xe xb d_Printer_addCodes_156 (by decide) ?_
            refine tk_callVv (As := [.int (iI 62)]) (rest := []) (wr := [(hpr, .inr (4, [.ref hT, .ref hQ, .ref hpd, .ref qst, .ref qor, .int (iI pz)])), (hT, .inr (1, [.ref qk, .ref ql, .ref qc, .ref qtl, .ref qtg, .ref qty, .int (iI sz), .int (iI fr), .int (iI fl)])), (qk, .inl (cI, 120, .inl K)), (ql, .inl (cI, 120, .inl Ln)), (qc, .inl (cI, 4800, .inl C)), (qtl, .inl (cI, 120, .inl TL)), (qtg, .inl (cI, 1920, .inl TG)), (qty, .inl (cI, 120, .inl TY))]) (wn := fun u => [(hpr, .inr (4, [.ref hT, .ref hQ, .ref hpd, .ref qst, .ref qor, .int (iI pz)])), (hT, .inr (1, [.ref qk, .ref ql, .ref qc, .ref qtl, .ref qtg, .ref qty, .int (iI sz), .int (iI fr), .int (iI fl)])), (qk, .inl (cI, 120, .inl K)), (ql, .inl (cI, 120, .inl Ln)), (qc, .inl (cI, 4800, .inl C)), (qtl, .inl (cI, 120, .inl TL)), (qtg, .inl (cI, 1920, .inl TG)), (qty, .inl (cI, 120, .inl TY)), (hpd, .inr (0, [.ref qpd, .int (iI u.1), .int (iI u.2.2)])), (qpd, .inl (cI, 3000, .inl u.2.1))]) ⟨xe, xb, xml, xo, xt⟩ (c_Row_addP l D cI hpd qpd nv fv sv 62 (by first | assumption | omega) (by first | assumption | omega)) k_Row_add mw_Printer_59 ⟨Nat.le_of_ble_eq_true rfl, Nat.le_of_ble_eq_true rfl⟩ xK xP xD xS xA rfl xl.1 rfl (Nat.le_of_ble_eq_true rfl) d_Printer_addCodes_158 ⟨Nat.zero_le _, Nat.zero_le _⟩ [8, 9] [0, 1, 2, 3, 4, 5, 6, 7] [0, 1, 2, 3, 4, 5, 6, 7, 8, 9] rfl rfl (by decide) (by decide) (by decide) (by decide) (fun _ => rfl) rfl rfl rfl ?_
            clear xP xD xS
            intro u H locs hw_14 xP xD xS
            obtain ⟨n2_11, f2_12, sp2_13⟩ := u
            try dsimp only at hw_14
            replace xP : va_P D classes [(hpr, .inr (4, [.ref hT, .ref hQ, .ref hpd, .ref qst, .ref qor, .int (iI pz)])), (hT, .inr (1, [.ref qk, .ref ql, .ref qc, .ref qtl, .ref qtg, .ref qty, .int (iI sz), .int (iI fr), .int (iI fl)])), (qk, .inl (cI, 120, .inl K)), (ql, .inl (cI, 120, .inl Ln)), (qc, .inl (cI, 4800, .inl C)), (qtl, .inl (cI, 120, .inl TL)), (qtg, .inl (cI, 1920, .inl TG)), (qty, .inl (cI, 120, .inl TY)), (hpd, .inr (0, [.ref qpd, .int (iI n2_11), .int (iI sp2_13)])), (qpd, .inl (cI, 3000, .inl f2_12))] H := xP
            replace xD : va_D xA0 [(hpr, .inr (4, [.ref hT, .ref hQ, .ref hpd, .ref qst, .ref qor, .int (iI pz)])), (hT, .inr (1, [.ref qk, .ref ql, .ref qc, .ref qtl, .ref qtg, .ref qty, .int (iI sz), .int (iI fr), .int (iI fl)])), (qk, .inl (cI, 120, .inl K)), (ql, .inl (cI, 120, .inl Ln)), (qc, .inl (cI, 4800, .inl C)), (qtl, .inl (cI, 120, .inl TL)), (qtg, .inl (cI, 1920, .inl TG)), (qty, .inl (cI, 120, .inl TY)), (hpd, .inr (0, [.ref qpd, .int (iI n2_11), .int (iI sp2_13)])), (qpd, .inl (cI, 3000, .inl f2_12))] := xD
            replace HC := Pw_trans hn.1 HC hw_14
            have hgr := Pw_rg HC
            clear hw_14
            exact xret _ _ _ _ (n2_11, f2_12, sp2_13) d_Printer_addCodes_161 (by first | exact (Pw_cast HC (by rw [show i = tI Ln t by omega]; rcases hb with ⟨h1, h2, h3⟩ | ⟨h1, h2, h3⟩; (first | (exfalso; omega) | (subst h1 h2; exact (if_pos h3).symm)); (first | (exfalso; omega) | (subst h1 h2; exact (if_neg h3).symm)))) | (dsimp only; exact (Pw_cast HC (by rw [show i = tI Ln t by omega]; rcases hb with ⟨h1, h2, h3⟩ | ⟨h1, h2, h3⟩; (first | (exfalso; omega) | (subst h1 h2; exact (if_pos h3).symm)); (first | (exfalso; omega) | (subst h1 h2; exact (if_neg h3).symm)))))) xP xD xS
          · refine lv_bipush (v := iI (34)) xe xb d_Printer_addCodes_151 (by decide) ?_
            refine lv_goto (tgt := 158) xe xb d_Printer_addCodes_153 (by decide) ?_
            refine tk_callVv (As := [.int (iI 34)]) (rest := []) (wr := [(hpr, .inr (4, [.ref hT, .ref hQ, .ref hpd, .ref qst, .ref qor, .int (iI pz)])), (hT, .inr (1, [.ref qk, .ref ql, .ref qc, .ref qtl, .ref qtg, .ref qty, .int (iI sz), .int (iI fr), .int (iI fl)])), (qk, .inl (cI, 120, .inl K)), (ql, .inl (cI, 120, .inl Ln)), (qc, .inl (cI, 4800, .inl C)), (qtl, .inl (cI, 120, .inl TL)), (qtg, .inl (cI, 1920, .inl TG)), (qty, .inl (cI, 120, .inl TY))]) (wn := fun u => [(hpr, .inr (4, [.ref hT, .ref hQ, .ref hpd, .ref qst, .ref qor, .int (iI pz)])), (hT, .inr (1, [.ref qk, .ref ql, .ref qc, .ref qtl, .ref qtg, .ref qty, .int (iI sz), .int (iI fr), .int (iI fl)])), (qk, .inl (cI, 120, .inl K)), (ql, .inl (cI, 120, .inl Ln)), (qc, .inl (cI, 4800, .inl C)), (qtl, .inl (cI, 120, .inl TL)), (qtg, .inl (cI, 1920, .inl TG)), (qty, .inl (cI, 120, .inl TY)), (hpd, .inr (0, [.ref qpd, .int (iI u.1), .int (iI u.2.2)])), (qpd, .inl (cI, 3000, .inl u.2.1))]) ⟨xe, xb, xml, xo, xt⟩ (c_Row_addP l D cI hpd qpd nv fv sv 34 (by first | assumption | omega) (by first | assumption | omega)) k_Row_add mw_Printer_59 ⟨Nat.le_of_ble_eq_true rfl, Nat.le_of_ble_eq_true rfl⟩ xK xP xD xS xA rfl xl.1 rfl (Nat.le_of_ble_eq_true rfl) d_Printer_addCodes_158 ⟨Nat.zero_le _, Nat.zero_le _⟩ [8, 9] [0, 1, 2, 3, 4, 5, 6, 7] [0, 1, 2, 3, 4, 5, 6, 7, 8, 9] rfl rfl (by decide) (by decide) (by decide) (by decide) (fun _ => rfl) rfl rfl rfl ?_
            clear xP xD xS
            intro u H locs hw_19 xP xD xS
            obtain ⟨n2_16, f2_17, sp2_18⟩ := u
            try dsimp only at hw_19
            replace xP : va_P D classes [(hpr, .inr (4, [.ref hT, .ref hQ, .ref hpd, .ref qst, .ref qor, .int (iI pz)])), (hT, .inr (1, [.ref qk, .ref ql, .ref qc, .ref qtl, .ref qtg, .ref qty, .int (iI sz), .int (iI fr), .int (iI fl)])), (qk, .inl (cI, 120, .inl K)), (ql, .inl (cI, 120, .inl Ln)), (qc, .inl (cI, 4800, .inl C)), (qtl, .inl (cI, 120, .inl TL)), (qtg, .inl (cI, 1920, .inl TG)), (qty, .inl (cI, 120, .inl TY)), (hpd, .inr (0, [.ref qpd, .int (iI n2_16), .int (iI sp2_18)])), (qpd, .inl (cI, 3000, .inl f2_17))] H := xP
            replace xD : va_D xA0 [(hpr, .inr (4, [.ref hT, .ref hQ, .ref hpd, .ref qst, .ref qor, .int (iI pz)])), (hT, .inr (1, [.ref qk, .ref ql, .ref qc, .ref qtl, .ref qtg, .ref qty, .int (iI sz), .int (iI fr), .int (iI fl)])), (qk, .inl (cI, 120, .inl K)), (ql, .inl (cI, 120, .inl Ln)), (qc, .inl (cI, 4800, .inl C)), (qtl, .inl (cI, 120, .inl TL)), (qtg, .inl (cI, 1920, .inl TG)), (qty, .inl (cI, 120, .inl TY)), (hpd, .inr (0, [.ref qpd, .int (iI n2_16), .int (iI sp2_18)])), (qpd, .inl (cI, 3000, .inl f2_17))] := xD
            replace HC := Pw_trans hn.1 HC hw_19
            have hgr := Pw_rg HC
            clear hw_19
            exact xret _ _ _ _ (n2_16, f2_17, sp2_18) d_Printer_addCodes_161 (by first | exact (Pw_cast HC (by rw [show i = tI Ln t by omega]; rcases hb with ⟨h1, h2, h3⟩ | ⟨h1, h2, h3⟩; (first | (exfalso; omega) | (subst h1 h2; exact (if_pos h3).symm)); (first | (exfalso; omega) | (subst h1 h2; exact (if_neg h3).symm)))) | (dsimp only; exact (Pw_cast HC (by rw [show i = tI Ln t by omega]; rcases hb with ⟨h1, h2, h3⟩ | ⟨h1, h2, h3⟩; (first | (exfalso; omega) | (subst h1 h2; exact (if_pos h3).symm)); (first | (exfalso; omega) | (subst h1 h2; exact (if_neg h3).symm)))))) xP xD xS
        · refine lv_aload_n xe xb d_Printer_addCodes_52 rfl (lv_at xl 0 rfl) ?_
          refine va_get (D := D) (ci := 4) (v := .ref hT) (C := R_Printer) (T := F_Printer) (N := 6) xe xb xt i_Printer xo xK xP 0 rfl rfl 0 (by decide) (xt _ mw_Printer_9) (fun _ h9 => h9) rfl d_Printer_addCodes_53 ?_
          refine lv_iload_n xe xb d_Printer_addCodes_56 rfl (lv_at xl 1 rfl) ?_
          refine lv_iload_n xe xb d_Printer_addCodes_57 rfl (lv_at xl 3 rfl) ?_
          refine tk_callVi (As := [.int (iI t), .int (iI i)]) (rest := []) (wr := [(hpr, .inr (4, [.ref hT, .ref hQ, .ref hpd, .ref qst, .ref qor, .int (iI pz)])), (hpd, .inr (0, [.ref qpd, .int (iI nv), .int (iI sv)])), (qpd, .inl (cI, 3000, .inl fv))]) (wn := fun u => [(hpr, .inr (4, [.ref hT, .ref hQ, .ref hpd, .ref qst, .ref qor, .int (iI pz)])), (hT, .inr (1, [.ref qk, .ref ql, .ref qc, .ref qtl, .ref qtg, .ref qty, .int (iI sz), .int (iI fr), .int (iI fl)])), (qk, .inl (cI, 120, .inl K)), (ql, .inl (cI, 120, .inl Ln)), (qc, .inl (cI, 4800, .inl C)), (qtl, .inl (cI, 120, .inl TL)), (qtg, .inl (cI, 1920, .inl TG)), (qty, .inl (cI, 120, .inl TY)), (hpd, .inr (0, [.ref qpd, .int (iI nv), .int (iI sv)])), (qpd, .inl (cI, 3000, .inl fv))]) ⟨xe, xb, xml, xo, xt⟩ (c_Terms_codeAt l D cI hT qk ql qc qtl qtg qty K Ln C TL TG TY sz fr fl t i (by first | assumption | omega) (by first | assumption | omega) (by first | assumption | omega)) k_Terms_codeAt mw_Printer_108 ⟨Nat.le_of_ble_eq_true rfl, Nat.le_of_ble_eq_true rfl⟩ xK xP xD xS xA rfl xl.1 rfl (Nat.le_of_ble_eq_true rfl) d_Printer_addCodes_58 ⟨Nat.zero_le _, Nat.zero_le _⟩ [1, 2, 3, 4, 5, 6, 7] [0, 8, 9] [0, 3, 4, 5, 6, 7, 8, 9, 1, 2] rfl rfl (by decide) (by decide) (by decide) (by decide) (fun _ => rfl) rfl rfl rfl ?_
          clear xP xD xS
          intro z_22 u H locs hr_23 hw_21 xP xD xS
          try dsimp only at hw_21
          replace xP : va_P D classes [(hpr, .inr (4, [.ref hT, .ref hQ, .ref hpd, .ref qst, .ref qor, .int (iI pz)])), (hT, .inr (1, [.ref qk, .ref ql, .ref qc, .ref qtl, .ref qtg, .ref qty, .int (iI sz), .int (iI fr), .int (iI fl)])), (qk, .inl (cI, 120, .inl K)), (ql, .inl (cI, 120, .inl Ln)), (qc, .inl (cI, 4800, .inl C)), (qtl, .inl (cI, 120, .inl TL)), (qtg, .inl (cI, 1920, .inl TG)), (qty, .inl (cI, 120, .inl TY)), (hpd, .inr (0, [.ref qpd, .int (iI nv), .int (iI sv)])), (qpd, .inl (cI, 3000, .inl fv))] H := xP
          replace xD : va_D xA0 [(hpr, .inr (4, [.ref hT, .ref hQ, .ref hpd, .ref qst, .ref qor, .int (iI pz)])), (hT, .inr (1, [.ref qk, .ref ql, .ref qc, .ref qtl, .ref qtg, .ref qty, .int (iI sz), .int (iI fr), .int (iI fl)])), (qk, .inl (cI, 120, .inl K)), (ql, .inl (cI, 120, .inl Ln)), (qc, .inl (cI, 4800, .inl C)), (qtl, .inl (cI, 120, .inl TL)), (qtg, .inl (cI, 1920, .inl TG)), (qty, .inl (cI, 120, .inl TY)), (hpd, .inr (0, [.ref qpd, .int (iI nv), .int (iI sv)])), (qpd, .inl (cI, 3000, .inl fv))] := xD
          have HG := hw_21
          rw [if_pos (by omega)] at HG
          refine lv_istore (lv' := [(4, .int (iI z_22)), (0, .ref hpr), (1, .int (iI t)), (2, .int (iI b)), (3, .int (iI i))]) xe xb d_Printer_addCodes_61 xl (by decide) rfl ?_
          clear xl
          intro ls xl
          refine lv_iload_n xe xb d_Printer_addCodes_63 rfl (lv_at xl 3 rfl) ?_
          refine tk_if_eq (tgt := 75) xe xb d_Printer_addCodes_64 (by decide) (by omega) (fun c_24 => ?_) (fun c_24 => ?_)
          · refine lv_iconst (v := iI (-1)) xe xb d_Printer_addCodes_75 rfl ?_
            refine lv_istore (lv' := [(5, .int (iI (-1))), (4, .int (iI z_22)), (0, .ref hpr), (1, .int (iI t)), (2, .int (iI b)), (3, .int (iI i))]) xe xb d_Printer_addCodes_76 xl (by decide) rfl ?_
            clear xl
            intro ls xl
            refine lv_iload xe xb d_Printer_addCodes_78 (lv_at xl 0 rfl) ?_
            refine lv_iconst (v := iI (-1)) xe xb d_Printer_addCodes_80 rfl ?_
            refine tk_icmp_eq (tgt := 105) xe xb d_Printer_addCodes_81 (by decide) (by omega) (fun C81 => ?_) (fun C81 => absurd C81 (by omega))
            refine lv_iload xe xb d_Printer_addCodes_105 (lv_at xl 1 rfl) ?_
            refine lv_bipush (v := iI (32)) xe xb d_Printer_addCodes_107 (by decide) ?_
            refine tk_icmp_lt (tgt := 131) xe xb d_Printer_addCodes_109 (by decide) (by omega) (fun c_25 => ?_) (fun c_25 => ?_)
            · refine lv_aload_n xe xb d_Printer_addCodes_131 rfl (lv_at xl 2 rfl) ?_
              refine lv_iload xe xb d_Printer_addCodes_132 (lv_at xl 1 rfl) ?_
              refine tk_callVv (As := [.int (iI z_22)]) (rest := []) (wr := [(hT, .inr (1, [.ref qk, .ref ql, .ref qc, .ref qtl, .ref qtg, .ref qty, .int (iI sz), .int (iI fr), .int (iI fl)])), (qk, .inl (cI, 120, .inl K)), (ql, .inl (cI, 120, .inl Ln)), (qc, .inl (cI, 4800, .inl C)), (qtl, .inl (cI, 120, .inl TL)), (qtg, .inl (cI, 1920, .inl TG)), (qty, .inl (cI, 120, .inl TY))]) (wn := fun u => [(hpr, .inr (4, [.ref hT, .ref hQ, .ref hpd, .ref qst, .ref qor, .int (iI pz)])), (hT, .inr (1, [.ref qk, .ref ql, .ref qc, .ref qtl, .ref qtg, .ref qty, .int (iI sz), .int (iI fr), .int (iI fl)])), (qk, .inl (cI, 120, .inl K)), (ql, .inl (cI, 120, .inl Ln)), (qc, .inl (cI, 4800, .inl C)), (qtl, .inl (cI, 120, .inl TL)), (qtg, .inl (cI, 1920, .inl TG)), (qty, .inl (cI, 120, .inl TY)), (hpd, .inr (0, [.ref qpd, .int (iI u.1), .int (iI u.2.2)])), (qpd, .inl (cI, 3000, .inl u.2.1))]) ⟨xe, xb, xml, xo, xt⟩ (c_Printer_addEscape l D cI hpr hT hQ hpd qst qor pz qpd nv fv sv z_22 (by first | assumption | omega) (by first | assumption | omega)) k_Printer_addEscape mw_Printer_114 ⟨Nat.le_of_ble_eq_true rfl, Nat.le_of_ble_eq_true rfl⟩ xK xP xD xS xA rfl xl.1 rfl (Nat.le_of_ble_eq_true rfl) d_Printer_addCodes_134 ⟨Nat.zero_le _, Nat.zero_le _⟩ [0, 8, 9] [1, 2, 3, 4, 5, 6, 7] [7, 0, 1, 2, 3, 4, 5, 6, 8, 9] rfl rfl (by decide) (by decide) (by decide) (by decide) (fun _ => rfl) rfl rfl rfl ?_
              clear xP xD xS
              intro u H locs hw_29 xP xD xS
              obtain ⟨n2_26, f2_27, sp2_28⟩ := u
              try dsimp only at hw_29
              replace xP : va_P D classes [(hpr, .inr (4, [.ref hT, .ref hQ, .ref hpd, .ref qst, .ref qor, .int (iI pz)])), (hT, .inr (1, [.ref qk, .ref ql, .ref qc, .ref qtl, .ref qtg, .ref qty, .int (iI sz), .int (iI fr), .int (iI fl)])), (qk, .inl (cI, 120, .inl K)), (ql, .inl (cI, 120, .inl Ln)), (qc, .inl (cI, 4800, .inl C)), (qtl, .inl (cI, 120, .inl TL)), (qtg, .inl (cI, 1920, .inl TG)), (qty, .inl (cI, 120, .inl TY)), (hpd, .inr (0, [.ref qpd, .int (iI n2_26), .int (iI sp2_28)])), (qpd, .inl (cI, 3000, .inl f2_27))] H := xP
              replace xD : va_D xA0 [(hpr, .inr (4, [.ref hT, .ref hQ, .ref hpd, .ref qst, .ref qor, .int (iI pz)])), (hT, .inr (1, [.ref qk, .ref ql, .ref qc, .ref qtl, .ref qtg, .ref qty, .int (iI sz), .int (iI fr), .int (iI fl)])), (qk, .inl (cI, 120, .inl K)), (ql, .inl (cI, 120, .inl Ln)), (qc, .inl (cI, 4800, .inl C)), (qtl, .inl (cI, 120, .inl TL)), (qtg, .inl (cI, 1920, .inl TG)), (qty, .inl (cI, 120, .inl TY)), (hpd, .inr (0, [.ref qpd, .int (iI n2_26), .int (iI sp2_28)])), (qpd, .inl (cI, 3000, .inl f2_27))] := xD
              replace HC := Pw_trans hn.1 HC hw_29
              have hgr := Pw_rg HC
              clear hw_29
              refine tk_iinc (v := (i + 1)) (lv' := [(3, .int (iI (i + 1))), (5, .int (iI (-1))), (4, .int (iI z_22)), (0, .ref hpr), (1, .int (iI t)), (2, .int (iI b))]) xe xb d_Printer_addCodes_137 xl (k := 5) rfl rfl (by decide) rfl ?_
              clear xl
              intro ls xl
              refine lv_goto (tgt := 39) xe xb d_Printer_addCodes_140 (by decide) ?_
              exact ih_39 o b (i + 1) n2_26 f2_27 sp2_28 (by omega) (by first | assumption | omega) (by first | assumption | omega) (Pw_cast HC (cts_step hi.1 HG (by unfold ct; rw [if_neg (by rintro ⟨h1, h2⟩; omega), if_neg (by rintro ⟨h1, h2⟩; omega)]))) _ _ xP xD xS ls (lv_sub xl [3, 4, 5, 0] rfl)
            · refine lv_iload xe xb d_Printer_addCodes_112 (lv_at xl 1 rfl) ?_
              refine lv_bipush (v := iI (126)) xe xb d_Printer_addCodes_114 (by decide) ?_
              refine tk_icmp_gt (tgt := 131) xe xb d_Printer_addCodes_116 (by decide) (by omega) (fun c_31 => ?_) (fun c_31 => ?_)
              · refine lv_aload_n xe xb d_Printer_addCodes_131 rfl (lv_at xl 2 rfl) ?_
                refine lv_iload xe xb d_Printer_addCodes_132 (lv_at xl 1 rfl) ?_
                refine tk_callVv (As := [.int (iI z_22)]) (rest := []) (wr := [(hT, .inr (1, [.ref qk, .ref ql, .ref qc, .ref qtl, .ref qtg, .ref qty, .int (iI sz), .int (iI fr), .int (iI fl)])), (qk, .inl (cI, 120, .inl K)), (ql, .inl (cI, 120, .inl Ln)), (qc, .inl (cI, 4800, .inl C)), (qtl, .inl (cI, 120, .inl TL)), (qtg, .inl (cI, 1920, .inl TG)), (qty, .inl (cI, 120, .inl TY))]) (wn := fun u => [(hpr, .inr (4, [.ref hT, .ref hQ, .ref hpd, .ref qst, .ref qor, .int (iI pz)])), (hT, .inr (1, [.ref qk, .ref ql, .ref qc, .ref qtl, .ref qtg, .ref qty, .int (iI sz), .int (iI fr), .int (iI fl)])), (qk, .inl (cI, 120, .inl K)), (ql, .inl (cI, 120, .inl Ln)), (qc, .inl (cI, 4800, .inl C)), (qtl, .inl (cI, 120, .inl TL)), (qtg, .inl (cI, 1920, .inl TG)), (qty, .inl (cI, 120, .inl TY)), (hpd, .inr (0, [.ref qpd, .int (iI u.1), .int (iI u.2.2)])), (qpd, .inl (cI, 3000, .inl u.2.1))]) ⟨xe, xb, xml, xo, xt⟩ (c_Printer_addEscape l D cI hpr hT hQ hpd qst qor pz qpd nv fv sv z_22 (by first | assumption | omega) (by first | assumption | omega)) k_Printer_addEscape mw_Printer_114 ⟨Nat.le_of_ble_eq_true rfl, Nat.le_of_ble_eq_true rfl⟩ xK xP xD xS xA rfl xl.1 rfl (Nat.le_of_ble_eq_true rfl) d_Printer_addCodes_134 ⟨Nat.zero_le _, Nat.zero_le _⟩ [0, 8, 9] [1, 2, 3, 4, 5, 6, 7] [7, 0, 1, 2, 3, 4, 5, 6, 8, 9] rfl rfl (by decide) (by decide) (by decide) (by decide) (fun _ => rfl) rfl rfl rfl ?_
                clear xP xD xS
                intro u H locs hw_35 xP xD xS
                obtain ⟨n2_32, f2_33, sp2_34⟩ := u
                try dsimp only at hw_35
                replace xP : va_P D classes [(hpr, .inr (4, [.ref hT, .ref hQ, .ref hpd, .ref qst, .ref qor, .int (iI pz)])), (hT, .inr (1, [.ref qk, .ref ql, .ref qc, .ref qtl, .ref qtg, .ref qty, .int (iI sz), .int (iI fr), .int (iI fl)])), (qk, .inl (cI, 120, .inl K)), (ql, .inl (cI, 120, .inl Ln)), (qc, .inl (cI, 4800, .inl C)), (qtl, .inl (cI, 120, .inl TL)), (qtg, .inl (cI, 1920, .inl TG)), (qty, .inl (cI, 120, .inl TY)), (hpd, .inr (0, [.ref qpd, .int (iI n2_32), .int (iI sp2_34)])), (qpd, .inl (cI, 3000, .inl f2_33))] H := xP
                replace xD : va_D xA0 [(hpr, .inr (4, [.ref hT, .ref hQ, .ref hpd, .ref qst, .ref qor, .int (iI pz)])), (hT, .inr (1, [.ref qk, .ref ql, .ref qc, .ref qtl, .ref qtg, .ref qty, .int (iI sz), .int (iI fr), .int (iI fl)])), (qk, .inl (cI, 120, .inl K)), (ql, .inl (cI, 120, .inl Ln)), (qc, .inl (cI, 4800, .inl C)), (qtl, .inl (cI, 120, .inl TL)), (qtg, .inl (cI, 1920, .inl TG)), (qty, .inl (cI, 120, .inl TY)), (hpd, .inr (0, [.ref qpd, .int (iI n2_32), .int (iI sp2_34)])), (qpd, .inl (cI, 3000, .inl f2_33))] := xD
                replace HC := Pw_trans hn.1 HC hw_35
                have hgr := Pw_rg HC
                clear hw_35
                refine tk_iinc (v := (i + 1)) (lv' := [(3, .int (iI (i + 1))), (5, .int (iI (-1))), (4, .int (iI z_22)), (0, .ref hpr), (1, .int (iI t)), (2, .int (iI b))]) xe xb d_Printer_addCodes_137 xl (k := 5) rfl rfl (by decide) rfl ?_
                clear xl
                intro ls xl
                refine lv_goto (tgt := 39) xe xb d_Printer_addCodes_140 (by decide) ?_
                exact ih_39 o b (i + 1) n2_32 f2_33 sp2_34 (by omega) (by first | assumption | omega) (by first | assumption | omega) (Pw_cast HC (cts_step hi.1 HG (by unfold ct; rw [if_neg (by rintro ⟨h1, h2⟩; omega), if_neg (by rintro ⟨h1, h2⟩; omega)]))) _ _ xP xD xS ls (lv_sub xl [3, 4, 5, 0] rfl)
              · refine lv_aload_n xe xb d_Printer_addCodes_119 rfl (lv_at xl 2 rfl) ?_
                refine va_get (D := D) (ci := 4) (v := .ref hpd) (C := R_Printer) (T := F_Printer) (N := 6) xe xb xt i_Printer xo xK xP 0 rfl rfl 2 (by decide) (xt _ mw_Printer_24) (fun _ h9 => h9) rfl d_Printer_addCodes_120 ?_
                refine lv_iload xe xb d_Printer_addCodes_123 (lv_at xl 1 rfl) ?_
                refine tk_callVv (As := [.int (iI z_22)]) (rest := []) (wr := [(hpr, .inr (4, [.ref hT, .ref hQ, .ref hpd, .ref qst, .ref qor, .int (iI pz)])), (hT, .inr (1, [.ref qk, .ref ql, .ref qc, .ref qtl, .ref qtg, .ref qty, .int (iI sz), .int (iI fr), .int (iI fl)])), (qk, .inl (cI, 120, .inl K)), (ql, .inl (cI, 120, .inl Ln)), (qc, .inl (cI, 4800, .inl C)), (qtl, .inl (cI, 120, .inl TL)), (qtg, .inl (cI, 1920, .inl TG)), (qty, .inl (cI, 120, .inl TY))]) (wn := fun u => [(hpr, .inr (4, [.ref hT, .ref hQ, .ref hpd, .ref qst, .ref qor, .int (iI pz)])), (hT, .inr (1, [.ref qk, .ref ql, .ref qc, .ref qtl, .ref qtg, .ref qty, .int (iI sz), .int (iI fr), .int (iI fl)])), (qk, .inl (cI, 120, .inl K)), (ql, .inl (cI, 120, .inl Ln)), (qc, .inl (cI, 4800, .inl C)), (qtl, .inl (cI, 120, .inl TL)), (qtg, .inl (cI, 1920, .inl TG)), (qty, .inl (cI, 120, .inl TY)), (hpd, .inr (0, [.ref qpd, .int (iI u.1), .int (iI u.2.2)])), (qpd, .inl (cI, 3000, .inl u.2.1))]) ⟨xe, xb, xml, xo, xt⟩ (c_Row_addP l D cI hpd qpd nv fv sv z_22 (by first | assumption | omega) (by first | assumption | omega)) k_Row_add mw_Printer_59 ⟨Nat.le_of_ble_eq_true rfl, Nat.le_of_ble_eq_true rfl⟩ xK xP xD xS xA rfl xl.1 rfl (Nat.le_of_ble_eq_true rfl) d_Printer_addCodes_125 ⟨Nat.zero_le _, Nat.zero_le _⟩ [8, 9] [0, 1, 2, 3, 4, 5, 6, 7] [0, 1, 2, 3, 4, 5, 6, 7, 8, 9] rfl rfl (by decide) (by decide) (by decide) (by decide) (fun _ => rfl) rfl rfl rfl ?_
                clear xP xD xS
                intro u H locs hw_40 xP xD xS
                obtain ⟨n2_37, f2_38, sp2_39⟩ := u
                try dsimp only at hw_40
                replace xP : va_P D classes [(hpr, .inr (4, [.ref hT, .ref hQ, .ref hpd, .ref qst, .ref qor, .int (iI pz)])), (hT, .inr (1, [.ref qk, .ref ql, .ref qc, .ref qtl, .ref qtg, .ref qty, .int (iI sz), .int (iI fr), .int (iI fl)])), (qk, .inl (cI, 120, .inl K)), (ql, .inl (cI, 120, .inl Ln)), (qc, .inl (cI, 4800, .inl C)), (qtl, .inl (cI, 120, .inl TL)), (qtg, .inl (cI, 1920, .inl TG)), (qty, .inl (cI, 120, .inl TY)), (hpd, .inr (0, [.ref qpd, .int (iI n2_37), .int (iI sp2_39)])), (qpd, .inl (cI, 3000, .inl f2_38))] H := xP
                replace xD : va_D xA0 [(hpr, .inr (4, [.ref hT, .ref hQ, .ref hpd, .ref qst, .ref qor, .int (iI pz)])), (hT, .inr (1, [.ref qk, .ref ql, .ref qc, .ref qtl, .ref qtg, .ref qty, .int (iI sz), .int (iI fr), .int (iI fl)])), (qk, .inl (cI, 120, .inl K)), (ql, .inl (cI, 120, .inl Ln)), (qc, .inl (cI, 4800, .inl C)), (qtl, .inl (cI, 120, .inl TL)), (qtg, .inl (cI, 1920, .inl TG)), (qty, .inl (cI, 120, .inl TY)), (hpd, .inr (0, [.ref qpd, .int (iI n2_37), .int (iI sp2_39)])), (qpd, .inl (cI, 3000, .inl f2_38))] := xD
                replace HC := Pw_trans hn.1 HC hw_40
                have hgr := Pw_rg HC
                clear hw_40
                refine lv_goto (tgt := 137) xe xb d_Printer_addCodes_128 (by decide) ?_
                refine tk_iinc (v := (i + 1)) (lv' := [(3, .int (iI (i + 1))), (5, .int (iI (-1))), (4, .int (iI z_22)), (0, .ref hpr), (1, .int (iI t)), (2, .int (iI b))]) xe xb d_Printer_addCodes_137 xl (k := 5) rfl rfl (by decide) rfl ?_
                clear xl
                intro ls xl
                refine lv_goto (tgt := 39) xe xb d_Printer_addCodes_140 (by decide) ?_
                exact ih_39 o b (i + 1) n2_37 f2_38 sp2_39 (by omega) (by first | assumption | omega) (by first | assumption | omega) (Pw_cast HC (cts_step hi.1 HG (by unfold ct; rw [if_neg (by rintro ⟨h1, h2⟩; omega), if_pos ⟨by omega, by omega⟩]))) _ _ xP xD xS ls (lv_sub xl [3, 4, 5, 0] rfl)
          · refine lv_iload xe xb d_Printer_addCodes_67 (lv_at xl 0 rfl) ?_
            refine tk_callSi (As := [.int (iI z_22)]) (rest := []) (wr := [(hpr, .inr (4, [.ref hT, .ref hQ, .ref hpd, .ref qst, .ref qor, .int (iI pz)])), (hT, .inr (1, [.ref qk, .ref ql, .ref qc, .ref qtl, .ref qtg, .ref qty, .int (iI sz), .int (iI fr), .int (iI fl)])), (qk, .inl (cI, 120, .inl K)), (ql, .inl (cI, 120, .inl Ln)), (qc, .inl (cI, 4800, .inl C)), (qtl, .inl (cI, 120, .inl TL)), (qtg, .inl (cI, 1920, .inl TG)), (qty, .inl (cI, 120, .inl TY)), (hpd, .inr (0, [.ref qpd, .int (iI nv), .int (iI sv)])), (qpd, .inl (cI, 3000, .inl fv))]) (wn := fun u => [(hpr, .inr (4, [.ref hT, .ref hQ, .ref hpd, .ref qst, .ref qor, .int (iI pz)])), (hT, .inr (1, [.ref qk, .ref ql, .ref qc, .ref qtl, .ref qtg, .ref qty, .int (iI sz), .int (iI fr), .int (iI fl)])), (qk, .inl (cI, 120, .inl K)), (ql, .inl (cI, 120, .inl Ln)), (qc, .inl (cI, 4800, .inl C)), (qtl, .inl (cI, 120, .inl TL)), (qtg, .inl (cI, 1920, .inl TG)), (qty, .inl (cI, 120, .inl TY)), (hpd, .inr (0, [.ref qpd, .int (iI nv), .int (iI sv)])), (qpd, .inl (cI, 3000, .inl fv))]) ⟨xe, xb, xml, xo, xt⟩ (c_Printer_signLetter l D cI z_22 (by first | assumption | omega)) k_Printer_signLetter mw_Printer_111 ⟨Nat.le_of_ble_eq_true rfl, Nat.le_of_ble_eq_true rfl⟩ xK xP xD xS xA rfl xl.1 rfl (Nat.le_of_ble_eq_true rfl) d_Printer_addCodes_69 ⟨Nat.zero_le _, Nat.zero_le _⟩ [] [0, 1, 2, 3, 4, 5, 6, 7, 8, 9] [0, 1, 2, 3, 4, 5, 6, 7, 8, 9] rfl rfl (by decide) (by decide) (by decide) (by decide) (fun _ => rfl) ?_
            clear xP xD xS
            intro z_43 u H locs hr_44 hw_42 xP xD xS
            try dsimp only at hw_42
            replace xP : va_P D classes [(hpr, .inr (4, [.ref hT, .ref hQ, .ref hpd, .ref qst, .ref qor, .int (iI pz)])), (hT, .inr (1, [.ref qk, .ref ql, .ref qc, .ref qtl, .ref qtg, .ref qty, .int (iI sz), .int (iI fr), .int (iI fl)])), (qk, .inl (cI, 120, .inl K)), (ql, .inl (cI, 120, .inl Ln)), (qc, .inl (cI, 4800, .inl C)), (qtl, .inl (cI, 120, .inl TL)), (qtg, .inl (cI, 1920, .inl TG)), (qty, .inl (cI, 120, .inl TY)), (hpd, .inr (0, [.ref qpd, .int (iI nv), .int (iI sv)])), (qpd, .inl (cI, 3000, .inl fv))] H := xP
            replace xD : va_D xA0 [(hpr, .inr (4, [.ref hT, .ref hQ, .ref hpd, .ref qst, .ref qor, .int (iI pz)])), (hT, .inr (1, [.ref qk, .ref ql, .ref qc, .ref qtl, .ref qtg, .ref qty, .int (iI sz), .int (iI fr), .int (iI fl)])), (qk, .inl (cI, 120, .inl K)), (ql, .inl (cI, 120, .inl Ln)), (qc, .inl (cI, 4800, .inl C)), (qtl, .inl (cI, 120, .inl TL)), (qtg, .inl (cI, 1920, .inl TG)), (qty, .inl (cI, 120, .inl TY)), (hpd, .inr (0, [.ref qpd, .int (iI nv), .int (iI sv)])), (qpd, .inl (cI, 3000, .inl fv))] := xD
            have HS := hw_42
            refine lv_goto (tgt := 76) xe xb d_Printer_addCodes_72 (by decide) ?_
            refine lv_istore (lv' := [(5, .int (iI z_43)), (4, .int (iI z_22)), (0, .ref hpr), (1, .int (iI t)), (2, .int (iI b)), (3, .int (iI i))]) xe xb d_Printer_addCodes_76 xl (by decide) rfl ?_
            clear xl
            intro ls xl
            refine lv_iload xe xb d_Printer_addCodes_78 (lv_at xl 0 rfl) ?_
            refine lv_iconst (v := iI (-1)) xe xb d_Printer_addCodes_80 rfl ?_
            refine tk_icmp_eq (tgt := 105) xe xb d_Printer_addCodes_81 (by decide) (by omega) (fun C81 => ?_) (fun C81 => ?_)
            · refine lv_iload xe xb d_Printer_addCodes_105 (lv_at xl 1 rfl) ?_
              refine lv_bipush (v := iI (32)) xe xb d_Printer_addCodes_107 (by decide) ?_
              refine tk_icmp_lt (tgt := 131) xe xb d_Printer_addCodes_109 (by decide) (by omega) (fun c_45 => ?_) (fun c_45 => ?_)
              · refine lv_aload_n xe xb d_Printer_addCodes_131 rfl (lv_at xl 2 rfl) ?_
                refine lv_iload xe xb d_Printer_addCodes_132 (lv_at xl 1 rfl) ?_
                refine tk_callVv (As := [.int (iI z_22)]) (rest := []) (wr := [(hT, .inr (1, [.ref qk, .ref ql, .ref qc, .ref qtl, .ref qtg, .ref qty, .int (iI sz), .int (iI fr), .int (iI fl)])), (qk, .inl (cI, 120, .inl K)), (ql, .inl (cI, 120, .inl Ln)), (qc, .inl (cI, 4800, .inl C)), (qtl, .inl (cI, 120, .inl TL)), (qtg, .inl (cI, 1920, .inl TG)), (qty, .inl (cI, 120, .inl TY))]) (wn := fun u => [(hpr, .inr (4, [.ref hT, .ref hQ, .ref hpd, .ref qst, .ref qor, .int (iI pz)])), (hT, .inr (1, [.ref qk, .ref ql, .ref qc, .ref qtl, .ref qtg, .ref qty, .int (iI sz), .int (iI fr), .int (iI fl)])), (qk, .inl (cI, 120, .inl K)), (ql, .inl (cI, 120, .inl Ln)), (qc, .inl (cI, 4800, .inl C)), (qtl, .inl (cI, 120, .inl TL)), (qtg, .inl (cI, 1920, .inl TG)), (qty, .inl (cI, 120, .inl TY)), (hpd, .inr (0, [.ref qpd, .int (iI u.1), .int (iI u.2.2)])), (qpd, .inl (cI, 3000, .inl u.2.1))]) ⟨xe, xb, xml, xo, xt⟩ (c_Printer_addEscape l D cI hpr hT hQ hpd qst qor pz qpd nv fv sv z_22 (by first | assumption | omega) (by first | assumption | omega)) k_Printer_addEscape mw_Printer_114 ⟨Nat.le_of_ble_eq_true rfl, Nat.le_of_ble_eq_true rfl⟩ xK xP xD xS xA rfl xl.1 rfl (Nat.le_of_ble_eq_true rfl) d_Printer_addCodes_134 ⟨Nat.zero_le _, Nat.zero_le _⟩ [0, 8, 9] [1, 2, 3, 4, 5, 6, 7] [7, 0, 1, 2, 3, 4, 5, 6, 8, 9] rfl rfl (by decide) (by decide) (by decide) (by decide) (fun _ => rfl) rfl rfl rfl ?_
                clear xP xD xS
                intro u H locs hw_49 xP xD xS
                obtain ⟨n2_46, f2_47, sp2_48⟩ := u
                try dsimp only at hw_49
                replace xP : va_P D classes [(hpr, .inr (4, [.ref hT, .ref hQ, .ref hpd, .ref qst, .ref qor, .int (iI pz)])), (hT, .inr (1, [.ref qk, .ref ql, .ref qc, .ref qtl, .ref qtg, .ref qty, .int (iI sz), .int (iI fr), .int (iI fl)])), (qk, .inl (cI, 120, .inl K)), (ql, .inl (cI, 120, .inl Ln)), (qc, .inl (cI, 4800, .inl C)), (qtl, .inl (cI, 120, .inl TL)), (qtg, .inl (cI, 1920, .inl TG)), (qty, .inl (cI, 120, .inl TY)), (hpd, .inr (0, [.ref qpd, .int (iI n2_46), .int (iI sp2_48)])), (qpd, .inl (cI, 3000, .inl f2_47))] H := xP
                replace xD : va_D xA0 [(hpr, .inr (4, [.ref hT, .ref hQ, .ref hpd, .ref qst, .ref qor, .int (iI pz)])), (hT, .inr (1, [.ref qk, .ref ql, .ref qc, .ref qtl, .ref qtg, .ref qty, .int (iI sz), .int (iI fr), .int (iI fl)])), (qk, .inl (cI, 120, .inl K)), (ql, .inl (cI, 120, .inl Ln)), (qc, .inl (cI, 4800, .inl C)), (qtl, .inl (cI, 120, .inl TL)), (qtg, .inl (cI, 1920, .inl TG)), (qty, .inl (cI, 120, .inl TY)), (hpd, .inr (0, [.ref qpd, .int (iI n2_46), .int (iI sp2_48)])), (qpd, .inl (cI, 3000, .inl f2_47))] := xD
                replace HC := Pw_trans hn.1 HC hw_49
                have hgr := Pw_rg HC
                clear hw_49
                refine tk_iinc (v := (i + 1)) (lv' := [(3, .int (iI (i + 1))), (5, .int (iI z_43)), (4, .int (iI z_22)), (0, .ref hpr), (1, .int (iI t)), (2, .int (iI b))]) xe xb d_Printer_addCodes_137 xl (k := 5) rfl rfl (by decide) rfl ?_
                clear xl
                intro ls xl
                refine lv_goto (tgt := 39) xe xb d_Printer_addCodes_140 (by decide) ?_
                exact ih_39 o b (i + 1) n2_46 f2_47 sp2_48 (by omega) (by first | assumption | omega) (by first | assumption | omega) (Pw_cast HC (cts_step hi.1 HG (by unfold ct; rw [if_neg (by rintro ⟨h1, h2⟩; omega), if_neg (by rintro ⟨h1, h2⟩; omega)]))) _ _ xP xD xS ls (lv_sub xl [3, 4, 5, 0] rfl)
              · refine lv_iload xe xb d_Printer_addCodes_112 (lv_at xl 1 rfl) ?_
                refine lv_bipush (v := iI (126)) xe xb d_Printer_addCodes_114 (by decide) ?_
                refine tk_icmp_gt (tgt := 131) xe xb d_Printer_addCodes_116 (by decide) (by omega) (fun c_51 => ?_) (fun c_51 => ?_)
                · refine lv_aload_n xe xb d_Printer_addCodes_131 rfl (lv_at xl 2 rfl) ?_
                  refine lv_iload xe xb d_Printer_addCodes_132 (lv_at xl 1 rfl) ?_
                  refine tk_callVv (As := [.int (iI z_22)]) (rest := []) (wr := [(hT, .inr (1, [.ref qk, .ref ql, .ref qc, .ref qtl, .ref qtg, .ref qty, .int (iI sz), .int (iI fr), .int (iI fl)])), (qk, .inl (cI, 120, .inl K)), (ql, .inl (cI, 120, .inl Ln)), (qc, .inl (cI, 4800, .inl C)), (qtl, .inl (cI, 120, .inl TL)), (qtg, .inl (cI, 1920, .inl TG)), (qty, .inl (cI, 120, .inl TY))]) (wn := fun u => [(hpr, .inr (4, [.ref hT, .ref hQ, .ref hpd, .ref qst, .ref qor, .int (iI pz)])), (hT, .inr (1, [.ref qk, .ref ql, .ref qc, .ref qtl, .ref qtg, .ref qty, .int (iI sz), .int (iI fr), .int (iI fl)])), (qk, .inl (cI, 120, .inl K)), (ql, .inl (cI, 120, .inl Ln)), (qc, .inl (cI, 4800, .inl C)), (qtl, .inl (cI, 120, .inl TL)), (qtg, .inl (cI, 1920, .inl TG)), (qty, .inl (cI, 120, .inl TY)), (hpd, .inr (0, [.ref qpd, .int (iI u.1), .int (iI u.2.2)])), (qpd, .inl (cI, 3000, .inl u.2.1))]) ⟨xe, xb, xml, xo, xt⟩ (c_Printer_addEscape l D cI hpr hT hQ hpd qst qor pz qpd nv fv sv z_22 (by first | assumption | omega) (by first | assumption | omega)) k_Printer_addEscape mw_Printer_114 ⟨Nat.le_of_ble_eq_true rfl, Nat.le_of_ble_eq_true rfl⟩ xK xP xD xS xA rfl xl.1 rfl (Nat.le_of_ble_eq_true rfl) d_Printer_addCodes_134 ⟨Nat.zero_le _, Nat.zero_le _⟩ [0, 8, 9] [1, 2, 3, 4, 5, 6, 7] [7, 0, 1, 2, 3, 4, 5, 6, 8, 9] rfl rfl (by decide) (by decide) (by decide) (by decide) (fun _ => rfl) rfl rfl rfl ?_
                  clear xP xD xS
                  intro u H locs hw_55 xP xD xS
                  obtain ⟨n2_52, f2_53, sp2_54⟩ := u
                  try dsimp only at hw_55
                  replace xP : va_P D classes [(hpr, .inr (4, [.ref hT, .ref hQ, .ref hpd, .ref qst, .ref qor, .int (iI pz)])), (hT, .inr (1, [.ref qk, .ref ql, .ref qc, .ref qtl, .ref qtg, .ref qty, .int (iI sz), .int (iI fr), .int (iI fl)])), (qk, .inl (cI, 120, .inl K)), (ql, .inl (cI, 120, .inl Ln)), (qc, .inl (cI, 4800, .inl C)), (qtl, .inl (cI, 120, .inl TL)), (qtg, .inl (cI, 1920, .inl TG)), (qty, .inl (cI, 120, .inl TY)), (hpd, .inr (0, [.ref qpd, .int (iI n2_52), .int (iI sp2_54)])), (qpd, .inl (cI, 3000, .inl f2_53))] H := xP
                  replace xD : va_D xA0 [(hpr, .inr (4, [.ref hT, .ref hQ, .ref hpd, .ref qst, .ref qor, .int (iI pz)])), (hT, .inr (1, [.ref qk, .ref ql, .ref qc, .ref qtl, .ref qtg, .ref qty, .int (iI sz), .int (iI fr), .int (iI fl)])), (qk, .inl (cI, 120, .inl K)), (ql, .inl (cI, 120, .inl Ln)), (qc, .inl (cI, 4800, .inl C)), (qtl, .inl (cI, 120, .inl TL)), (qtg, .inl (cI, 1920, .inl TG)), (qty, .inl (cI, 120, .inl TY)), (hpd, .inr (0, [.ref qpd, .int (iI n2_52), .int (iI sp2_54)])), (qpd, .inl (cI, 3000, .inl f2_53))] := xD
                  replace HC := Pw_trans hn.1 HC hw_55
                  have hgr := Pw_rg HC
                  clear hw_55
                  refine tk_iinc (v := (i + 1)) (lv' := [(3, .int (iI (i + 1))), (5, .int (iI z_43)), (4, .int (iI z_22)), (0, .ref hpr), (1, .int (iI t)), (2, .int (iI b))]) xe xb d_Printer_addCodes_137 xl (k := 5) rfl rfl (by decide) rfl ?_
                  clear xl
                  intro ls xl
                  refine lv_goto (tgt := 39) xe xb d_Printer_addCodes_140 (by decide) ?_
                  exact ih_39 o b (i + 1) n2_52 f2_53 sp2_54 (by omega) (by first | assumption | omega) (by first | assumption | omega) (Pw_cast HC (cts_step hi.1 HG (by unfold ct; rw [if_neg (by rintro ⟨h1, h2⟩; omega), if_neg (by rintro ⟨h1, h2⟩; omega)]))) _ _ xP xD xS ls (lv_sub xl [3, 4, 5, 0] rfl)
                · refine lv_aload_n xe xb d_Printer_addCodes_119 rfl (lv_at xl 2 rfl) ?_
                  refine va_get (D := D) (ci := 4) (v := .ref hpd) (C := R_Printer) (T := F_Printer) (N := 6) xe xb xt i_Printer xo xK xP 0 rfl rfl 2 (by decide) (xt _ mw_Printer_24) (fun _ h9 => h9) rfl d_Printer_addCodes_120 ?_
                  refine lv_iload xe xb d_Printer_addCodes_123 (lv_at xl 1 rfl) ?_
                  refine tk_callVv (As := [.int (iI z_22)]) (rest := []) (wr := [(hpr, .inr (4, [.ref hT, .ref hQ, .ref hpd, .ref qst, .ref qor, .int (iI pz)])), (hT, .inr (1, [.ref qk, .ref ql, .ref qc, .ref qtl, .ref qtg, .ref qty, .int (iI sz), .int (iI fr), .int (iI fl)])), (qk, .inl (cI, 120, .inl K)), (ql, .inl (cI, 120, .inl Ln)), (qc, .inl (cI, 4800, .inl C)), (qtl, .inl (cI, 120, .inl TL)), (qtg, .inl (cI, 1920, .inl TG)), (qty, .inl (cI, 120, .inl TY))]) (wn := fun u => [(hpr, .inr (4, [.ref hT, .ref hQ, .ref hpd, .ref qst, .ref qor, .int (iI pz)])), (hT, .inr (1, [.ref qk, .ref ql, .ref qc, .ref qtl, .ref qtg, .ref qty, .int (iI sz), .int (iI fr), .int (iI fl)])), (qk, .inl (cI, 120, .inl K)), (ql, .inl (cI, 120, .inl Ln)), (qc, .inl (cI, 4800, .inl C)), (qtl, .inl (cI, 120, .inl TL)), (qtg, .inl (cI, 1920, .inl TG)), (qty, .inl (cI, 120, .inl TY)), (hpd, .inr (0, [.ref qpd, .int (iI u.1), .int (iI u.2.2)])), (qpd, .inl (cI, 3000, .inl u.2.1))]) ⟨xe, xb, xml, xo, xt⟩ (c_Row_addP l D cI hpd qpd nv fv sv z_22 (by first | assumption | omega) (by first | assumption | omega)) k_Row_add mw_Printer_59 ⟨Nat.le_of_ble_eq_true rfl, Nat.le_of_ble_eq_true rfl⟩ xK xP xD xS xA rfl xl.1 rfl (Nat.le_of_ble_eq_true rfl) d_Printer_addCodes_125 ⟨Nat.zero_le _, Nat.zero_le _⟩ [8, 9] [0, 1, 2, 3, 4, 5, 6, 7] [0, 1, 2, 3, 4, 5, 6, 7, 8, 9] rfl rfl (by decide) (by decide) (by decide) (by decide) (fun _ => rfl) rfl rfl rfl ?_
                  clear xP xD xS
                  intro u H locs hw_60 xP xD xS
                  obtain ⟨n2_57, f2_58, sp2_59⟩ := u
                  try dsimp only at hw_60
                  replace xP : va_P D classes [(hpr, .inr (4, [.ref hT, .ref hQ, .ref hpd, .ref qst, .ref qor, .int (iI pz)])), (hT, .inr (1, [.ref qk, .ref ql, .ref qc, .ref qtl, .ref qtg, .ref qty, .int (iI sz), .int (iI fr), .int (iI fl)])), (qk, .inl (cI, 120, .inl K)), (ql, .inl (cI, 120, .inl Ln)), (qc, .inl (cI, 4800, .inl C)), (qtl, .inl (cI, 120, .inl TL)), (qtg, .inl (cI, 1920, .inl TG)), (qty, .inl (cI, 120, .inl TY)), (hpd, .inr (0, [.ref qpd, .int (iI n2_57), .int (iI sp2_59)])), (qpd, .inl (cI, 3000, .inl f2_58))] H := xP
                  replace xD : va_D xA0 [(hpr, .inr (4, [.ref hT, .ref hQ, .ref hpd, .ref qst, .ref qor, .int (iI pz)])), (hT, .inr (1, [.ref qk, .ref ql, .ref qc, .ref qtl, .ref qtg, .ref qty, .int (iI sz), .int (iI fr), .int (iI fl)])), (qk, .inl (cI, 120, .inl K)), (ql, .inl (cI, 120, .inl Ln)), (qc, .inl (cI, 4800, .inl C)), (qtl, .inl (cI, 120, .inl TL)), (qtg, .inl (cI, 1920, .inl TG)), (qty, .inl (cI, 120, .inl TY)), (hpd, .inr (0, [.ref qpd, .int (iI n2_57), .int (iI sp2_59)])), (qpd, .inl (cI, 3000, .inl f2_58))] := xD
                  replace HC := Pw_trans hn.1 HC hw_60
                  have hgr := Pw_rg HC
                  clear hw_60
                  refine lv_goto (tgt := 137) xe xb d_Printer_addCodes_128 (by decide) ?_
                  refine tk_iinc (v := (i + 1)) (lv' := [(3, .int (iI (i + 1))), (5, .int (iI z_43)), (4, .int (iI z_22)), (0, .ref hpr), (1, .int (iI t)), (2, .int (iI b))]) xe xb d_Printer_addCodes_137 xl (k := 5) rfl rfl (by decide) rfl ?_
                  clear xl
                  intro ls xl
                  refine lv_goto (tgt := 39) xe xb d_Printer_addCodes_140 (by decide) ?_
                  exact ih_39 o b (i + 1) n2_57 f2_58 sp2_59 (by omega) (by first | assumption | omega) (by first | assumption | omega) (Pw_cast HC (cts_step hi.1 HG (by unfold ct; rw [if_neg (by rintro ⟨h1, h2⟩; omega), if_pos ⟨by omega, by omega⟩]))) _ _ xP xD xS ls (lv_sub xl [3, 4, 5, 0] rfl)
            · refine lv_aload_n xe xb d_Printer_addCodes_84 rfl (lv_at xl 2 rfl) ?_
              refine va_get (D := D) (ci := 4) (v := .ref hpd) (C := R_Printer) (T := F_Printer) (N := 6) xe xb xt i_Printer xo xK xP 0 rfl rfl 2 (by decide) (xt _ mw_Printer_24) (fun _ h9 => h9) rfl d_Printer_addCodes_85 ?_
              refine lv_bipush (v := iI (92)) xe xb d_Printer_addCodes_88 (by decide) ?_
              refine tk_callVv (As := [.int (iI 92)]) (rest := []) (wr := [(hpr, .inr (4, [.ref hT, .ref hQ, .ref hpd, .ref qst, .ref qor, .int (iI pz)])), (hT, .inr (1, [.ref qk, .ref ql, .ref qc, .ref qtl, .ref qtg, .ref qty, .int (iI sz), .int (iI fr), .int (iI fl)])), (qk, .inl (cI, 120, .inl K)), (ql, .inl (cI, 120, .inl Ln)), (qc, .inl (cI, 4800, .inl C)), (qtl, .inl (cI, 120, .inl TL)), (qtg, .inl (cI, 1920, .inl TG)), (qty, .inl (cI, 120, .inl TY))]) (wn := fun u => [(hpr, .inr (4, [.ref hT, .ref hQ, .ref hpd, .ref qst, .ref qor, .int (iI pz)])), (hT, .inr (1, [.ref qk, .ref ql, .ref qc, .ref qtl, .ref qtg, .ref qty, .int (iI sz), .int (iI fr), .int (iI fl)])), (qk, .inl (cI, 120, .inl K)), (ql, .inl (cI, 120, .inl Ln)), (qc, .inl (cI, 4800, .inl C)), (qtl, .inl (cI, 120, .inl TL)), (qtg, .inl (cI, 1920, .inl TG)), (qty, .inl (cI, 120, .inl TY)), (hpd, .inr (0, [.ref qpd, .int (iI u.1), .int (iI u.2.2)])), (qpd, .inl (cI, 3000, .inl u.2.1))]) ⟨xe, xb, xml, xo, xt⟩ (c_Row_addP l D cI hpd qpd nv fv sv 92 (by first | assumption | omega) (by first | assumption | omega)) k_Row_add mw_Printer_59 ⟨Nat.le_of_ble_eq_true rfl, Nat.le_of_ble_eq_true rfl⟩ xK xP xD xS xA rfl xl.1 rfl (Nat.le_of_ble_eq_true rfl) d_Printer_addCodes_90 ⟨Nat.zero_le _, Nat.zero_le _⟩ [8, 9] [0, 1, 2, 3, 4, 5, 6, 7] [0, 1, 2, 3, 4, 5, 6, 7, 8, 9] rfl rfl (by decide) (by decide) (by decide) (by decide) (fun _ => rfl) rfl rfl rfl ?_
              clear xP xD xS
              intro u H locs hw_65 xP xD xS
              obtain ⟨n2_62, f2_63, sp2_64⟩ := u
              try dsimp only at hw_65
              replace xP : va_P D classes [(hpr, .inr (4, [.ref hT, .ref hQ, .ref hpd, .ref qst, .ref qor, .int (iI pz)])), (hT, .inr (1, [.ref qk, .ref ql, .ref qc, .ref qtl, .ref qtg, .ref qty, .int (iI sz), .int (iI fr), .int (iI fl)])), (qk, .inl (cI, 120, .inl K)), (ql, .inl (cI, 120, .inl Ln)), (qc, .inl (cI, 4800, .inl C)), (qtl, .inl (cI, 120, .inl TL)), (qtg, .inl (cI, 1920, .inl TG)), (qty, .inl (cI, 120, .inl TY)), (hpd, .inr (0, [.ref qpd, .int (iI n2_62), .int (iI sp2_64)])), (qpd, .inl (cI, 3000, .inl f2_63))] H := xP
              replace xD : va_D xA0 [(hpr, .inr (4, [.ref hT, .ref hQ, .ref hpd, .ref qst, .ref qor, .int (iI pz)])), (hT, .inr (1, [.ref qk, .ref ql, .ref qc, .ref qtl, .ref qtg, .ref qty, .int (iI sz), .int (iI fr), .int (iI fl)])), (qk, .inl (cI, 120, .inl K)), (ql, .inl (cI, 120, .inl Ln)), (qc, .inl (cI, 4800, .inl C)), (qtl, .inl (cI, 120, .inl TL)), (qtg, .inl (cI, 1920, .inl TG)), (qty, .inl (cI, 120, .inl TY)), (hpd, .inr (0, [.ref qpd, .int (iI n2_62), .int (iI sp2_64)])), (qpd, .inl (cI, 3000, .inl f2_63))] := xD
              replace HC := Pw_trans hn.1 HC hw_65
              have hgr := Pw_rg HC
              clear hw_65
              refine lv_aload_n xe xb d_Printer_addCodes_93 rfl (lv_at xl 2 rfl) ?_
              refine va_get (D := D) (ci := 4) (v := .ref hpd) (C := R_Printer) (T := F_Printer) (N := 6) xe xb xt i_Printer xo xK xP 0 rfl rfl 2 (by decide) (xt _ mw_Printer_24) (fun _ h9 => h9) rfl d_Printer_addCodes_94 ?_
              refine lv_iload xe xb d_Printer_addCodes_97 (lv_at xl 0 rfl) ?_
              refine tk_callVv (As := [.int (iI z_43)]) (rest := []) (wr := [(hpr, .inr (4, [.ref hT, .ref hQ, .ref hpd, .ref qst, .ref qor, .int (iI pz)])), (hT, .inr (1, [.ref qk, .ref ql, .ref qc, .ref qtl, .ref qtg, .ref qty, .int (iI sz), .int (iI fr), .int (iI fl)])), (qk, .inl (cI, 120, .inl K)), (ql, .inl (cI, 120, .inl Ln)), (qc, .inl (cI, 4800, .inl C)), (qtl, .inl (cI, 120, .inl TL)), (qtg, .inl (cI, 1920, .inl TG)), (qty, .inl (cI, 120, .inl TY))]) (wn := fun u => [(hpr, .inr (4, [.ref hT, .ref hQ, .ref hpd, .ref qst, .ref qor, .int (iI pz)])), (hT, .inr (1, [.ref qk, .ref ql, .ref qc, .ref qtl, .ref qtg, .ref qty, .int (iI sz), .int (iI fr), .int (iI fl)])), (qk, .inl (cI, 120, .inl K)), (ql, .inl (cI, 120, .inl Ln)), (qc, .inl (cI, 4800, .inl C)), (qtl, .inl (cI, 120, .inl TL)), (qtg, .inl (cI, 1920, .inl TG)), (qty, .inl (cI, 120, .inl TY)), (hpd, .inr (0, [.ref qpd, .int (iI u.1), .int (iI u.2.2)])), (qpd, .inl (cI, 3000, .inl u.2.1))]) ⟨xe, xb, xml, xo, xt⟩ (c_Row_addP l D cI hpd qpd n2_62 f2_63 sp2_64 z_43 (by first | assumption | omega) (by first | assumption | omega)) k_Row_add mw_Printer_59 ⟨Nat.le_of_ble_eq_true rfl, Nat.le_of_ble_eq_true rfl⟩ xK xP xD xS xA rfl xl.1 rfl (Nat.le_of_ble_eq_true rfl) d_Printer_addCodes_99 ⟨Nat.zero_le _, Nat.zero_le _⟩ [8, 9] [0, 1, 2, 3, 4, 5, 6, 7] [0, 1, 2, 3, 4, 5, 6, 7, 8, 9] rfl rfl (by decide) (by decide) (by decide) (by decide) (fun _ => rfl) rfl rfl rfl ?_
              clear xP xD xS
              intro u H locs hw_70 xP xD xS
              obtain ⟨n2_67, f2_68, sp2_69⟩ := u
              try dsimp only at hw_70
              replace xP : va_P D classes [(hpr, .inr (4, [.ref hT, .ref hQ, .ref hpd, .ref qst, .ref qor, .int (iI pz)])), (hT, .inr (1, [.ref qk, .ref ql, .ref qc, .ref qtl, .ref qtg, .ref qty, .int (iI sz), .int (iI fr), .int (iI fl)])), (qk, .inl (cI, 120, .inl K)), (ql, .inl (cI, 120, .inl Ln)), (qc, .inl (cI, 4800, .inl C)), (qtl, .inl (cI, 120, .inl TL)), (qtg, .inl (cI, 1920, .inl TG)), (qty, .inl (cI, 120, .inl TY)), (hpd, .inr (0, [.ref qpd, .int (iI n2_67), .int (iI sp2_69)])), (qpd, .inl (cI, 3000, .inl f2_68))] H := xP
              replace xD : va_D xA0 [(hpr, .inr (4, [.ref hT, .ref hQ, .ref hpd, .ref qst, .ref qor, .int (iI pz)])), (hT, .inr (1, [.ref qk, .ref ql, .ref qc, .ref qtl, .ref qtg, .ref qty, .int (iI sz), .int (iI fr), .int (iI fl)])), (qk, .inl (cI, 120, .inl K)), (ql, .inl (cI, 120, .inl Ln)), (qc, .inl (cI, 4800, .inl C)), (qtl, .inl (cI, 120, .inl TL)), (qtg, .inl (cI, 1920, .inl TG)), (qty, .inl (cI, 120, .inl TY)), (hpd, .inr (0, [.ref qpd, .int (iI n2_67), .int (iI sp2_69)])), (qpd, .inl (cI, 3000, .inl f2_68))] := xD
              replace HC := Pw_trans hn.1 HC hw_70
              have hgr := Pw_rg HC
              clear hw_70
              refine lv_goto (tgt := 137) xe xb d_Printer_addCodes_102 (by decide) ?_
              refine tk_iinc (v := (i + 1)) (lv' := [(3, .int (iI (i + 1))), (5, .int (iI z_43)), (4, .int (iI z_22)), (0, .ref hpr), (1, .int (iI t)), (2, .int (iI b))]) xe xb d_Printer_addCodes_137 xl (k := 5) rfl rfl (by decide) rfl ?_
              clear xl
              intro ls xl
              refine lv_goto (tgt := 39) xe xb d_Printer_addCodes_140 (by decide) ?_
              exact ih_39 o b (i + 1) n2_67 f2_68 sp2_69 (by omega) (by first | assumption | omega) (by first | assumption | omega) (Pw_cast HC (by rw [List.append_assoc]; exact cts_step hi.1 HG (by unfold ct; rw [if_pos ⟨by omega, by rw [← HS]; exact C81⟩, HS]; rfl))) _ _ xP xD xS ls (lv_sub xl [3, 4, 5, 0] rfl)
    exact loop_39 _ 60 0 0 n2_3 f2_4 sp2_5 (Nat.lt_succ_self _) (Or.inr ⟨rfl, rfl, C10⟩) ⟨Int.le_refl 0, htt.1⟩ HC _ _ xP xD xS ls (lv_sub xl [2, 3, 1, 0] rfl)
  · refine lv_iconst (v := iI (1)) xe xb d_Printer_addCodes_13 rfl ?_
    refine lv_goto (tgt := 18) xe xb d_Printer_addCodes_14 (by decide) ?_
    refine lv_istore_n (lv' := [(2, .int (iI 1)), (0, .ref hpr), (1, .int (iI t))]) xe xb d_Printer_addCodes_18 rfl xl (by decide) rfl ?_
    clear xl
    intro ls xl
    refine lv_aload_n xe xb d_Printer_addCodes_19 rfl (lv_at xl 1 rfl) ?_
    refine va_get (D := D) (ci := 4) (v := .ref hpd) (C := R_Printer) (T := F_Printer) (N := 6) xe xb xt i_Printer xo xK xP 0 rfl rfl 2 (by decide) (xt _ mw_Printer_24) (fun _ h9 => h9) rfl d_Printer_addCodes_20 ?_
    refine lv_iload_n xe xb d_Printer_addCodes_23 rfl (lv_at xl 0 rfl) ?_
    refine tk_if_eq (tgt := 32) xe xb d_Printer_addCodes_24 (by decide) (by omega) (fun c_72 => absurd c_72 (by omega)) (fun c_72 => ?_)
    refine lv_bipush (v := iI (34)) xe xb d_Printer_addCodes_27 (by decide) ?_
    refine lv_goto (tgt := 34) xe xb d_Printer_addCodes_29 (by decide) ?_
    refine tk_callVv (As := [.int (iI 34)]) (rest := []) (wr := [(hpr, .inr (4, [.ref hT, .ref hQ, .ref hpd, .ref qst, .ref qor, .int (iI pz)])), (hT, .inr (1, [.ref qk, .ref ql, .ref qc, .ref qtl, .ref qtg, .ref qty, .int (iI sz), .int (iI fr), .int (iI fl)])), (qk, .inl (cI, 120, .inl K)), (ql, .inl (cI, 120, .inl Ln)), (qc, .inl (cI, 4800, .inl C)), (qtl, .inl (cI, 120, .inl TL)), (qtg, .inl (cI, 1920, .inl TG)), (qty, .inl (cI, 120, .inl TY))]) (wn := fun u => [(hpr, .inr (4, [.ref hT, .ref hQ, .ref hpd, .ref qst, .ref qor, .int (iI pz)])), (hT, .inr (1, [.ref qk, .ref ql, .ref qc, .ref qtl, .ref qtg, .ref qty, .int (iI sz), .int (iI fr), .int (iI fl)])), (qk, .inl (cI, 120, .inl K)), (ql, .inl (cI, 120, .inl Ln)), (qc, .inl (cI, 4800, .inl C)), (qtl, .inl (cI, 120, .inl TL)), (qtg, .inl (cI, 1920, .inl TG)), (qty, .inl (cI, 120, .inl TY)), (hpd, .inr (0, [.ref qpd, .int (iI u.1), .int (iI u.2.2)])), (qpd, .inl (cI, 3000, .inl u.2.1))]) ⟨xe, xb, xml, xo, xt⟩ (c_Row_addP l D cI hpd qpd n f sp 34 (by first | assumption | omega) (by first | assumption | omega)) k_Row_add mw_Printer_59 ⟨Nat.le_of_ble_eq_true rfl, Nat.le_of_ble_eq_true rfl⟩ xK xP xD xS xA rfl xl.1 rfl (Nat.le_of_ble_eq_true rfl) d_Printer_addCodes_34 ⟨Nat.zero_le _, Nat.zero_le _⟩ [8, 9] [0, 1, 2, 3, 4, 5, 6, 7] [0, 1, 2, 3, 4, 5, 6, 7, 8, 9] rfl rfl (by decide) (by decide) (by decide) (by decide) (fun _ => rfl) rfl rfl rfl ?_
    clear xP xD xS
    intro u H locs hw_76 xP xD xS
    obtain ⟨n2_73, f2_74, sp2_75⟩ := u
    try dsimp only at hw_76
    replace xP : va_P D classes [(hpr, .inr (4, [.ref hT, .ref hQ, .ref hpd, .ref qst, .ref qor, .int (iI pz)])), (hT, .inr (1, [.ref qk, .ref ql, .ref qc, .ref qtl, .ref qtg, .ref qty, .int (iI sz), .int (iI fr), .int (iI fl)])), (qk, .inl (cI, 120, .inl K)), (ql, .inl (cI, 120, .inl Ln)), (qc, .inl (cI, 4800, .inl C)), (qtl, .inl (cI, 120, .inl TL)), (qtg, .inl (cI, 1920, .inl TG)), (qty, .inl (cI, 120, .inl TY)), (hpd, .inr (0, [.ref qpd, .int (iI n2_73), .int (iI sp2_75)])), (qpd, .inl (cI, 3000, .inl f2_74))] H := xP
    replace xD : va_D xA0 [(hpr, .inr (4, [.ref hT, .ref hQ, .ref hpd, .ref qst, .ref qor, .int (iI pz)])), (hT, .inr (1, [.ref qk, .ref ql, .ref qc, .ref qtl, .ref qtg, .ref qty, .int (iI sz), .int (iI fr), .int (iI fl)])), (qk, .inl (cI, 120, .inl K)), (ql, .inl (cI, 120, .inl Ln)), (qc, .inl (cI, 4800, .inl C)), (qtl, .inl (cI, 120, .inl TL)), (qtg, .inl (cI, 1920, .inl TG)), (qty, .inl (cI, 120, .inl TY)), (hpd, .inr (0, [.ref qpd, .int (iI n2_73), .int (iI sp2_75)])), (qpd, .inl (cI, 3000, .inl f2_74))] := xD
    replace HC := Pw_trans hn.1 HC hw_76
    have hgr := Pw_rg HC
    clear hw_76
    refine lv_iconst (v := iI (0)) xe xb d_Printer_addCodes_37 rfl ?_
    refine lv_istore_n (lv' := [(3, .int (iI 0)), (2, .int (iI 1)), (0, .ref hpr), (1, .int (iI t))]) xe xb d_Printer_addCodes_38 rfl xl (by decide) rfl ?_
    clear xl
    intro ls xl
    have loop_39 : ∀ (n9 : Nat) (o : Int) (b : Int) (i : Int) (nv : Int) (fv : Nat → Int32) (sv : Int), (40 - i).toNat < n9 → ((b = 1 ∧ o = 34 ∧ tI K t = 2) ∨ (b = 0 ∧ o = 60 ∧ tI K t ≠ 2)) → (0 ≤ i ∧ i ≤ tI Ln t) → (Pw nv fv sv n f sp (o :: cts b (seg C (t * 40) i))) → ∀ (H : Heap) (locs : List Loc), va_P D classes [(hpr, .inr (4, [.ref hT, .ref hQ, .ref hpd, .ref qst, .ref qor, .int (iI pz)])), (hT, .inr (1, [.ref qk, .ref ql, .ref qc, .ref qtl, .ref qtg, .ref qty, .int (iI sz), .int (iI fr), .int (iI fl)])), (qk, .inl (cI, 120, .inl K)), (ql, .inl (cI, 120, .inl Ln)), (qc, .inl (cI, 4800, .inl C)), (qtl, .inl (cI, 120, .inl TL)), (qtg, .inl (cI, 1920, .inl TG)), (qty, .inl (cI, 120, .inl TY)), (hpd, .inr (0, [.ref qpd, .int (iI nv), .int (iI sv)])), (qpd, .inl (cI, 3000, .inl fv))] H → va_D xA0 [(hpr, .inr (4, [.ref hT, .ref hQ, .ref hpd, .ref qst, .ref qor, .int (iI pz)])), (hT, .inr (1, [.ref qk, .ref ql, .ref qc, .ref qtl, .ref qtg, .ref qty, .int (iI sz), .int (iI fr), .int (iI fl)])), (qk, .inl (cI, 120, .inl K)), (ql, .inl (cI, 120, .inl Ln)), (qc, .inl (cI, 4800, .inl C)), (qtl, .inl (cI, 120, .inl TL)), (qtg, .inl (cI, 1920, .inl TG)), (qty, .inl (cI, 120, .inl TY)), (hpd, .inr (0, [.ref qpd, .int (iI nv), .int (iI sv)])), (qpd, .inl (cI, 3000, .inl fv))] → va_S xA0 xs.heap H locs → ∀ ls : Array Slot, lv_has ls 6 [(0, .ref hpr), (1, .int (iI t)), (2, .int (iI b)), (3, .int (iI i))] → W xp l xe0 (tk_rm 2) xs xm xar xbelow xmeth xc H locs 0 0 xQ (F0 xm 39 ls []) := by
      intro n9
      induction n9 with
      | zero => intro o b i nv fv sv h9; exact absurd h9 (Nat.not_lt_zero _)
      | succ n9 ih9 =>
        intro o b i nv fv sv hm9 hb hi hP H locs xP xD xS ls xl
        have ih_39 := ih9
        have hm_39 := hm9
        have HC := hP
        have hgr := Pw_rg HC
        refine lv_iload_n xe xb d_Printer_addCodes_39 rfl (lv_at xl 3 rfl) ?_
        refine lv_aload_n xe xb d_Printer_addCodes_40 rfl (lv_at xl 0 rfl) ?_
        refine va_get (D := D) (ci := 4) (v := .ref hT) (C := R_Printer) (T := F_Printer) (N := 6) xe xb xt i_Printer xo xK xP 0 rfl rfl 0 (by decide) (xt _ mw_Printer_9) (fun _ h9 => h9) rfl d_Printer_addCodes_41 ?_
        refine va_get (D := D) (ci := 1) (v := .ref ql) (C := R_Terms) (T := F_Terms) (N := 9) xe xb xt i_Terms xo xK xP 1 rfl rfl 1 (by decide) (xt _ mw_Printer_105) (fun _ h9 => h9) rfl d_Printer_addCodes_44 ?_
        refine lv_iload_n xe xb d_Printer_addCodes_47 rfl (lv_at xl 1 rfl) ?_
        refine tk_iald xe xb xK xP 3 0 rfl rfl (by omega) d_Printer_addCodes_48 ?_
        have hr_78 := tI_rg Ln t
        refine tk_icmp_ge (tgt := 143) xe xb d_Printer_addCodes_49 (by decide) (by omega) (fun c_79 => ?_) (fun c_79 => ?_)
        · refine lv_aload_n xe xb d_Printer_addCodes_143 rfl (lv_at xl 0 rfl) ?_
          refine va_get (D := D) (ci := 4) (v := .ref hpd) (C := R_Printer) (T := F_Printer) (N := 6) xe xb xt i_Printer xo xK xP 0 rfl rfl 2 (by decide) (xt _ mw_Printer_24) (fun _ h9 => h9) rfl d_Printer_addCodes_144 ?_
          refine lv_iload_n xe xb d_Printer_addCodes_147 rfl (lv_at xl 2 rfl) ?_
          refine tk_if_eq (tgt := 156) xe xb d_Printer_addCodes_148 (by decide) (by omega) (fun c_80 => ?_) (fun c_80 => ?_)
          · refine lv_bipush (v := iI (62)) xe xb d_Printer_addCodes_156 (by decide) ?_
            refine tk_callVv (As := [.int (iI 62)]) (rest := []) (wr := [(hpr, .inr (4, [.ref hT, .ref hQ, .ref hpd, .ref qst, .ref qor, .int (iI pz)])), (hT, .inr (1, [.ref qk, .ref ql, .ref qc, .ref qtl, .ref qtg, .ref qty, .int (iI sz), .int (iI fr), .int (iI fl)])), (qk, .inl (cI, 120, .inl K)), (ql, .inl (cI, 120, .inl Ln)), (qc, .inl (cI, 4800, .inl C)), (qtl, .inl (cI, 120, .inl TL)), (qtg, .inl (cI, 1920, .inl TG)), (qty, .inl (cI, 120, .inl TY))]) (wn := fun u => [(hpr, .inr (4, [.ref hT, .ref hQ, .ref hpd, .ref qst, .ref qor, .int (iI pz)])), (hT, .inr (1, [.ref qk, .ref ql, .ref qc, .ref qtl, .ref qtg, .ref qty, .int (iI sz), .int (iI fr), .int (iI fl)])), (qk, .inl (cI, 120, .inl K)), (ql, .inl (cI, 120, .inl Ln)), (qc, .inl (cI, 4800, .inl C)), (qtl, .inl (cI, 120, .inl TL)), (qtg, .inl (cI, 1920, .inl TG)), (qty, .inl (cI, 120, .inl TY)), (hpd, .inr (0, [.ref qpd, .int (iI u.1), .int (iI u.2.2)])), (qpd, .inl (cI, 3000, .inl u.2.1))]) ⟨xe, xb, xml, xo, xt⟩ (c_Row_addP l D cI hpd qpd nv fv sv 62 (by first | assumption | omega) (by first | assumption | omega)) k_Row_add mw_Printer_59 ⟨Nat.le_of_ble_eq_true rfl, Nat.le_of_ble_eq_true rfl⟩ xK xP xD xS xA rfl xl.1 rfl (Nat.le_of_ble_eq_true rfl) d_Printer_addCodes_158 ⟨Nat.zero_le _, Nat.zero_le _⟩ [8, 9] [0, 1, 2, 3, 4, 5, 6, 7] [0, 1, 2, 3, 4, 5, 6, 7, 8, 9] rfl rfl (by decide) (by decide) (by decide) (by decide) (fun _ => rfl) rfl rfl rfl ?_
            clear xP xD xS
            intro u H locs hw_84 xP xD xS
            obtain ⟨n2_81, f2_82, sp2_83⟩ := u
            try dsimp only at hw_84
            replace xP : va_P D classes [(hpr, .inr (4, [.ref hT, .ref hQ, .ref hpd, .ref qst, .ref qor, .int (iI pz)])), (hT, .inr (1, [.ref qk, .ref ql, .ref qc, .ref qtl, .ref qtg, .ref qty, .int (iI sz), .int (iI fr), .int (iI fl)])), (qk, .inl (cI, 120, .inl K)), (ql, .inl (cI, 120, .inl Ln)), (qc, .inl (cI, 4800, .inl C)), (qtl, .inl (cI, 120, .inl TL)), (qtg, .inl (cI, 1920, .inl TG)), (qty, .inl (cI, 120, .inl TY)), (hpd, .inr (0, [.ref qpd, .int (iI n2_81), .int (iI sp2_83)])), (qpd, .inl (cI, 3000, .inl f2_82))] H := xP
            replace xD : va_D xA0 [(hpr, .inr (4, [.ref hT, .ref hQ, .ref hpd, .ref qst, .ref qor, .int (iI pz)])), (hT, .inr (1, [.ref qk, .ref ql, .ref qc, .ref qtl, .ref qtg, .ref qty, .int (iI sz), .int (iI fr), .int (iI fl)])), (qk, .inl (cI, 120, .inl K)), (ql, .inl (cI, 120, .inl Ln)), (qc, .inl (cI, 4800, .inl C)), (qtl, .inl (cI, 120, .inl TL)), (qtg, .inl (cI, 1920, .inl TG)), (qty, .inl (cI, 120, .inl TY)), (hpd, .inr (0, [.ref qpd, .int (iI n2_81), .int (iI sp2_83)])), (qpd, .inl (cI, 3000, .inl f2_82))] := xD
            replace HC := Pw_trans hn.1 HC hw_84
            have hgr := Pw_rg HC
            clear hw_84
            exact xret _ _ _ _ (n2_81, f2_82, sp2_83) d_Printer_addCodes_161 (by first | exact (Pw_cast HC (by rw [show i = tI Ln t by omega]; rcases hb with ⟨h1, h2, h3⟩ | ⟨h1, h2, h3⟩; (first | (exfalso; omega) | (subst h1 h2; exact (if_pos h3).symm)); (first | (exfalso; omega) | (subst h1 h2; exact (if_neg h3).symm)))) | (dsimp only; exact (Pw_cast HC (by rw [show i = tI Ln t by omega]; rcases hb with ⟨h1, h2, h3⟩ | ⟨h1, h2, h3⟩; (first | (exfalso; omega) | (subst h1 h2; exact (if_pos h3).symm)); (first | (exfalso; omega) | (subst h1 h2; exact (if_neg h3).symm)))))) xP xD xS
          · refine lv_bipush (v := iI (34)) xe xb d_Printer_addCodes_151 (by decide) ?_
            refine lv_goto (tgt := 158) xe xb d_Printer_addCodes_153 (by decide) ?_
            refine tk_callVv (As := [.int (iI 34)]) (rest := []) (wr := [(hpr, .inr (4, [.ref hT, .ref hQ, .ref hpd, .ref qst, .ref qor, .int (iI pz)])), (hT, .inr (1, [.ref qk, .ref ql, .ref qc, .ref qtl, .ref qtg, .ref qty, .int (iI sz), .int (iI fr), .int (iI fl)])), (qk, .inl (cI, 120, .inl K)), (ql, .inl (cI, 120, .inl Ln)), (qc, .inl (cI, 4800, .inl C)), (qtl, .inl (cI, 120, .inl TL)), (qtg, .inl (cI, 1920, .inl TG)), (qty, .inl (cI, 120, .inl TY))]) (wn := fun u => [(hpr, .inr (4, [.ref hT, .ref hQ, .ref hpd, .ref qst, .ref qor, .int (iI pz)])), (hT, .inr (1, [.ref qk, .ref ql, .ref qc, .ref qtl, .ref qtg, .ref qty, .int (iI sz), .int (iI fr), .int (iI fl)])), (qk, .inl (cI, 120, .inl K)), (ql, .inl (cI, 120, .inl Ln)), (qc, .inl (cI, 4800, .inl C)), (qtl, .inl (cI, 120, .inl TL)), (qtg, .inl (cI, 1920, .inl TG)), (qty, .inl (cI, 120, .inl TY)), (hpd, .inr (0, [.ref qpd, .int (iI u.1), .int (iI u.2.2)])), (qpd, .inl (cI, 3000, .inl u.2.1))]) ⟨xe, xb, xml, xo, xt⟩ (c_Row_addP l D cI hpd qpd nv fv sv 34 (by first | assumption | omega) (by first | assumption | omega)) k_Row_add mw_Printer_59 ⟨Nat.le_of_ble_eq_true rfl, Nat.le_of_ble_eq_true rfl⟩ xK xP xD xS xA rfl xl.1 rfl (Nat.le_of_ble_eq_true rfl) d_Printer_addCodes_158 ⟨Nat.zero_le _, Nat.zero_le _⟩ [8, 9] [0, 1, 2, 3, 4, 5, 6, 7] [0, 1, 2, 3, 4, 5, 6, 7, 8, 9] rfl rfl (by decide) (by decide) (by decide) (by decide) (fun _ => rfl) rfl rfl rfl ?_
            clear xP xD xS
            intro u H locs hw_89 xP xD xS
            obtain ⟨n2_86, f2_87, sp2_88⟩ := u
            try dsimp only at hw_89
            replace xP : va_P D classes [(hpr, .inr (4, [.ref hT, .ref hQ, .ref hpd, .ref qst, .ref qor, .int (iI pz)])), (hT, .inr (1, [.ref qk, .ref ql, .ref qc, .ref qtl, .ref qtg, .ref qty, .int (iI sz), .int (iI fr), .int (iI fl)])), (qk, .inl (cI, 120, .inl K)), (ql, .inl (cI, 120, .inl Ln)), (qc, .inl (cI, 4800, .inl C)), (qtl, .inl (cI, 120, .inl TL)), (qtg, .inl (cI, 1920, .inl TG)), (qty, .inl (cI, 120, .inl TY)), (hpd, .inr (0, [.ref qpd, .int (iI n2_86), .int (iI sp2_88)])), (qpd, .inl (cI, 3000, .inl f2_87))] H := xP
            replace xD : va_D xA0 [(hpr, .inr (4, [.ref hT, .ref hQ, .ref hpd, .ref qst, .ref qor, .int (iI pz)])), (hT, .inr (1, [.ref qk, .ref ql, .ref qc, .ref qtl, .ref qtg, .ref qty, .int (iI sz), .int (iI fr), .int (iI fl)])), (qk, .inl (cI, 120, .inl K)), (ql, .inl (cI, 120, .inl Ln)), (qc, .inl (cI, 4800, .inl C)), (qtl, .inl (cI, 120, .inl TL)), (qtg, .inl (cI, 1920, .inl TG)), (qty, .inl (cI, 120, .inl TY)), (hpd, .inr (0, [.ref qpd, .int (iI n2_86), .int (iI sp2_88)])), (qpd, .inl (cI, 3000, .inl f2_87))] := xD
            replace HC := Pw_trans hn.1 HC hw_89
            have hgr := Pw_rg HC
            clear hw_89
            exact xret _ _ _ _ (n2_86, f2_87, sp2_88) d_Printer_addCodes_161 (by first | exact (Pw_cast HC (by rw [show i = tI Ln t by omega]; rcases hb with ⟨h1, h2, h3⟩ | ⟨h1, h2, h3⟩; (first | (exfalso; omega) | (subst h1 h2; exact (if_pos h3).symm)); (first | (exfalso; omega) | (subst h1 h2; exact (if_neg h3).symm)))) | (dsimp only; exact (Pw_cast HC (by rw [show i = tI Ln t by omega]; rcases hb with ⟨h1, h2, h3⟩ | ⟨h1, h2, h3⟩; (first | (exfalso; omega) | (subst h1 h2; exact (if_pos h3).symm)); (first | (exfalso; omega) | (subst h1 h2; exact (if_neg h3).symm)))))) xP xD xS
        · refine lv_aload_n xe xb d_Printer_addCodes_52 rfl (lv_at xl 0 rfl) ?_
          refine va_get (D := D) (ci := 4) (v := .ref hT) (C := R_Printer) (T := F_Printer) (N := 6) xe xb xt i_Printer xo xK xP 0 rfl rfl 0 (by decide) (xt _ mw_Printer_9) (fun _ h9 => h9) rfl d_Printer_addCodes_53 ?_
          refine lv_iload_n xe xb d_Printer_addCodes_56 rfl (lv_at xl 1 rfl) ?_
          refine lv_iload_n xe xb d_Printer_addCodes_57 rfl (lv_at xl 3 rfl) ?_
          refine tk_callVi (As := [.int (iI t), .int (iI i)]) (rest := []) (wr := [(hpr, .inr (4, [.ref hT, .ref hQ, .ref hpd, .ref qst, .ref qor, .int (iI pz)])), (hpd, .inr (0, [.ref qpd, .int (iI nv), .int (iI sv)])), (qpd, .inl (cI, 3000, .inl fv))]) (wn := fun u => [(hpr, .inr (4, [.ref hT, .ref hQ, .ref hpd, .ref qst, .ref qor, .int (iI pz)])), (hT, .inr (1, [.ref qk, .ref ql, .ref qc, .ref qtl, .ref qtg, .ref qty, .int (iI sz), .int (iI fr), .int (iI fl)])), (qk, .inl (cI, 120, .inl K)), (ql, .inl (cI, 120, .inl Ln)), (qc, .inl (cI, 4800, .inl C)), (qtl, .inl (cI, 120, .inl TL)), (qtg, .inl (cI, 1920, .inl TG)), (qty, .inl (cI, 120, .inl TY)), (hpd, .inr (0, [.ref qpd, .int (iI nv), .int (iI sv)])), (qpd, .inl (cI, 3000, .inl fv))]) ⟨xe, xb, xml, xo, xt⟩ (c_Terms_codeAt l D cI hT qk ql qc qtl qtg qty K Ln C TL TG TY sz fr fl t i (by first | assumption | omega) (by first | assumption | omega) (by first | assumption | omega)) k_Terms_codeAt mw_Printer_108 ⟨Nat.le_of_ble_eq_true rfl, Nat.le_of_ble_eq_true rfl⟩ xK xP xD xS xA rfl xl.1 rfl (Nat.le_of_ble_eq_true rfl) d_Printer_addCodes_58 ⟨Nat.zero_le _, Nat.zero_le _⟩ [1, 2, 3, 4, 5, 6, 7] [0, 8, 9] [0, 3, 4, 5, 6, 7, 8, 9, 1, 2] rfl rfl (by decide) (by decide) (by decide) (by decide) (fun _ => rfl) rfl rfl rfl ?_
          clear xP xD xS
          intro z_92 u H locs hr_93 hw_91 xP xD xS
          try dsimp only at hw_91
          replace xP : va_P D classes [(hpr, .inr (4, [.ref hT, .ref hQ, .ref hpd, .ref qst, .ref qor, .int (iI pz)])), (hT, .inr (1, [.ref qk, .ref ql, .ref qc, .ref qtl, .ref qtg, .ref qty, .int (iI sz), .int (iI fr), .int (iI fl)])), (qk, .inl (cI, 120, .inl K)), (ql, .inl (cI, 120, .inl Ln)), (qc, .inl (cI, 4800, .inl C)), (qtl, .inl (cI, 120, .inl TL)), (qtg, .inl (cI, 1920, .inl TG)), (qty, .inl (cI, 120, .inl TY)), (hpd, .inr (0, [.ref qpd, .int (iI nv), .int (iI sv)])), (qpd, .inl (cI, 3000, .inl fv))] H := xP
          replace xD : va_D xA0 [(hpr, .inr (4, [.ref hT, .ref hQ, .ref hpd, .ref qst, .ref qor, .int (iI pz)])), (hT, .inr (1, [.ref qk, .ref ql, .ref qc, .ref qtl, .ref qtg, .ref qty, .int (iI sz), .int (iI fr), .int (iI fl)])), (qk, .inl (cI, 120, .inl K)), (ql, .inl (cI, 120, .inl Ln)), (qc, .inl (cI, 4800, .inl C)), (qtl, .inl (cI, 120, .inl TL)), (qtg, .inl (cI, 1920, .inl TG)), (qty, .inl (cI, 120, .inl TY)), (hpd, .inr (0, [.ref qpd, .int (iI nv), .int (iI sv)])), (qpd, .inl (cI, 3000, .inl fv))] := xD
          have HG := hw_91
          rw [if_pos (by omega)] at HG
          refine lv_istore (lv' := [(4, .int (iI z_92)), (0, .ref hpr), (1, .int (iI t)), (2, .int (iI b)), (3, .int (iI i))]) xe xb d_Printer_addCodes_61 xl (by decide) rfl ?_
          clear xl
          intro ls xl
          refine lv_iload_n xe xb d_Printer_addCodes_63 rfl (lv_at xl 3 rfl) ?_
          refine tk_if_eq (tgt := 75) xe xb d_Printer_addCodes_64 (by decide) (by omega) (fun c_94 => ?_) (fun c_94 => ?_)
          · refine lv_iconst (v := iI (-1)) xe xb d_Printer_addCodes_75 rfl ?_
            refine lv_istore (lv' := [(5, .int (iI (-1))), (4, .int (iI z_92)), (0, .ref hpr), (1, .int (iI t)), (2, .int (iI b)), (3, .int (iI i))]) xe xb d_Printer_addCodes_76 xl (by decide) rfl ?_
            clear xl
            intro ls xl
            refine lv_iload xe xb d_Printer_addCodes_78 (lv_at xl 0 rfl) ?_
            refine lv_iconst (v := iI (-1)) xe xb d_Printer_addCodes_80 rfl ?_
            refine tk_icmp_eq (tgt := 105) xe xb d_Printer_addCodes_81 (by decide) (by omega) (fun C81 => ?_) (fun C81 => absurd C81 (by omega))
            refine lv_iload xe xb d_Printer_addCodes_105 (lv_at xl 1 rfl) ?_
            refine lv_bipush (v := iI (32)) xe xb d_Printer_addCodes_107 (by decide) ?_
            refine tk_icmp_lt (tgt := 131) xe xb d_Printer_addCodes_109 (by decide) (by omega) (fun c_95 => ?_) (fun c_95 => ?_)
            · refine lv_aload_n xe xb d_Printer_addCodes_131 rfl (lv_at xl 2 rfl) ?_
              refine lv_iload xe xb d_Printer_addCodes_132 (lv_at xl 1 rfl) ?_
              refine tk_callVv (As := [.int (iI z_92)]) (rest := []) (wr := [(hT, .inr (1, [.ref qk, .ref ql, .ref qc, .ref qtl, .ref qtg, .ref qty, .int (iI sz), .int (iI fr), .int (iI fl)])), (qk, .inl (cI, 120, .inl K)), (ql, .inl (cI, 120, .inl Ln)), (qc, .inl (cI, 4800, .inl C)), (qtl, .inl (cI, 120, .inl TL)), (qtg, .inl (cI, 1920, .inl TG)), (qty, .inl (cI, 120, .inl TY))]) (wn := fun u => [(hpr, .inr (4, [.ref hT, .ref hQ, .ref hpd, .ref qst, .ref qor, .int (iI pz)])), (hT, .inr (1, [.ref qk, .ref ql, .ref qc, .ref qtl, .ref qtg, .ref qty, .int (iI sz), .int (iI fr), .int (iI fl)])), (qk, .inl (cI, 120, .inl K)), (ql, .inl (cI, 120, .inl Ln)), (qc, .inl (cI, 4800, .inl C)), (qtl, .inl (cI, 120, .inl TL)), (qtg, .inl (cI, 1920, .inl TG)), (qty, .inl (cI, 120, .inl TY)), (hpd, .inr (0, [.ref qpd, .int (iI u.1), .int (iI u.2.2)])), (qpd, .inl (cI, 3000, .inl u.2.1))]) ⟨xe, xb, xml, xo, xt⟩ (c_Printer_addEscape l D cI hpr hT hQ hpd qst qor pz qpd nv fv sv z_92 (by first | assumption | omega) (by first | assumption | omega)) k_Printer_addEscape mw_Printer_114 ⟨Nat.le_of_ble_eq_true rfl, Nat.le_of_ble_eq_true rfl⟩ xK xP xD xS xA rfl xl.1 rfl (Nat.le_of_ble_eq_true rfl) d_Printer_addCodes_134 ⟨Nat.zero_le _, Nat.zero_le _⟩ [0, 8, 9] [1, 2, 3, 4, 5, 6, 7] [7, 0, 1, 2, 3, 4, 5, 6, 8, 9] rfl rfl (by decide) (by decide) (by decide) (by decide) (fun _ => rfl) rfl rfl rfl ?_
              clear xP xD xS
              intro u H locs hw_99 xP xD xS
              obtain ⟨n2_96, f2_97, sp2_98⟩ := u
              try dsimp only at hw_99
              replace xP : va_P D classes [(hpr, .inr (4, [.ref hT, .ref hQ, .ref hpd, .ref qst, .ref qor, .int (iI pz)])), (hT, .inr (1, [.ref qk, .ref ql, .ref qc, .ref qtl, .ref qtg, .ref qty, .int (iI sz), .int (iI fr), .int (iI fl)])), (qk, .inl (cI, 120, .inl K)), (ql, .inl (cI, 120, .inl Ln)), (qc, .inl (cI, 4800, .inl C)), (qtl, .inl (cI, 120, .inl TL)), (qtg, .inl (cI, 1920, .inl TG)), (qty, .inl (cI, 120, .inl TY)), (hpd, .inr (0, [.ref qpd, .int (iI n2_96), .int (iI sp2_98)])), (qpd, .inl (cI, 3000, .inl f2_97))] H := xP
              replace xD : va_D xA0 [(hpr, .inr (4, [.ref hT, .ref hQ, .ref hpd, .ref qst, .ref qor, .int (iI pz)])), (hT, .inr (1, [.ref qk, .ref ql, .ref qc, .ref qtl, .ref qtg, .ref qty, .int (iI sz), .int (iI fr), .int (iI fl)])), (qk, .inl (cI, 120, .inl K)), (ql, .inl (cI, 120, .inl Ln)), (qc, .inl (cI, 4800, .inl C)), (qtl, .inl (cI, 120, .inl TL)), (qtg, .inl (cI, 1920, .inl TG)), (qty, .inl (cI, 120, .inl TY)), (hpd, .inr (0, [.ref qpd, .int (iI n2_96), .int (iI sp2_98)])), (qpd, .inl (cI, 3000, .inl f2_97))] := xD
              replace HC := Pw_trans hn.1 HC hw_99
              have hgr := Pw_rg HC
              clear hw_99
              refine tk_iinc (v := (i + 1)) (lv' := [(3, .int (iI (i + 1))), (5, .int (iI (-1))), (4, .int (iI z_92)), (0, .ref hpr), (1, .int (iI t)), (2, .int (iI b))]) xe xb d_Printer_addCodes_137 xl (k := 5) rfl rfl (by decide) rfl ?_
              clear xl
              intro ls xl
              refine lv_goto (tgt := 39) xe xb d_Printer_addCodes_140 (by decide) ?_
              exact ih_39 o b (i + 1) n2_96 f2_97 sp2_98 (by omega) (by first | assumption | omega) (by first | assumption | omega) (Pw_cast HC (cts_step hi.1 HG (by unfold ct; rw [if_neg (by rintro ⟨h1, h2⟩; omega), if_neg (by rintro ⟨h1, h2⟩; omega)]))) _ _ xP xD xS ls (lv_sub xl [3, 4, 5, 0] rfl)
            · refine lv_iload xe xb d_Printer_addCodes_112 (lv_at xl 1 rfl) ?_
              refine lv_bipush (v := iI (126)) xe xb d_Printer_addCodes_114 (by decide) ?_
              refine tk_icmp_gt (tgt := 131) xe xb d_Printer_addCodes_116 (by decide) (by omega) (fun c_101 => ?_) (fun c_101 => ?_)
              · refine lv_aload_n xe xb d_Printer_addCodes_131 rfl (lv_at xl 2 rfl) ?_
                refine lv_iload xe xb d_Printer_addCodes_132 (lv_at xl 1 rfl) ?_
                refine tk_callVv (As := [.int (iI z_92)]) (rest := []) (wr := [(hT, .inr (1, [.ref qk, .ref ql, .ref qc, .ref qtl, .ref qtg, .ref qty, .int (iI sz), .int (iI fr), .int (iI fl)])), (qk, .inl (cI, 120, .inl K)), (ql, .inl (cI, 120, .inl Ln)), (qc, .inl (cI, 4800, .inl C)), (qtl, .inl (cI, 120, .inl TL)), (qtg, .inl (cI, 1920, .inl TG)), (qty, .inl (cI, 120, .inl TY))]) (wn := fun u => [(hpr, .inr (4, [.ref hT, .ref hQ, .ref hpd, .ref qst, .ref qor, .int (iI pz)])), (hT, .inr (1, [.ref qk, .ref ql, .ref qc, .ref qtl, .ref qtg, .ref qty, .int (iI sz), .int (iI fr), .int (iI fl)])), (qk, .inl (cI, 120, .inl K)), (ql, .inl (cI, 120, .inl Ln)), (qc, .inl (cI, 4800, .inl C)), (qtl, .inl (cI, 120, .inl TL)), (qtg, .inl (cI, 1920, .inl TG)), (qty, .inl (cI, 120, .inl TY)), (hpd, .inr (0, [.ref qpd, .int (iI u.1), .int (iI u.2.2)])), (qpd, .inl (cI, 3000, .inl u.2.1))]) ⟨xe, xb, xml, xo, xt⟩ (c_Printer_addEscape l D cI hpr hT hQ hpd qst qor pz qpd nv fv sv z_92 (by first | assumption | omega) (by first | assumption | omega)) k_Printer_addEscape mw_Printer_114 ⟨Nat.le_of_ble_eq_true rfl, Nat.le_of_ble_eq_true rfl⟩ xK xP xD xS xA rfl xl.1 rfl (Nat.le_of_ble_eq_true rfl) d_Printer_addCodes_134 ⟨Nat.zero_le _, Nat.zero_le _⟩ [0, 8, 9] [1, 2, 3, 4, 5, 6, 7] [7, 0, 1, 2, 3, 4, 5, 6, 8, 9] rfl rfl (by decide) (by decide) (by decide) (by decide) (fun _ => rfl) rfl rfl rfl ?_
                clear xP xD xS
                intro u H locs hw_105 xP xD xS
                obtain ⟨n2_102, f2_103, sp2_104⟩ := u
                try dsimp only at hw_105
                replace xP : va_P D classes [(hpr, .inr (4, [.ref hT, .ref hQ, .ref hpd, .ref qst, .ref qor, .int (iI pz)])), (hT, .inr (1, [.ref qk, .ref ql, .ref qc, .ref qtl, .ref qtg, .ref qty, .int (iI sz), .int (iI fr), .int (iI fl)])), (qk, .inl (cI, 120, .inl K)), (ql, .inl (cI, 120, .inl Ln)), (qc, .inl (cI, 4800, .inl C)), (qtl, .inl (cI, 120, .inl TL)), (qtg, .inl (cI, 1920, .inl TG)), (qty, .inl (cI, 120, .inl TY)), (hpd, .inr (0, [.ref qpd, .int (iI n2_102), .int (iI sp2_104)])), (qpd, .inl (cI, 3000, .inl f2_103))] H := xP
                replace xD : va_D xA0 [(hpr, .inr (4, [.ref hT, .ref hQ, .ref hpd, .ref qst, .ref qor, .int (iI pz)])), (hT, .inr (1, [.ref qk, .ref ql, .ref qc, .ref qtl, .ref qtg, .ref qty, .int (iI sz), .int (iI fr), .int (iI fl)])), (qk, .inl (cI, 120, .inl K)), (ql, .inl (cI, 120, .inl Ln)), (qc, .inl (cI, 4800, .inl C)), (qtl, .inl (cI, 120, .inl TL)), (qtg, .inl (cI, 1920, .inl TG)), (qty, .inl (cI, 120, .inl TY)), (hpd, .inr (0, [.ref qpd, .int (iI n2_102), .int (iI sp2_104)])), (qpd, .inl (cI, 3000, .inl f2_103))] := xD
                replace HC := Pw_trans hn.1 HC hw_105
                have hgr := Pw_rg HC
                clear hw_105
                refine tk_iinc (v := (i + 1)) (lv' := [(3, .int (iI (i + 1))), (5, .int (iI (-1))), (4, .int (iI z_92)), (0, .ref hpr), (1, .int (iI t)), (2, .int (iI b))]) xe xb d_Printer_addCodes_137 xl (k := 5) rfl rfl (by decide) rfl ?_
                clear xl
                intro ls xl
                refine lv_goto (tgt := 39) xe xb d_Printer_addCodes_140 (by decide) ?_
                exact ih_39 o b (i + 1) n2_102 f2_103 sp2_104 (by omega) (by first | assumption | omega) (by first | assumption | omega) (Pw_cast HC (cts_step hi.1 HG (by unfold ct; rw [if_neg (by rintro ⟨h1, h2⟩; omega), if_neg (by rintro ⟨h1, h2⟩; omega)]))) _ _ xP xD xS ls (lv_sub xl [3, 4, 5, 0] rfl)
              · refine lv_aload_n xe xb d_Printer_addCodes_119 rfl (lv_at xl 2 rfl) ?_
                refine va_get (D := D) (ci := 4) (v := .ref hpd) (C := R_Printer) (T := F_Printer) (N := 6) xe xb xt i_Printer xo xK xP 0 rfl rfl 2 (by decide) (xt _ mw_Printer_24) (fun _ h9 => h9) rfl d_Printer_addCodes_120 ?_
                refine lv_iload xe xb d_Printer_addCodes_123 (lv_at xl 1 rfl) ?_
                refine tk_callVv (As := [.int (iI z_92)]) (rest := []) (wr := [(hpr, .inr (4, [.ref hT, .ref hQ, .ref hpd, .ref qst, .ref qor, .int (iI pz)])), (hT, .inr (1, [.ref qk, .ref ql, .ref qc, .ref qtl, .ref qtg, .ref qty, .int (iI sz), .int (iI fr), .int (iI fl)])), (qk, .inl (cI, 120, .inl K)), (ql, .inl (cI, 120, .inl Ln)), (qc, .inl (cI, 4800, .inl C)), (qtl, .inl (cI, 120, .inl TL)), (qtg, .inl (cI, 1920, .inl TG)), (qty, .inl (cI, 120, .inl TY))]) (wn := fun u => [(hpr, .inr (4, [.ref hT, .ref hQ, .ref hpd, .ref qst, .ref qor, .int (iI pz)])), (hT, .inr (1, [.ref qk, .ref ql, .ref qc, .ref qtl, .ref qtg, .ref qty, .int (iI sz), .int (iI fr), .int (iI fl)])), (qk, .inl (cI, 120, .inl K)), (ql, .inl (cI, 120, .inl Ln)), (qc, .inl (cI, 4800, .inl C)), (qtl, .inl (cI, 120, .inl TL)), (qtg, .inl (cI, 1920, .inl TG)), (qty, .inl (cI, 120, .inl TY)), (hpd, .inr (0, [.ref qpd, .int (iI u.1), .int (iI u.2.2)])), (qpd, .inl (cI, 3000, .inl u.2.1))]) ⟨xe, xb, xml, xo, xt⟩ (c_Row_addP l D cI hpd qpd nv fv sv z_92 (by first | assumption | omega) (by first | assumption | omega)) k_Row_add mw_Printer_59 ⟨Nat.le_of_ble_eq_true rfl, Nat.le_of_ble_eq_true rfl⟩ xK xP xD xS xA rfl xl.1 rfl (Nat.le_of_ble_eq_true rfl) d_Printer_addCodes_125 ⟨Nat.zero_le _, Nat.zero_le _⟩ [8, 9] [0, 1, 2, 3, 4, 5, 6, 7] [0, 1, 2, 3, 4, 5, 6, 7, 8, 9] rfl rfl (by decide) (by decide) (by decide) (by decide) (fun _ => rfl) rfl rfl rfl ?_
                clear xP xD xS
                intro u H locs hw_110 xP xD xS
                obtain ⟨n2_107, f2_108, sp2_109⟩ := u
                try dsimp only at hw_110
                replace xP : va_P D classes [(hpr, .inr (4, [.ref hT, .ref hQ, .ref hpd, .ref qst, .ref qor, .int (iI pz)])), (hT, .inr (1, [.ref qk, .ref ql, .ref qc, .ref qtl, .ref qtg, .ref qty, .int (iI sz), .int (iI fr), .int (iI fl)])), (qk, .inl (cI, 120, .inl K)), (ql, .inl (cI, 120, .inl Ln)), (qc, .inl (cI, 4800, .inl C)), (qtl, .inl (cI, 120, .inl TL)), (qtg, .inl (cI, 1920, .inl TG)), (qty, .inl (cI, 120, .inl TY)), (hpd, .inr (0, [.ref qpd, .int (iI n2_107), .int (iI sp2_109)])), (qpd, .inl (cI, 3000, .inl f2_108))] H := xP
                replace xD : va_D xA0 [(hpr, .inr (4, [.ref hT, .ref hQ, .ref hpd, .ref qst, .ref qor, .int (iI pz)])), (hT, .inr (1, [.ref qk, .ref ql, .ref qc, .ref qtl, .ref qtg, .ref qty, .int (iI sz), .int (iI fr), .int (iI fl)])), (qk, .inl (cI, 120, .inl K)), (ql, .inl (cI, 120, .inl Ln)), (qc, .inl (cI, 4800, .inl C)), (qtl, .inl (cI, 120, .inl TL)), (qtg, .inl (cI, 1920, .inl TG)), (qty, .inl (cI, 120, .inl TY)), (hpd, .inr (0, [.ref qpd, .int (iI n2_107), .int (iI sp2_109)])), (qpd, .inl (cI, 3000, .inl f2_108))] := xD
                replace HC := Pw_trans hn.1 HC hw_110
                have hgr := Pw_rg HC
                clear hw_110
                refine lv_goto (tgt := 137) xe xb d_Printer_addCodes_128 (by decide) ?_
                refine tk_iinc (v := (i + 1)) (lv' := [(3, .int (iI (i + 1))), (5, .int (iI (-1))), (4, .int (iI z_92)), (0, .ref hpr), (1, .int (iI t)), (2, .int (iI b))]) xe xb d_Printer_addCodes_137 xl (k := 5) rfl rfl (by decide) rfl ?_
                clear xl
                intro ls xl
                refine lv_goto (tgt := 39) xe xb d_Printer_addCodes_140 (by decide) ?_
                exact ih_39 o b (i + 1) n2_107 f2_108 sp2_109 (by omega) (by first | assumption | omega) (by first | assumption | omega) (Pw_cast HC (cts_step hi.1 HG (by unfold ct; rw [if_neg (by rintro ⟨h1, h2⟩; omega), if_pos ⟨by omega, by omega⟩]))) _ _ xP xD xS ls (lv_sub xl [3, 4, 5, 0] rfl)
          · refine lv_iload xe xb d_Printer_addCodes_67 (lv_at xl 0 rfl) ?_
            refine tk_callSi (As := [.int (iI z_92)]) (rest := []) (wr := [(hpr, .inr (4, [.ref hT, .ref hQ, .ref hpd, .ref qst, .ref qor, .int (iI pz)])), (hT, .inr (1, [.ref qk, .ref ql, .ref qc, .ref qtl, .ref qtg, .ref qty, .int (iI sz), .int (iI fr), .int (iI fl)])), (qk, .inl (cI, 120, .inl K)), (ql, .inl (cI, 120, .inl Ln)), (qc, .inl (cI, 4800, .inl C)), (qtl, .inl (cI, 120, .inl TL)), (qtg, .inl (cI, 1920, .inl TG)), (qty, .inl (cI, 120, .inl TY)), (hpd, .inr (0, [.ref qpd, .int (iI nv), .int (iI sv)])), (qpd, .inl (cI, 3000, .inl fv))]) (wn := fun u => [(hpr, .inr (4, [.ref hT, .ref hQ, .ref hpd, .ref qst, .ref qor, .int (iI pz)])), (hT, .inr (1, [.ref qk, .ref ql, .ref qc, .ref qtl, .ref qtg, .ref qty, .int (iI sz), .int (iI fr), .int (iI fl)])), (qk, .inl (cI, 120, .inl K)), (ql, .inl (cI, 120, .inl Ln)), (qc, .inl (cI, 4800, .inl C)), (qtl, .inl (cI, 120, .inl TL)), (qtg, .inl (cI, 1920, .inl TG)), (qty, .inl (cI, 120, .inl TY)), (hpd, .inr (0, [.ref qpd, .int (iI nv), .int (iI sv)])), (qpd, .inl (cI, 3000, .inl fv))]) ⟨xe, xb, xml, xo, xt⟩ (c_Printer_signLetter l D cI z_92 (by first | assumption | omega)) k_Printer_signLetter mw_Printer_111 ⟨Nat.le_of_ble_eq_true rfl, Nat.le_of_ble_eq_true rfl⟩ xK xP xD xS xA rfl xl.1 rfl (Nat.le_of_ble_eq_true rfl) d_Printer_addCodes_69 ⟨Nat.zero_le _, Nat.zero_le _⟩ [] [0, 1, 2, 3, 4, 5, 6, 7, 8, 9] [0, 1, 2, 3, 4, 5, 6, 7, 8, 9] rfl rfl (by decide) (by decide) (by decide) (by decide) (fun _ => rfl) ?_
            clear xP xD xS
            intro z_113 u H locs hr_114 hw_112 xP xD xS
            try dsimp only at hw_112
            replace xP : va_P D classes [(hpr, .inr (4, [.ref hT, .ref hQ, .ref hpd, .ref qst, .ref qor, .int (iI pz)])), (hT, .inr (1, [.ref qk, .ref ql, .ref qc, .ref qtl, .ref qtg, .ref qty, .int (iI sz), .int (iI fr), .int (iI fl)])), (qk, .inl (cI, 120, .inl K)), (ql, .inl (cI, 120, .inl Ln)), (qc, .inl (cI, 4800, .inl C)), (qtl, .inl (cI, 120, .inl TL)), (qtg, .inl (cI, 1920, .inl TG)), (qty, .inl (cI, 120, .inl TY)), (hpd, .inr (0, [.ref qpd, .int (iI nv), .int (iI sv)])), (qpd, .inl (cI, 3000, .inl fv))] H := xP
            replace xD : va_D xA0 [(hpr, .inr (4, [.ref hT, .ref hQ, .ref hpd, .ref qst, .ref qor, .int (iI pz)])), (hT, .inr (1, [.ref qk, .ref ql, .ref qc, .ref qtl, .ref qtg, .ref qty, .int (iI sz), .int (iI fr), .int (iI fl)])), (qk, .inl (cI, 120, .inl K)), (ql, .inl (cI, 120, .inl Ln)), (qc, .inl (cI, 4800, .inl C)), (qtl, .inl (cI, 120, .inl TL)), (qtg, .inl (cI, 1920, .inl TG)), (qty, .inl (cI, 120, .inl TY)), (hpd, .inr (0, [.ref qpd, .int (iI nv), .int (iI sv)])), (qpd, .inl (cI, 3000, .inl fv))] := xD
            have HS := hw_112
            refine lv_goto (tgt := 76) xe xb d_Printer_addCodes_72 (by decide) ?_
            refine lv_istore (lv' := [(5, .int (iI z_113)), (4, .int (iI z_92)), (0, .ref hpr), (1, .int (iI t)), (2, .int (iI b)), (3, .int (iI i))]) xe xb d_Printer_addCodes_76 xl (by decide) rfl ?_
            clear xl
            intro ls xl
            refine lv_iload xe xb d_Printer_addCodes_78 (lv_at xl 0 rfl) ?_
            refine lv_iconst (v := iI (-1)) xe xb d_Printer_addCodes_80 rfl ?_
            refine tk_icmp_eq (tgt := 105) xe xb d_Printer_addCodes_81 (by decide) (by omega) (fun C81 => ?_) (fun C81 => ?_)
            · refine lv_iload xe xb d_Printer_addCodes_105 (lv_at xl 1 rfl) ?_
              refine lv_bipush (v := iI (32)) xe xb d_Printer_addCodes_107 (by decide) ?_
              refine tk_icmp_lt (tgt := 131) xe xb d_Printer_addCodes_109 (by decide) (by omega) (fun c_115 => ?_) (fun c_115 => ?_)
              · refine lv_aload_n xe xb d_Printer_addCodes_131 rfl (lv_at xl 2 rfl) ?_
                refine lv_iload xe xb d_Printer_addCodes_132 (lv_at xl 1 rfl) ?_
                refine tk_callVv (As := [.int (iI z_92)]) (rest := []) (wr := [(hT, .inr (1, [.ref qk, .ref ql, .ref qc, .ref qtl, .ref qtg, .ref qty, .int (iI sz), .int (iI fr), .int (iI fl)])), (qk, .inl (cI, 120, .inl K)), (ql, .inl (cI, 120, .inl Ln)), (qc, .inl (cI, 4800, .inl C)), (qtl, .inl (cI, 120, .inl TL)), (qtg, .inl (cI, 1920, .inl TG)), (qty, .inl (cI, 120, .inl TY))]) (wn := fun u => [(hpr, .inr (4, [.ref hT, .ref hQ, .ref hpd, .ref qst, .ref qor, .int (iI pz)])), (hT, .inr (1, [.ref qk, .ref ql, .ref qc, .ref qtl, .ref qtg, .ref qty, .int (iI sz), .int (iI fr), .int (iI fl)])), (qk, .inl (cI, 120, .inl K)), (ql, .inl (cI, 120, .inl Ln)), (qc, .inl (cI, 4800, .inl C)), (qtl, .inl (cI, 120, .inl TL)), (qtg, .inl (cI, 1920, .inl TG)), (qty, .inl (cI, 120, .inl TY)), (hpd, .inr (0, [.ref qpd, .int (iI u.1), .int (iI u.2.2)])), (qpd, .inl (cI, 3000, .inl u.2.1))]) ⟨xe, xb, xml, xo, xt⟩ (c_Printer_addEscape l D cI hpr hT hQ hpd qst qor pz qpd nv fv sv z_92 (by first | assumption | omega) (by first | assumption | omega)) k_Printer_addEscape mw_Printer_114 ⟨Nat.le_of_ble_eq_true rfl, Nat.le_of_ble_eq_true rfl⟩ xK xP xD xS xA rfl xl.1 rfl (Nat.le_of_ble_eq_true rfl) d_Printer_addCodes_134 ⟨Nat.zero_le _, Nat.zero_le _⟩ [0, 8, 9] [1, 2, 3, 4, 5, 6, 7] [7, 0, 1, 2, 3, 4, 5, 6, 8, 9] rfl rfl (by decide) (by decide) (by decide) (by decide) (fun _ => rfl) rfl rfl rfl ?_
                clear xP xD xS
                intro u H locs hw_119 xP xD xS
                obtain ⟨n2_116, f2_117, sp2_118⟩ := u
                try dsimp only at hw_119
                replace xP : va_P D classes [(hpr, .inr (4, [.ref hT, .ref hQ, .ref hpd, .ref qst, .ref qor, .int (iI pz)])), (hT, .inr (1, [.ref qk, .ref ql, .ref qc, .ref qtl, .ref qtg, .ref qty, .int (iI sz), .int (iI fr), .int (iI fl)])), (qk, .inl (cI, 120, .inl K)), (ql, .inl (cI, 120, .inl Ln)), (qc, .inl (cI, 4800, .inl C)), (qtl, .inl (cI, 120, .inl TL)), (qtg, .inl (cI, 1920, .inl TG)), (qty, .inl (cI, 120, .inl TY)), (hpd, .inr (0, [.ref qpd, .int (iI n2_116), .int (iI sp2_118)])), (qpd, .inl (cI, 3000, .inl f2_117))] H := xP
                replace xD : va_D xA0 [(hpr, .inr (4, [.ref hT, .ref hQ, .ref hpd, .ref qst, .ref qor, .int (iI pz)])), (hT, .inr (1, [.ref qk, .ref ql, .ref qc, .ref qtl, .ref qtg, .ref qty, .int (iI sz), .int (iI fr), .int (iI fl)])), (qk, .inl (cI, 120, .inl K)), (ql, .inl (cI, 120, .inl Ln)), (qc, .inl (cI, 4800, .inl C)), (qtl, .inl (cI, 120, .inl TL)), (qtg, .inl (cI, 1920, .inl TG)), (qty, .inl (cI, 120, .inl TY)), (hpd, .inr (0, [.ref qpd, .int (iI n2_116), .int (iI sp2_118)])), (qpd, .inl (cI, 3000, .inl f2_117))] := xD
                replace HC := Pw_trans hn.1 HC hw_119
                have hgr := Pw_rg HC
                clear hw_119
                refine tk_iinc (v := (i + 1)) (lv' := [(3, .int (iI (i + 1))), (5, .int (iI z_113)), (4, .int (iI z_92)), (0, .ref hpr), (1, .int (iI t)), (2, .int (iI b))]) xe xb d_Printer_addCodes_137 xl (k := 5) rfl rfl (by decide) rfl ?_
                clear xl
                intro ls xl
                refine lv_goto (tgt := 39) xe xb d_Printer_addCodes_140 (by decide) ?_
                exact ih_39 o b (i + 1) n2_116 f2_117 sp2_118 (by omega) (by first | assumption | omega) (by first | assumption | omega) (Pw_cast HC (cts_step hi.1 HG (by unfold ct; rw [if_neg (by rintro ⟨h1, h2⟩; omega), if_neg (by rintro ⟨h1, h2⟩; omega)]))) _ _ xP xD xS ls (lv_sub xl [3, 4, 5, 0] rfl)
              · refine lv_iload xe xb d_Printer_addCodes_112 (lv_at xl 1 rfl) ?_
                refine lv_bipush (v := iI (126)) xe xb d_Printer_addCodes_114 (by decide) ?_
                refine tk_icmp_gt (tgt := 131) xe xb d_Printer_addCodes_116 (by decide) (by omega) (fun c_121 => ?_) (fun c_121 => ?_)
                · refine lv_aload_n xe xb d_Printer_addCodes_131 rfl (lv_at xl 2 rfl) ?_
                  refine lv_iload xe xb d_Printer_addCodes_132 (lv_at xl 1 rfl) ?_
                  refine tk_callVv (As := [.int (iI z_92)]) (rest := []) (wr := [(hT, .inr (1, [.ref qk, .ref ql, .ref qc, .ref qtl, .ref qtg, .ref qty, .int (iI sz), .int (iI fr), .int (iI fl)])), (qk, .inl (cI, 120, .inl K)), (ql, .inl (cI, 120, .inl Ln)), (qc, .inl (cI, 4800, .inl C)), (qtl, .inl (cI, 120, .inl TL)), (qtg, .inl (cI, 1920, .inl TG)), (qty, .inl (cI, 120, .inl TY))]) (wn := fun u => [(hpr, .inr (4, [.ref hT, .ref hQ, .ref hpd, .ref qst, .ref qor, .int (iI pz)])), (hT, .inr (1, [.ref qk, .ref ql, .ref qc, .ref qtl, .ref qtg, .ref qty, .int (iI sz), .int (iI fr), .int (iI fl)])), (qk, .inl (cI, 120, .inl K)), (ql, .inl (cI, 120, .inl Ln)), (qc, .inl (cI, 4800, .inl C)), (qtl, .inl (cI, 120, .inl TL)), (qtg, .inl (cI, 1920, .inl TG)), (qty, .inl (cI, 120, .inl TY)), (hpd, .inr (0, [.ref qpd, .int (iI u.1), .int (iI u.2.2)])), (qpd, .inl (cI, 3000, .inl u.2.1))]) ⟨xe, xb, xml, xo, xt⟩ (c_Printer_addEscape l D cI hpr hT hQ hpd qst qor pz qpd nv fv sv z_92 (by first | assumption | omega) (by first | assumption | omega)) k_Printer_addEscape mw_Printer_114 ⟨Nat.le_of_ble_eq_true rfl, Nat.le_of_ble_eq_true rfl⟩ xK xP xD xS xA rfl xl.1 rfl (Nat.le_of_ble_eq_true rfl) d_Printer_addCodes_134 ⟨Nat.zero_le _, Nat.zero_le _⟩ [0, 8, 9] [1, 2, 3, 4, 5, 6, 7] [7, 0, 1, 2, 3, 4, 5, 6, 8, 9] rfl rfl (by decide) (by decide) (by decide) (by decide) (fun _ => rfl) rfl rfl rfl ?_
                  clear xP xD xS
                  intro u H locs hw_125 xP xD xS
                  obtain ⟨n2_122, f2_123, sp2_124⟩ := u
                  try dsimp only at hw_125
                  replace xP : va_P D classes [(hpr, .inr (4, [.ref hT, .ref hQ, .ref hpd, .ref qst, .ref qor, .int (iI pz)])), (hT, .inr (1, [.ref qk, .ref ql, .ref qc, .ref qtl, .ref qtg, .ref qty, .int (iI sz), .int (iI fr), .int (iI fl)])), (qk, .inl (cI, 120, .inl K)), (ql, .inl (cI, 120, .inl Ln)), (qc, .inl (cI, 4800, .inl C)), (qtl, .inl (cI, 120, .inl TL)), (qtg, .inl (cI, 1920, .inl TG)), (qty, .inl (cI, 120, .inl TY)), (hpd, .inr (0, [.ref qpd, .int (iI n2_122), .int (iI sp2_124)])), (qpd, .inl (cI, 3000, .inl f2_123))] H := xP
                  replace xD : va_D xA0 [(hpr, .inr (4, [.ref hT, .ref hQ, .ref hpd, .ref qst, .ref qor, .int (iI pz)])), (hT, .inr (1, [.ref qk, .ref ql, .ref qc, .ref qtl, .ref qtg, .ref qty, .int (iI sz), .int (iI fr), .int (iI fl)])), (qk, .inl (cI, 120, .inl K)), (ql, .inl (cI, 120, .inl Ln)), (qc, .inl (cI, 4800, .inl C)), (qtl, .inl (cI, 120, .inl TL)), (qtg, .inl (cI, 1920, .inl TG)), (qty, .inl (cI, 120, .inl TY)), (hpd, .inr (0, [.ref qpd, .int (iI n2_122), .int (iI sp2_124)])), (qpd, .inl (cI, 3000, .inl f2_123))] := xD
                  replace HC := Pw_trans hn.1 HC hw_125
                  have hgr := Pw_rg HC
                  clear hw_125
                  refine tk_iinc (v := (i + 1)) (lv' := [(3, .int (iI (i + 1))), (5, .int (iI z_113)), (4, .int (iI z_92)), (0, .ref hpr), (1, .int (iI t)), (2, .int (iI b))]) xe xb d_Printer_addCodes_137 xl (k := 5) rfl rfl (by decide) rfl ?_
                  clear xl
                  intro ls xl
                  refine lv_goto (tgt := 39) xe xb d_Printer_addCodes_140 (by decide) ?_
                  exact ih_39 o b (i + 1) n2_122 f2_123 sp2_124 (by omega) (by first | assumption | omega) (by first | assumption | omega) (Pw_cast HC (cts_step hi.1 HG (by unfold ct; rw [if_neg (by rintro ⟨h1, h2⟩; omega), if_neg (by rintro ⟨h1, h2⟩; omega)]))) _ _ xP xD xS ls (lv_sub xl [3, 4, 5, 0] rfl)
                · refine lv_aload_n xe xb d_Printer_addCodes_119 rfl (lv_at xl 2 rfl) ?_
                  refine va_get (D := D) (ci := 4) (v := .ref hpd) (C := R_Printer) (T := F_Printer) (N := 6) xe xb xt i_Printer xo xK xP 0 rfl rfl 2 (by decide) (xt _ mw_Printer_24) (fun _ h9 => h9) rfl d_Printer_addCodes_120 ?_
                  refine lv_iload xe xb d_Printer_addCodes_123 (lv_at xl 1 rfl) ?_
                  refine tk_callVv (As := [.int (iI z_92)]) (rest := []) (wr := [(hpr, .inr (4, [.ref hT, .ref hQ, .ref hpd, .ref qst, .ref qor, .int (iI pz)])), (hT, .inr (1, [.ref qk, .ref ql, .ref qc, .ref qtl, .ref qtg, .ref qty, .int (iI sz), .int (iI fr), .int (iI fl)])), (qk, .inl (cI, 120, .inl K)), (ql, .inl (cI, 120, .inl Ln)), (qc, .inl (cI, 4800, .inl C)), (qtl, .inl (cI, 120, .inl TL)), (qtg, .inl (cI, 1920, .inl TG)), (qty, .inl (cI, 120, .inl TY))]) (wn := fun u => [(hpr, .inr (4, [.ref hT, .ref hQ, .ref hpd, .ref qst, .ref qor, .int (iI pz)])), (hT, .inr (1, [.ref qk, .ref ql, .ref qc, .ref qtl, .ref qtg, .ref qty, .int (iI sz), .int (iI fr), .int (iI fl)])), (qk, .inl (cI, 120, .inl K)), (ql, .inl (cI, 120, .inl Ln)), (qc, .inl (cI, 4800, .inl C)), (qtl, .inl (cI, 120, .inl TL)), (qtg, .inl (cI, 1920, .inl TG)), (qty, .inl (cI, 120, .inl TY)), (hpd, .inr (0, [.ref qpd, .int (iI u.1), .int (iI u.2.2)])), (qpd, .inl (cI, 3000, .inl u.2.1))]) ⟨xe, xb, xml, xo, xt⟩ (c_Row_addP l D cI hpd qpd nv fv sv z_92 (by first | assumption | omega) (by first | assumption | omega)) k_Row_add mw_Printer_59 ⟨Nat.le_of_ble_eq_true rfl, Nat.le_of_ble_eq_true rfl⟩ xK xP xD xS xA rfl xl.1 rfl (Nat.le_of_ble_eq_true rfl) d_Printer_addCodes_125 ⟨Nat.zero_le _, Nat.zero_le _⟩ [8, 9] [0, 1, 2, 3, 4, 5, 6, 7] [0, 1, 2, 3, 4, 5, 6, 7, 8, 9] rfl rfl (by decide) (by decide) (by decide) (by decide) (fun _ => rfl) rfl rfl rfl ?_
                  clear xP xD xS
                  intro u H locs hw_130 xP xD xS
                  obtain ⟨n2_127, f2_128, sp2_129⟩ := u
                  try dsimp only at hw_130
                  replace xP : va_P D classes [(hpr, .inr (4, [.ref hT, .ref hQ, .ref hpd, .ref qst, .ref qor, .int (iI pz)])), (hT, .inr (1, [.ref qk, .ref ql, .ref qc, .ref qtl, .ref qtg, .ref qty, .int (iI sz), .int (iI fr), .int (iI fl)])), (qk, .inl (cI, 120, .inl K)), (ql, .inl (cI, 120, .inl Ln)), (qc, .inl (cI, 4800, .inl C)), (qtl, .inl (cI, 120, .inl TL)), (qtg, .inl (cI, 1920, .inl TG)), (qty, .inl (cI, 120, .inl TY)), (hpd, .inr (0, [.ref qpd, .int (iI n2_127), .int (iI sp2_129)])), (qpd, .inl (cI, 3000, .inl f2_128))] H := xP
                  replace xD : va_D xA0 [(hpr, .inr (4, [.ref hT, .ref hQ, .ref hpd, .ref qst, .ref qor, .int (iI pz)])), (hT, .inr (1, [.ref qk, .ref ql, .ref qc, .ref qtl, .ref qtg, .ref qty, .int (iI sz), .int (iI fr), .int (iI fl)])), (qk, .inl (cI, 120, .inl K)), (ql, .inl (cI, 120, .inl Ln)), (qc, .inl (cI, 4800, .inl C)), (qtl, .inl (cI, 120, .inl TL)), (qtg, .inl (cI, 1920, .inl TG)), (qty, .inl (cI, 120, .inl TY)), (hpd, .inr (0, [.ref qpd, .int (iI n2_127), .int (iI sp2_129)])), (qpd, .inl (cI, 3000, .inl f2_128))] := xD
                  replace HC := Pw_trans hn.1 HC hw_130
                  have hgr := Pw_rg HC
                  clear hw_130
                  refine lv_goto (tgt := 137) xe xb d_Printer_addCodes_128 (by decide) ?_
                  refine tk_iinc (v := (i + 1)) (lv' := [(3, .int (iI (i + 1))), (5, .int (iI z_113)), (4, .int (iI z_92)), (0, .ref hpr), (1, .int (iI t)), (2, .int (iI b))]) xe xb d_Printer_addCodes_137 xl (k := 5) rfl rfl (by decide) rfl ?_
                  clear xl
                  intro ls xl
                  refine lv_goto (tgt := 39) xe xb d_Printer_addCodes_140 (by decide) ?_
                  exact ih_39 o b (i + 1) n2_127 f2_128 sp2_129 (by omega) (by first | assumption | omega) (by first | assumption | omega) (Pw_cast HC (cts_step hi.1 HG (by unfold ct; rw [if_neg (by rintro ⟨h1, h2⟩; omega), if_pos ⟨by omega, by omega⟩]))) _ _ xP xD xS ls (lv_sub xl [3, 4, 5, 0] rfl)
            · refine lv_aload_n xe xb d_Printer_addCodes_84 rfl (lv_at xl 2 rfl) ?_
              refine va_get (D := D) (ci := 4) (v := .ref hpd) (C := R_Printer) (T := F_Printer) (N := 6) xe xb xt i_Printer xo xK xP 0 rfl rfl 2 (by decide) (xt _ mw_Printer_24) (fun _ h9 => h9) rfl d_Printer_addCodes_85 ?_
              refine lv_bipush (v := iI (92)) xe xb d_Printer_addCodes_88 (by decide) ?_
              refine tk_callVv (As := [.int (iI 92)]) (rest := []) (wr := [(hpr, .inr (4, [.ref hT, .ref hQ, .ref hpd, .ref qst, .ref qor, .int (iI pz)])), (hT, .inr (1, [.ref qk, .ref ql, .ref qc, .ref qtl, .ref qtg, .ref qty, .int (iI sz), .int (iI fr), .int (iI fl)])), (qk, .inl (cI, 120, .inl K)), (ql, .inl (cI, 120, .inl Ln)), (qc, .inl (cI, 4800, .inl C)), (qtl, .inl (cI, 120, .inl TL)), (qtg, .inl (cI, 1920, .inl TG)), (qty, .inl (cI, 120, .inl TY))]) (wn := fun u => [(hpr, .inr (4, [.ref hT, .ref hQ, .ref hpd, .ref qst, .ref qor, .int (iI pz)])), (hT, .inr (1, [.ref qk, .ref ql, .ref qc, .ref qtl, .ref qtg, .ref qty, .int (iI sz), .int (iI fr), .int (iI fl)])), (qk, .inl (cI, 120, .inl K)), (ql, .inl (cI, 120, .inl Ln)), (qc, .inl (cI, 4800, .inl C)), (qtl, .inl (cI, 120, .inl TL)), (qtg, .inl (cI, 1920, .inl TG)), (qty, .inl (cI, 120, .inl TY)), (hpd, .inr (0, [.ref qpd, .int (iI u.1), .int (iI u.2.2)])), (qpd, .inl (cI, 3000, .inl u.2.1))]) ⟨xe, xb, xml, xo, xt⟩ (c_Row_addP l D cI hpd qpd nv fv sv 92 (by first | assumption | omega) (by first | assumption | omega)) k_Row_add mw_Printer_59 ⟨Nat.le_of_ble_eq_true rfl, Nat.le_of_ble_eq_true rfl⟩ xK xP xD xS xA rfl xl.1 rfl (Nat.le_of_ble_eq_true rfl) d_Printer_addCodes_90 ⟨Nat.zero_le _, Nat.zero_le _⟩ [8, 9] [0, 1, 2, 3, 4, 5, 6, 7] [0, 1, 2, 3, 4, 5, 6, 7, 8, 9] rfl rfl (by decide) (by decide) (by decide) (by decide) (fun _ => rfl) rfl rfl rfl ?_
              clear xP xD xS
              intro u H locs hw_135 xP xD xS
              obtain ⟨n2_132, f2_133, sp2_134⟩ := u
              try dsimp only at hw_135
              replace xP : va_P D classes [(hpr, .inr (4, [.ref hT, .ref hQ, .ref hpd, .ref qst, .ref qor, .int (iI pz)])), (hT, .inr (1, [.ref qk, .ref ql, .ref qc, .ref qtl, .ref qtg, .ref qty, .int (iI sz), .int (iI fr), .int (iI fl)])), (qk, .inl (cI, 120, .inl K)), (ql, .inl (cI, 120, .inl Ln)), (qc, .inl (cI, 4800, .inl C)), (qtl, .inl (cI, 120, .inl TL)), (qtg, .inl (cI, 1920, .inl TG)), (qty, .inl (cI, 120, .inl TY)), (hpd, .inr (0, [.ref qpd, .int (iI n2_132), .int (iI sp2_134)])), (qpd, .inl (cI, 3000, .inl f2_133))] H := xP
              replace xD : va_D xA0 [(hpr, .inr (4, [.ref hT, .ref hQ, .ref hpd, .ref qst, .ref qor, .int (iI pz)])), (hT, .inr (1, [.ref qk, .ref ql, .ref qc, .ref qtl, .ref qtg, .ref qty, .int (iI sz), .int (iI fr), .int (iI fl)])), (qk, .inl (cI, 120, .inl K)), (ql, .inl (cI, 120, .inl Ln)), (qc, .inl (cI, 4800, .inl C)), (qtl, .inl (cI, 120, .inl TL)), (qtg, .inl (cI, 1920, .inl TG)), (qty, .inl (cI, 120, .inl TY)), (hpd, .inr (0, [.ref qpd, .int (iI n2_132), .int (iI sp2_134)])), (qpd, .inl (cI, 3000, .inl f2_133))] := xD
              replace HC := Pw_trans hn.1 HC hw_135
              have hgr := Pw_rg HC
              clear hw_135
              refine lv_aload_n xe xb d_Printer_addCodes_93 rfl (lv_at xl 2 rfl) ?_
              refine va_get (D := D) (ci := 4) (v := .ref hpd) (C := R_Printer) (T := F_Printer) (N := 6) xe xb xt i_Printer xo xK xP 0 rfl rfl 2 (by decide) (xt _ mw_Printer_24) (fun _ h9 => h9) rfl d_Printer_addCodes_94 ?_
              refine lv_iload xe xb d_Printer_addCodes_97 (lv_at xl 0 rfl) ?_
              refine tk_callVv (As := [.int (iI z_113)]) (rest := []) (wr := [(hpr, .inr (4, [.ref hT, .ref hQ, .ref hpd, .ref qst, .ref qor, .int (iI pz)])), (hT, .inr (1, [.ref qk, .ref ql, .ref qc, .ref qtl, .ref qtg, .ref qty, .int (iI sz), .int (iI fr), .int (iI fl)])), (qk, .inl (cI, 120, .inl K)), (ql, .inl (cI, 120, .inl Ln)), (qc, .inl (cI, 4800, .inl C)), (qtl, .inl (cI, 120, .inl TL)), (qtg, .inl (cI, 1920, .inl TG)), (qty, .inl (cI, 120, .inl TY))]) (wn := fun u => [(hpr, .inr (4, [.ref hT, .ref hQ, .ref hpd, .ref qst, .ref qor, .int (iI pz)])), (hT, .inr (1, [.ref qk, .ref ql, .ref qc, .ref qtl, .ref qtg, .ref qty, .int (iI sz), .int (iI fr), .int (iI fl)])), (qk, .inl (cI, 120, .inl K)), (ql, .inl (cI, 120, .inl Ln)), (qc, .inl (cI, 4800, .inl C)), (qtl, .inl (cI, 120, .inl TL)), (qtg, .inl (cI, 1920, .inl TG)), (qty, .inl (cI, 120, .inl TY)), (hpd, .inr (0, [.ref qpd, .int (iI u.1), .int (iI u.2.2)])), (qpd, .inl (cI, 3000, .inl u.2.1))]) ⟨xe, xb, xml, xo, xt⟩ (c_Row_addP l D cI hpd qpd n2_132 f2_133 sp2_134 z_113 (by first | assumption | omega) (by first | assumption | omega)) k_Row_add mw_Printer_59 ⟨Nat.le_of_ble_eq_true rfl, Nat.le_of_ble_eq_true rfl⟩ xK xP xD xS xA rfl xl.1 rfl (Nat.le_of_ble_eq_true rfl) d_Printer_addCodes_99 ⟨Nat.zero_le _, Nat.zero_le _⟩ [8, 9] [0, 1, 2, 3, 4, 5, 6, 7] [0, 1, 2, 3, 4, 5, 6, 7, 8, 9] rfl rfl (by decide) (by decide) (by decide) (by decide) (fun _ => rfl) rfl rfl rfl ?_
              clear xP xD xS
              intro u H locs hw_140 xP xD xS
              obtain ⟨n2_137, f2_138, sp2_139⟩ := u
              try dsimp only at hw_140
              replace xP : va_P D classes [(hpr, .inr (4, [.ref hT, .ref hQ, .ref hpd, .ref qst, .ref qor, .int (iI pz)])), (hT, .inr (1, [.ref qk, .ref ql, .ref qc, .ref qtl, .ref qtg, .ref qty, .int (iI sz), .int (iI fr), .int (iI fl)])), (qk, .inl (cI, 120, .inl K)), (ql, .inl (cI, 120, .inl Ln)), (qc, .inl (cI, 4800, .inl C)), (qtl, .inl (cI, 120, .inl TL)), (qtg, .inl (cI, 1920, .inl TG)), (qty, .inl (cI, 120, .inl TY)), (hpd, .inr (0, [.ref qpd, .int (iI n2_137), .int (iI sp2_139)])), (qpd, .inl (cI, 3000, .inl f2_138))] H := xP
              replace xD : va_D xA0 [(hpr, .inr (4, [.ref hT, .ref hQ, .ref hpd, .ref qst, .ref qor, .int (iI pz)])), (hT, .inr (1, [.ref qk, .ref ql, .ref qc, .ref qtl, .ref qtg, .ref qty, .int (iI sz), .int (iI fr), .int (iI fl)])), (qk, .inl (cI, 120, .inl K)), (ql, .inl (cI, 120, .inl Ln)), (qc, .inl (cI, 4800, .inl C)), (qtl, .inl (cI, 120, .inl TL)), (qtg, .inl (cI, 1920, .inl TG)), (qty, .inl (cI, 120, .inl TY)), (hpd, .inr (0, [.ref qpd, .int (iI n2_137), .int (iI sp2_139)])), (qpd, .inl (cI, 3000, .inl f2_138))] := xD
              replace HC := Pw_trans hn.1 HC hw_140
              have hgr := Pw_rg HC
              clear hw_140
              refine lv_goto (tgt := 137) xe xb d_Printer_addCodes_102 (by decide) ?_
              refine tk_iinc (v := (i + 1)) (lv' := [(3, .int (iI (i + 1))), (5, .int (iI z_113)), (4, .int (iI z_92)), (0, .ref hpr), (1, .int (iI t)), (2, .int (iI b))]) xe xb d_Printer_addCodes_137 xl (k := 5) rfl rfl (by decide) rfl ?_
              clear xl
              intro ls xl
              refine lv_goto (tgt := 39) xe xb d_Printer_addCodes_140 (by decide) ?_
              exact ih_39 o b (i + 1) n2_137 f2_138 sp2_139 (by omega) (by first | assumption | omega) (by first | assumption | omega) (Pw_cast HC (by rw [List.append_assoc]; exact cts_step hi.1 HG (by unfold ct; rw [if_pos ⟨by omega, by rw [← HS]; exact C81⟩, HS]; rfl))) _ _ xP xD xS ls (lv_sub xl [3, 4, 5, 0] rfl)
    exact loop_39 _ 34 1 0 n2_73 f2_74 sp2_75 (Nat.lt_succ_self _) (Or.inl ⟨rfl, rfl, C10⟩) ⟨Int.le_refl 0, htt.1⟩ HC _ _ xP xD xS ls (lv_sub xl [2, 3, 1, 0] rfl)
