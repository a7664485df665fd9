theorem d_Reader_init_0 : decode b_Reader_init 0 = .ok (.aload_n 0, 1) := by decide +kernel
theorem d_Reader_init_1 : decode b_Reader_init 1 = .ok (.invokespecial 3, 3) := by decide +kernel
theorem d_Reader_init_4 : decode b_Reader_init 4 = .ok (.aload_n 0, 1) := by decide +kernel
theorem d_Reader_init_5 : decode b_Reader_init 5 = .ok (.aload_n 1, 1) := by decide +kernel
theorem d_Reader_init_6 : decode b_Reader_init 6 = .ok (.putfield 9, 3) := by decide +kernel
theorem d_Reader_init_9 : decode b_Reader_init 9 = .ok (.aload_n 0, 1) := by decide +kernel
theorem d_Reader_init_10 : decode b_Reader_init 10 = .ok (.aload_n 2, 1) := by decide +kernel
theorem d_Reader_init_11 : decode b_Reader_init 11 = .ok (.putfield 15, 3) := by decide +kernel
theorem d_Reader_init_14 : decode b_Reader_init 14 = .ok (.aload_n 0, 1) := by decide +kernel
theorem d_Reader_init_15 : decode b_Reader_init 15 = .ok (.aload_n 3, 1) := by decide +kernel
theorem d_Reader_init_16 : decode b_Reader_init 16 = .ok (.putfield 19, 3) := by decide +kernel
theorem d_Reader_init_19 : decode b_Reader_init 19 = .ok (.aload_n 0, 1) := by decide +kernel
theorem d_Reader_init_20 : decode b_Reader_init 20 = .ok (.new 23, 3) := by decide +kernel
theorem d_Reader_init_23 : decode b_Reader_init 23 = .ok (.dup, 1) := by decide +kernel
theorem d_Reader_init_24 : decode b_Reader_init 24 = .ok (.bipush 40, 2) := by decide +kernel
theorem d_Reader_init_26 : decode b_Reader_init 26 = .ok (.invokespecial 25, 3) := by decide +kernel
theorem d_Reader_init_29 : decode b_Reader_init 29 = .ok (.putfield 28, 3) := by decide +kernel
theorem d_Reader_init_32 : decode b_Reader_init 32 = .ok (.aload_n 0, 1) := by decide +kernel
theorem d_Reader_init_33 : decode b_Reader_init 33 = .ok (.new 23, 3) := by decide +kernel
theorem d_Reader_init_36 : decode b_Reader_init 36 = .ok (.dup, 1) := by decide +kernel
theorem d_Reader_init_37 : decode b_Reader_init 37 = .ok (.bipush 40, 2) := by decide +kernel
theorem d_Reader_init_39 : decode b_Reader_init 39 = .ok (.invokespecial 25, 3) := by decide +kernel
theorem d_Reader_init_42 : decode b_Reader_init 42 = .ok (.putfield 31, 3) := by decide +kernel
theorem d_Reader_init_45 : decode b_Reader_init 45 = .ok (.aload_n 0, 1) := by decide +kernel
theorem d_Reader_init_46 : decode b_Reader_init 46 = .ok (.new 23, 3) := by decide +kernel
theorem d_Reader_init_49 : decode b_Reader_init 49 = .ok (.dup, 1) := by decide +kernel
theorem d_Reader_init_50 : decode b_Reader_init 50 = .ok (.bipush 16, 2) := by decide +kernel
theorem d_Reader_init_52 : decode b_Reader_init 52 = .ok (.invokespecial 25, 3) := by decide +kernel
theorem d_Reader_init_55 : decode b_Reader_init 55 = .ok (.putfield 34, 3) := by decide +kernel
theorem d_Reader_init_58 : decode b_Reader_init 58 = .ok (.aload_n 0, 1) := by decide +kernel
theorem d_Reader_init_59 : decode b_Reader_init 59 = .ok (.new 23, 3) := by decide +kernel
theorem d_Reader_init_62 : decode b_Reader_init 62 = .ok (.dup, 1) := by decide +kernel
theorem d_Reader_init_63 : decode b_Reader_init 63 = .ok (.iconst 0, 1) := by decide +kernel
theorem d_Reader_init_64 : decode b_Reader_init 64 = .ok (.invokespecial 25, 3) := by decide +kernel
theorem d_Reader_init_67 : decode b_Reader_init 67 = .ok (.putfield 37, 3) := by decide +kernel
theorem d_Reader_init_70 : decode b_Reader_init 70 = .ok (.aload_n 0, 1) := by decide +kernel
theorem d_Reader_init_71 : decode b_Reader_init 71 = .ok (.iconst 0, 1) := by decide +kernel
theorem d_Reader_init_72 : decode b_Reader_init 72 = .ok (.putfield 40, 3) := by decide +kernel
theorem d_Reader_init_75 : decode b_Reader_init 75 = .ok (.aload_n 0, 1) := by decide +kernel
theorem d_Reader_init_76 : decode b_Reader_init 76 = .ok (.iconst 0, 1) := by decide +kernel
theorem d_Reader_init_77 : decode b_Reader_init 77 = .ok (.putfield 44, 3) := by decide +kernel
theorem d_Reader_init_80 : decode b_Reader_init 80 = .ok (.aload_n 0, 1) := by decide +kernel
theorem d_Reader_init_81 : decode b_Reader_init 81 = .ok (.iconst (-1), 1) := by decide +kernel
theorem d_Reader_init_82 : decode b_Reader_init 82 = .ok (.putfield 47, 3) := by decide +kernel
theorem d_Reader_init_85 : decode b_Reader_init 85 = .ok (.return_, 1) := by decide +kernel
theorem d_Printer_init_0 : decode b_Printer_init 0 = .ok (.aload_n 0, 1) := by decide +kernel
theorem d_Printer_init_1 : decode b_Printer_init 1 = .ok (.invokespecial 3, 3) := by decide +kernel
theorem d_Printer_init_4 : decode b_Printer_init 4 = .ok (.aload_n 0, 1) := by decide +kernel
theorem d_Printer_init_5 : decode b_Printer_init 5 = .ok (.aload_n 1, 1) := by decide +kernel
theorem d_Printer_init_6 : decode b_Printer_init 6 = .ok (.putfield 9, 3) := by decide +kernel
theorem d_Printer_init_9 : decode b_Printer_init 9 = .ok (.aload_n 0, 1) := by decide +kernel
theorem d_Printer_init_10 : decode b_Printer_init 10 = .ok (.aload_n 2, 1) := by decide +kernel
theorem d_Printer_init_11 : decode b_Printer_init 11 = .ok (.putfield 15, 3) := by decide +kernel
theorem d_Printer_init_14 : decode b_Printer_init 14 = .ok (.aload_n 0, 1) := by decide +kernel
theorem d_Printer_init_15 : decode b_Printer_init 15 = .ok (.new 19, 3) := by decide +kernel
theorem d_Printer_init_18 : decode b_Printer_init 18 = .ok (.dup, 1) := by decide +kernel
theorem d_Printer_init_19 : decode b_Printer_init 19 = .ok (.sipush 3000, 3) := by decide +kernel
theorem d_Printer_init_22 : decode b_Printer_init 22 = .ok (.invokespecial 21, 3) := by decide +kernel
theorem d_Printer_init_25 : decode b_Printer_init 25 = .ok (.putfield 24, 3) := by decide +kernel
theorem d_Printer_init_28 : decode b_Printer_init 28 = .ok (.aload_n 0, 1) := by decide +kernel
theorem d_Printer_init_29 : decode b_Printer_init 29 = .ok (.bipush 81, 2) := by decide +kernel
theorem d_Printer_init_31 : decode b_Printer_init 31 = .ok (.newarray .int, 2) := by decide +kernel
theorem d_Printer_init_33 : decode b_Printer_init 33 = .ok (.putfield 28, 3) := by decide +kernel
theorem d_Printer_init_36 : decode b_Printer_init 36 = .ok (.aload_n 0, 1) := by decide +kernel
theorem d_Printer_init_37 : decode b_Printer_init 37 = .ok (.bipush 80, 2) := by decide +kernel
theorem d_Printer_init_39 : decode b_Printer_init 39 = .ok (.newarray .int, 2) := by decide +kernel
theorem d_Printer_init_41 : decode b_Printer_init 41 = .ok (.putfield 32, 3) := by decide +kernel
theorem d_Printer_init_44 : decode b_Printer_init 44 = .ok (.aload_n 0, 1) := by decide +kernel
theorem d_Printer_init_45 : decode b_Printer_init 45 = .ok (.iconst 0, 1) := by decide +kernel
theorem d_Printer_init_46 : decode b_Printer_init 46 = .ok (.putfield 35, 3) := by decide +kernel
theorem d_Printer_init_49 : decode b_Printer_init 49 = .ok (.return_, 1) := by decide +kernel
set_option maxHeartbeats 4000000 in
set_option maxRecDepth 100000 in
theorem c_Reader_init (l : Launch) (D : va_G) (cI : ClassId) (hr : Nat) (ht : Nat) (hT : Nat) (hQ : Nat)  : CtN l D [(cI, .int)] y_Reader_init b_Reader_init 4 2 8 108 [.ref hr, .ref ht, .ref hT, .ref hQ] [(hr, .inr (3, [.null, .null, .null, .null, .null, .null, .null, .int (iI 0), .int (iI 0), .int (iI 0)]))] (S := Nat × Nat × Nat × Nat × Nat × Nat × Nat × Nat) (fun u => True) (fun u => [(hr, .inr (3, [.ref ht, .ref hT, .ref hQ, .ref u.1, .ref u.2.2.1, .ref u.2.2.2.2.1, .ref u.2.2.2.2.2.2.1, .int (iI 0), .int (iI 0), .int (iI (-1))])), (u.1, .inr (0, [.ref u.2.1, .int (iI 0), .int (iI 0)])), (u.2.1, .inl (cI, 40, .inl z0)), (u.2.2.1, .inr (0, [.ref u.2.2.2.1, .int (iI 0), .int (iI 0)])), (u.2.2.2.1, .inl (cI, 40, .inl z0)), (u.2.2.2.2.1, .inr (0, [.ref u.2.2.2.2.2.1, .int (iI 0), .int (iI 0)])), (u.2.2.2.2.2.1, .inl (cI, 16, .inl z0)), (u.2.2.2.2.2.2.1, .inr (0, [.ref u.2.2.2.2.2.2.2, .int (iI 0), .int (iI 0)])), (u.2.2.2.2.2.2.2, .inl (cI, 0, .inl z0))]) := by
  refine CtN.walk (by decide) (Nat.le_of_ble_eq_true rfl) ?_
  intro xp xe0 xs xm xar xbelow xmeth xc xA0 xQ xe xb xml xo xnm xt xP xK xD xA xret ls xl xS
  have xl : lv_has ls 4 [(0, .ref hr), (1, .ref ht), (2, .ref hT), (3, .ref hQ)] := xl
  have xo : xs.vm.findClass R_Reader = some xm.cls := xo
  refine lv_aload_n xe xb d_Reader_init_0 rfl (lv_at xl 0 rfl) ?_
  refine W.objInit xe xb xo (xt _ mw_Reader_3) (xt _ mw_oi) (xt _ mw_oc) rfl (xl.1.trans xml.symm) rfl d_Reader_init_1 (Nat.le_of_ble_eq_true rfl) (Nat.le_of_ble_eq_true rfl) ?_
  refine lv_aload_n xe xb d_Reader_init_4 rfl (lv_at xl 0 rfl) ?_
  refine lv_aload_n xe xb d_Reader_init_5 rfl (lv_at xl 1 rfl) ?_
  refine va_putF (D := D) (ci := 3) (v := .ref ht) (ty := (.object "TripleLines$Row")) (C := R_Reader) (T := F_Reader) (N := 10) xe xb xt i_Reader t_Reader t_Reader_ok n_Reader xo xK xP xD xS 0 rfl rfl 0 (by decide) (xt _ mw_Reader_9) (fun _ h9 => h9) rfl xnm rfl (by decide +kernel) rfl rfl (Nat.le_of_ble_eq_true rfl) d_Reader_init_6 ?_
  clear xP xD xS
  intro H locs xP xD xS
  replace xP : va_P D classes [(hr, .inr (3, [.ref ht, .null, .null, .null, .null, .null, .null, .int (iI 0), .int (iI 0), .int (iI 0)]))] H := xP
  replace xD : va_D xA0 [(hr, .inr (3, [.ref ht, .null, .null, .null, .null, .null, .null, .int (iI 0), .int (iI 0), .int (iI 0)]))] := xD
  refine lv_aload_n xe xb d_Reader_init_9 rfl (lv_at xl 0 rfl) ?_
  refine lv_aload_n xe xb d_Reader_init_10 rfl (lv_at xl 2 rfl) ?_
  refine va_putF (D := D) (ci := 3) (v := .ref hT) (ty := (.object "TripleLines$Terms")) (C := R_Reader) (T := F_Reader) (N := 10) xe xb xt i_Reader t_Reader t_Reader_ok n_Reader xo xK xP xD xS 0 rfl rfl 1 (by decide) (xt _ mw_Reader_15) (fun _ h9 => h9) rfl xnm rfl (by decide +kernel) rfl rfl (Nat.le_of_ble_eq_true rfl) d_Reader_init_11 ?_
  clear xP xD xS
  intro H locs xP xD xS
  replace xP : va_P D classes [(hr, .inr (3, [.ref ht, .ref hT, .null, .null, .null, .null, .null, .int (iI 0), .int (iI 0), .int (iI 0)]))] H := xP
  replace xD : va_D xA0 [(hr, .inr (3, [.ref ht, .ref hT, .null, .null, .null, .null, .null, .int (iI 0), .int (iI 0), .int (iI 0)]))] := xD
  refine lv_aload_n xe xb d_Reader_init_14 rfl (lv_at xl 0 rfl) ?_
  refine lv_aload_n xe xb d_Reader_init_15 rfl (lv_at xl 3 rfl) ?_
  refine va_putF (D := D) (ci := 3) (v := .ref hQ) (ty := (.object "TripleLines$Quads")) (C := R_Reader) (T := F_Reader) (N := 10) xe xb xt i_Reader t_Reader t_Reader_ok n_Reader xo xK xP xD xS 0 rfl rfl 2 (by decide) (xt _ mw_Reader_19) (fun _ h9 => h9) rfl xnm rfl (by decide +kernel) rfl rfl (Nat.le_of_ble_eq_true rfl) d_Reader_init_16 ?_
  clear xP xD xS
  intro H locs xP xD xS
  replace xP : va_P D classes [(hr, .inr (3, [.ref ht, .ref hT, .ref hQ, .null, .null, .null, .null, .int (iI 0), .int (iI 0), .int (iI 0)]))] H := xP
  replace xD : va_D xA0 [(hr, .inr (3, [.ref ht, .ref hT, .ref hQ, .null, .null, .null, .null, .int (iI 0), .int (iI 0), .int (iI 0)]))] := xD
  refine lv_aload_n xe xb d_Reader_init_19 rfl (lv_at xl 0 rfl) ?_
  refine va_new (D := D) (ci := 0) (fs := [.null, .int (iI 0), .int (iI 0)]) (C := R_Row) (T := F_Row) (N := 3) xe xb xt i_Row t_Row t_Row_ok xo (xt _ mw_Reader_23) (xt _ mw_inst_Row) (xt _ mw_ini_Row) xK xP xD xS xA rfl (fun j hj => by rcases (show j = 0 ∨ j = 1 ∨ j = 2 by omega) with rfl | rfl | rfl <;> first | rfl | exact congrArg Value.int iI_0) (Nat.le_of_ble_eq_true rfl) (Nat.le_of_ble_eq_true rfl) d_Reader_init_20 ?_
  clear xP xD xS
  intro q_1 H xP xD xS
  replace xP : va_P D classes [(hr, .inr (3, [.ref ht, .ref hT, .ref hQ, .null, .null, .null, .null, .int (iI 0), .int (iI 0), .int (iI 0)])), (q_1, .inr (0, [.null, .int (iI 0), .int (iI 0)]))] H := xP
  replace xD : va_D xA0 [(hr, .inr (3, [.ref ht, .ref hT, .ref hQ, .null, .null, .null, .null, .int (iI 0), .int (iI 0), .int (iI 0)])), (q_1, .inr (0, [.null, .int (iI 0), .int (iI 0)]))] := xD
  refine lv_dup xe xb d_Reader_init_23 rfl ?_
  refine lv_bipush (v := iI (40)) xe xb d_Reader_init_24 (by decide) ?_
  refine tk_callN (As := [.int (iI 40)]) (rest := [.ref q_1, .ref hr]) (wr := [(hr, .inr (3, [.ref ht, .ref hT, .ref hQ, .null, .null, .null, .null, .int (iI 0), .int (iI 0), .int (iI 0)]))]) (wn := fun u => [(hr, .inr (3, [.ref ht, .ref hT, .ref hQ, .null, .null, .null, .null, .int (iI 0), .int (iI 0), .int (iI 0)])), (q_1, .inr (0, [.ref u, .int (iI 0), .int (iI 0)])), (u, .inl (cI, 40, .inl z0))]) ⟨xe, xb, xml, xo, xt⟩ (c_Row_init40 l D cI q_1 ) kn_Row_init mw_Reader_25 ⟨Nat.le_of_ble_eq_true rfl, Nat.le_of_ble_eq_true rfl⟩ xK xP xD xS xA rfl xl.1 rfl (Nat.le_of_ble_eq_true rfl) d_Reader_init_26 ⟨Nat.le_of_ble_eq_true rfl, Nat.le_of_ble_eq_true rfl⟩ [1] [0] [0, 1, 2] rfl rfl (by decide) (by decide) (by decide) (by decide) (fun _ => rfl) ?_
  clear xP xD xS
  intro u H locs hw_3 xP xD xS
  obtain ⟨q_2, rfl⟩ : ∃ v, v = u := ⟨_, rfl⟩
  try dsimp only at hw_3
  replace xP : va_P D classes [(hr, .inr (3, [.ref ht, .ref hT, .ref hQ, .null, .null, .null, .null, .int (iI 0), .int (iI 0), .int (iI 0)])), (q_1, .inr (0, [.ref q_2, .int (iI 0), .int (iI 0)])), (q_2, .inl (cI, 40, .inl z0))] H := xP
  replace xD : va_D xA0 [(hr, .inr (3, [.ref ht, .ref hT, .ref hQ, .null, .null, .null, .null, .int (iI 0), .int (iI 0), .int (iI 0)])), (q_1, .inr (0, [.ref q_2, .int (iI 0), .int (iI 0)])), (q_2, .inl (cI, 40, .inl z0))] := xD
  refine va_putF (D := D) (ci := 3) (v := .ref q_1) (ty := (.object "TripleLines$Row")) (C := R_Reader) (T := F_Reader) (N := 10) xe xb xt i_Reader t_Reader t_Reader_ok n_Reader xo xK xP xD xS 0 rfl rfl 3 (by decide) (xt _ mw_Reader_28) (fun _ h9 => h9) rfl xnm rfl (by decide +kernel) rfl rfl (Nat.le_of_ble_eq_true rfl) d_Reader_init_29 ?_
  clear xP xD xS
  intro H locs xP xD xS
  replace xP : va_P D classes [(hr, .inr (3, [.ref ht, .ref hT, .ref hQ, .ref q_1, .null, .null, .null, .int (iI 0), .int (iI 0), .int (iI 0)])), (q_1, .inr (0, [.ref q_2, .int (iI 0), .int (iI 0)])), (q_2, .inl (cI, 40, .inl z0))] H := xP
  replace xD : va_D xA0 [(hr, .inr (3, [.ref ht, .ref hT, .ref hQ, .ref q_1, .null, .null, .null, .int (iI 0), .int (iI 0), .int (iI 0)])), (q_1, .inr (0, [.ref q_2, .int (iI 0), .int (iI 0)])), (q_2, .inl (cI, 40, .inl z0))] := xD
  refine lv_aload_n xe xb d_Reader_init_32 rfl (lv_at xl 0 rfl) ?_
  refine va_new (D := D) (ci := 0) (fs := [.null, .int (iI 0), .int (iI 0)]) (C := R_Row) (T := F_Row) (N := 3) xe xb xt i_Row t_Row t_Row_ok xo (xt _ mw_Reader_23) (xt _ mw_inst_Row) (xt _ mw_ini_Row) xK xP xD xS xA rfl (fun j hj => by rcases (show j = 0 ∨ j = 1 ∨ j = 2 by omega) with rfl | rfl | rfl <;> first | rfl | exact congrArg Value.int iI_0) (Nat.le_of_ble_eq_true rfl) (Nat.le_of_ble_eq_true rfl) d_Reader_init_33 ?_
  clear xP xD xS
  intro q_5 H xP xD xS
  replace xP : va_P D classes [(hr, .inr (3, [.ref ht, .ref hT, .ref hQ, .ref q_1, .null, .null, .null, .int (iI 0), .int (iI 0), .int (iI 0)])), (q_1, .inr (0, [.ref q_2, .int (iI 0), .int (iI 0)])), (q_2, .inl (cI, 40, .inl z0)), (q_5, .inr (0, [.null, .int (iI 0), .int (iI 0)]))] H := xP
  replace xD : va_D xA0 [(hr, .inr (3, [.ref ht, .ref hT, .ref hQ, .ref q_1, .null, .null, .null, .int (iI 0), .int (iI 0), .int (iI 0)])), (q_1, .inr (0, [.ref q_2, .int (iI 0), .int (iI 0)])), (q_2, .inl (cI, 40, .inl z0)), (q_5, .inr (0, [.null, .int (iI 0), .int (iI 0)]))] := xD
  refine lv_dup xe xb d_Reader_init_36 rfl ?_
  refine lv_bipush (v := iI (40)) xe xb d_Reader_init_37 (by decide) ?_
  refine tk_callN (As := [.int (iI 40)]) (rest := [.ref q_5, .ref hr]) (wr := [(hr, .inr (3, [.ref ht, .ref hT, .ref hQ, .ref q_1, .null, .null, .null, .int (iI 0), .int (iI 0), .int (iI 0)])), (q_1, .inr (0, [.ref q_2, .int (iI 0), .int (iI 0)])), (q_2, .inl (cI, 40, .inl z0))]) (wn := fun u => [(hr, .inr (3, [.ref ht, .ref hT, .ref hQ, .ref q_1, .null, .null, .null, .int (iI 0), .int (iI 0), .int (iI 0)])), (q_1, .inr (0, [.ref q_2, .int (iI 0), .int (iI 0)])), (q_2, .inl (cI, 40, .inl z0)), (q_5, .inr (0, [.ref u, .int (iI 0), .int (iI 0)])), (u, .inl (cI, 40, .inl z0))]) ⟨xe, xb, xml, xo, xt⟩ (c_Row_init40 l D cI q_5 ) kn_Row_init mw_Reader_25 ⟨Nat.le_of_ble_eq_true rfl, Nat.le_of_ble_eq_true rfl⟩ xK xP xD xS xA rfl xl.1 rfl (Nat.le_of_ble_eq_true rfl) d_Reader_init_39 ⟨Nat.le_of_ble_eq_true rfl, Nat.le_of_ble_eq_true rfl⟩ [3] [0, 1, 2] [0, 1, 2, 3, 4] rfl rfl (by decide) (by decide) (by decide) (by decide) (fun _ => rfl) ?_
  clear xP xD xS
  intro u H locs hw_7 xP xD xS
  obtain ⟨q_6, rfl⟩ : ∃ v, v = u := ⟨_, rfl⟩
  try dsimp only at hw_7
  replace xP : va_P D classes [(hr, .inr (3, [.ref ht, .ref hT, .ref hQ, .ref q_1, .null, .null, .null, .int (iI 0), .int (iI 0), .int (iI 0)])), (q_1, .inr (0, [.ref q_2, .int (iI 0), .int (iI 0)])), (q_2, .inl (cI, 40, .inl z0)), (q_5, .inr (0, [.ref q_6, .int (iI 0), .int (iI 0)])), (q_6, .inl (cI, 40, .inl z0))] H := xP
  replace xD : va_D xA0 [(hr, .inr (3, [.ref ht, .ref hT, .ref hQ, .ref q_1, .null, .null, .null, .int (iI 0), .int (iI 0), .int (iI 0)])), (q_1, .inr (0, [.ref q_2, .int (iI 0), .int (iI 0)])), (q_2, .inl (cI, 40, .inl z0)), (q_5, .inr (0, [.ref q_6, .int (iI 0), .int (iI 0)])), (q_6, .inl (cI, 40, .inl z0))] := xD
  refine va_putF (D := D) (ci := 3) (v := .ref q_5) (ty := (.object "TripleLines$Row")) (C := R_Reader) (T := F_Reader) (N := 10) xe xb xt i_Reader t_Reader t_Reader_ok n_Reader xo xK xP xD xS 0 rfl rfl 4 (by decide) (xt _ mw_Reader_31) (fun _ h9 => h9) rfl xnm rfl (by decide +kernel) rfl rfl (Nat.le_of_ble_eq_true rfl) d_Reader_init_42 ?_
  clear xP xD xS
  intro H locs xP xD xS
  replace xP : va_P D classes [(hr, .inr (3, [.ref ht, .ref hT, .ref hQ, .ref q_1, .ref q_5, .null, .null, .int (iI 0), .int (iI 0), .int (iI 0)])), (q_1, .inr (0, [.ref q_2, .int (iI 0), .int (iI 0)])), (q_2, .inl (cI, 40, .inl z0)), (q_5, .inr (0, [.ref q_6, .int (iI 0), .int (iI 0)])), (q_6, .inl (cI, 40, .inl z0))] H := xP
  replace xD : va_D xA0 [(hr, .inr (3, [.ref ht, .ref hT, .ref hQ, .ref q_1, .ref q_5, .null, .null, .int (iI 0), .int (iI 0), .int (iI 0)])), (q_1, .inr (0, [.ref q_2, .int (iI 0), .int (iI 0)])), (q_2, .inl (cI, 40, .inl z0)), (q_5, .inr (0, [.ref q_6, .int (iI 0), .int (iI 0)])), (q_6, .inl (cI, 40, .inl z0))] := xD
  refine lv_aload_n xe xb d_Reader_init_45 rfl (lv_at xl 0 rfl) ?_
  refine va_new (D := D) (ci := 0) (fs := [.null, .int (iI 0), .int (iI 0)]) (C := R_Row) (T := F_Row) (N := 3) xe xb xt i_Row t_Row t_Row_ok xo (xt _ mw_Reader_23) (xt _ mw_inst_Row) (xt _ mw_ini_Row) xK xP xD xS xA rfl (fun j hj => by rcases (show j = 0 ∨ j = 1 ∨ j = 2 by omega) with rfl | rfl | rfl <;> first | rfl | exact congrArg Value.int iI_0) (Nat.le_of_ble_eq_true rfl) (Nat.le_of_ble_eq_true rfl) d_Reader_init_46 ?_
  clear xP xD xS
  intro q_9 H xP xD xS
  replace xP : va_P D classes [(hr, .inr (3, [.ref ht, .ref hT, .ref hQ, .ref q_1, .ref q_5, .null, .null, .int (iI 0), .int (iI 0), .int (iI 0)])), (q_1, .inr (0, [.ref q_2, .int (iI 0), .int (iI 0)])), (q_2, .inl (cI, 40, .inl z0)), (q_5, .inr (0, [.ref q_6, .int (iI 0), .int (iI 0)])), (q_6, .inl (cI, 40, .inl z0)), (q_9, .inr (0, [.null, .int (iI 0), .int (iI 0)]))] H := xP
  replace xD : va_D xA0 [(hr, .inr (3, [.ref ht, .ref hT, .ref hQ, .ref q_1, .ref q_5, .null, .null, .int (iI 0), .int (iI 0), .int (iI 0)])), (q_1, .inr (0, [.ref q_2, .int (iI 0), .int (iI 0)])), (q_2, .inl (cI, 40, .inl z0)), (q_5, .inr (0, [.ref q_6, .int (iI 0), .int (iI 0)])), (q_6, .inl (cI, 40, .inl z0)), (q_9, .inr (0, [.null, .int (iI 0), .int (iI 0)]))] := xD
  refine lv_dup xe xb d_Reader_init_49 rfl ?_
  refine lv_bipush (v := iI (16)) xe xb d_Reader_init_50 (by decide) ?_
  refine tk_callN (As := [.int (iI 16)]) (rest := [.ref q_9, .ref hr]) (wr := [(hr, .inr (3, [.ref ht, .ref hT, .ref hQ, .ref q_1, .ref q_5, .null, .null, .int (iI 0), .int (iI 0), .int (iI 0)])), (q_1, .inr (0, [.ref q_2, .int (iI 0), .int (iI 0)])), (q_2, .inl (cI, 40, .inl z0)), (q_5, .inr (0, [.ref q_6, .int (iI 0), .int (iI 0)])), (q_6, .inl (cI, 40, .inl z0))]) (wn := fun u => [(hr, .inr (3, [.ref ht, .ref hT, .ref hQ, .ref q_1, .ref q_5, .null, .null, .int (iI 0), .int (iI 0), .int (iI 0)])), (q_1, .inr (0, [.ref q_2, .int (iI 0), .int (iI 0)])), (q_2, .inl (cI, 40, .inl z0)), (q_5, .inr (0, [.ref q_6, .int (iI 0), .int (iI 0)])), (q_6, .inl (cI, 40, .inl z0)), (q_9, .inr (0, [.ref u, .int (iI 0), .int (iI 0)])), (u, .inl (cI, 16, .inl z0))]) ⟨xe, xb, xml, xo, xt⟩ (c_Row_init16 l D cI q_9 ) kn_Row_init mw_Reader_25 ⟨Nat.le_of_ble_eq_true rfl, Nat.le_of_ble_eq_true rfl⟩ xK xP xD xS xA rfl xl.1 rfl (Nat.le_of_ble_eq_true rfl) d_Reader_init_52 ⟨Nat.le_of_ble_eq_true rfl, Nat.le_of_ble_eq_true rfl⟩ [5] [0, 1, 2, 3, 4] [0, 1, 2, 3, 4, 5, 6] rfl rfl (by decide) (by decide) (by decide) (by decide) (fun _ => rfl) ?_
  clear xP xD xS
  intro u H locs hw_11 xP xD xS
  obtain ⟨q_10, rfl⟩ : ∃ v, v = u := ⟨_, rfl⟩
  try dsimp only at hw_11
  replace xP : va_P D classes [(hr, .inr (3, [.ref ht, .ref hT, .ref hQ, .ref q_1, .ref q_5, .null, .null, .int (iI 0), .int (iI 0), .int (iI 0)])), (q_1, .inr (0, [.ref q_2, .int (iI 0), .int (iI 0)])), (q_2, .inl (cI, 40, .inl z0)), (q_5, .inr (0, [.ref q_6, .int (iI 0), .int (iI 0)])), (q_6, .inl (cI, 40, .inl z0)), (q_9, .inr (0, [.ref q_10, .int (iI 0), .int (iI 0)])), (q_10, .inl (cI, 16, .inl z0))] H := xP
  replace xD : va_D xA0 [(hr, .inr (3, [.ref ht, .ref hT, .ref hQ, .ref q_1, .ref q_5, .null, .null, .int (iI 0), .int (iI 0), .int (iI 0)])), (q_1, .inr (0, [.ref q_2, .int (iI 0), .int (iI 0)])), (q_2, .inl (cI, 40, .inl z0)), (q_5, .inr (0, [.ref q_6, .int (iI 0), .int (iI 0)])), (q_6, .inl (cI, 40, .inl z0)), (q_9, .inr (0, [.ref q_10, .int (iI 0), .int (iI 0)])), (q_10, .inl (cI, 16, .inl z0))] := xD
  refine va_putF (D := D) (ci := 3) (v := .ref q_9) (ty := (.object "TripleLines$Row")) (C := R_Reader) (T := F_Reader) (N := 10) xe xb xt i_Reader t_Reader t_Reader_ok n_Reader xo xK xP xD xS 0 rfl rfl 5 (by decide) (xt _ mw_Reader_34) (fun _ h9 => h9) rfl xnm rfl (by decide +kernel) rfl rfl (Nat.le_of_ble_eq_true rfl) d_Reader_init_55 ?_
  clear xP xD xS
  intro H locs xP xD xS
  replace xP : va_P D classes [(hr, .inr (3, [.ref ht, .ref hT, .ref hQ, .ref q_1, .ref q_5, .ref q_9, .null, .int (iI 0), .int (iI 0), .int (iI 0)])), (q_1, .inr (0, [.ref q_2, .int (iI 0), .int (iI 0)])), (q_2, .inl (cI, 40, .inl z0)), (q_5, .inr (0, [.ref q_6, .int (iI 0), .int (iI 0)])), (q_6, .inl (cI, 40, .inl z0)), (q_9, .inr (0, [.ref q_10, .int (iI 0), .int (iI 0)])), (q_10, .inl (cI, 16, .inl z0))] H := xP
  replace xD : va_D xA0 [(hr, .inr (3, [.ref ht, .ref hT, .ref hQ, .ref q_1, .ref q_5, .ref q_9, .null, .int (iI 0), .int (iI 0), .int (iI 0)])), (q_1, .inr (0, [.ref q_2, .int (iI 0), .int (iI 0)])), (q_2, .inl (cI, 40, .inl z0)), (q_5, .inr (0, [.ref q_6, .int (iI 0), .int (iI 0)])), (q_6, .inl (cI, 40, .inl z0)), (q_9, .inr (0, [.ref q_10, .int (iI 0), .int (iI 0)])), (q_10, .inl (cI, 16, .inl z0))] := xD
  refine lv_aload_n xe xb d_Reader_init_58 rfl (lv_at xl 0 rfl) ?_
  refine va_new (D := D) (ci := 0) (fs := [.null, .int (iI 0), .int (iI 0)]) (C := R_Row) (T := F_Row) (N := 3) xe xb xt i_Row t_Row t_Row_ok xo (xt _ mw_Reader_23) (xt _ mw_inst_Row) (xt _ mw_ini_Row) xK xP xD xS xA rfl (fun j hj => by rcases (show j = 0 ∨ j = 1 ∨ j = 2 by omega) with rfl | rfl | rfl <;> first | rfl | exact congrArg Value.int iI_0) (Nat.le_of_ble_eq_true rfl) (Nat.le_of_ble_eq_true rfl) d_Reader_init_59 ?_
  clear xP xD xS
  intro q_13 H xP xD xS
  replace xP : va_P D classes [(hr, .inr (3, [.ref ht, .ref hT, .ref hQ, .ref q_1, .ref q_5, .ref q_9, .null, .int (iI 0), .int (iI 0), .int (iI 0)])), (q_1, .inr (0, [.ref q_2, .int (iI 0), .int (iI 0)])), (q_2, .inl (cI, 40, .inl z0)), (q_5, .inr (0, [.ref q_6, .int (iI 0), .int (iI 0)])), (q_6, .inl (cI, 40, .inl z0)), (q_9, .inr (0, [.ref q_10, .int (iI 0), .int (iI 0)])), (q_10, .inl (cI, 16, .inl z0)), (q_13, .inr (0, [.null, .int (iI 0), .int (iI 0)]))] H := xP
  replace xD : va_D xA0 [(hr, .inr (3, [.ref ht, .ref hT, .ref hQ, .ref q_1, .ref q_5, .ref q_9, .null, .int (iI 0), .int (iI 0), .int (iI 0)])), (q_1, .inr (0, [.ref q_2, .int (iI 0), .int (iI 0)])), (q_2, .inl (cI, 40, .inl z0)), (q_5, .inr (0, [.ref q_6, .int (iI 0), .int (iI 0)])), (q_6, .inl (cI, 40, .inl z0)), (q_9, .inr (0, [.ref q_10, .int (iI 0), .int (iI 0)])), (q_10, .inl (cI, 16, .inl z0)), (q_13, .inr (0, [.null, .int (iI 0), .int (iI 0)]))] := xD
  refine lv_dup xe xb d_Reader_init_62 rfl ?_
  refine lv_iconst (v := iI (0)) xe xb d_Reader_init_63 rfl ?_
  refine tk_callN (As := [.int (iI 0)]) (rest := [.ref q_13, .ref hr]) (wr := [(hr, .inr (3, [.ref ht, .ref hT, .ref hQ, .ref q_1, .ref q_5, .ref q_9, .null, .int (iI 0), .int (iI 0), .int (iI 0)])), (q_1, .inr (0, [.ref q_2, .int (iI 0), .int (iI 0)])), (q_2, .inl (cI, 40, .inl z0)), (q_5, .inr (0, [.ref q_6, .int (iI 0), .int (iI 0)])), (q_6, .inl (cI, 40, .inl z0)), (q_9, .inr (0, [.ref q_10, .int (iI 0), .int (iI 0)])), (q_10, .inl (cI, 16, .inl z0))]) (wn := fun u => [(hr, .inr (3, [.ref ht, .ref hT, .ref hQ, .ref q_1, .ref q_5, .ref q_9, .null, .int (iI 0), .int (iI 0), .int (iI 0)])), (q_1, .inr (0, [.ref q_2, .int (iI 0), .int (iI 0)])), (q_2, .inl (cI, 40, .inl z0)), (q_5, .inr (0, [.ref q_6, .int (iI 0), .int (iI 0)])), (q_6, .inl (cI, 40, .inl z0)), (q_9, .inr (0, [.ref q_10, .int (iI 0), .int (iI 0)])), (q_10, .inl (cI, 16, .inl z0)), (q_13, .inr (0, [.ref u, .int (iI 0), .int (iI 0)])), (u, .inl (cI, 0, .inl z0))]) ⟨xe, xb, xml, xo, xt⟩ (c_Row_init0 l D cI q_13 ) kn_Row_init mw_Reader_25 ⟨Nat.le_of_ble_eq_true rfl, Nat.le_of_ble_eq_true rfl⟩ xK xP xD xS xA rfl xl.1 rfl (Nat.le_of_ble_eq_true rfl) d_Reader_init_64 ⟨Nat.le_of_ble_eq_true rfl, Nat.le_of_ble_eq_true rfl⟩ [7] [0, 1, 2, 3, 4, 5, 6] [0, 1, 2, 3, 4, 5, 6, 7, 8] rfl rfl (by decide) (by decide) (by decide) (by decide) (fun _ => rfl) ?_
  clear xP xD xS
  intro u H locs hw_15 xP xD xS
  obtain ⟨q_14, rfl⟩ : ∃ v, v = u := ⟨_, rfl⟩
  try dsimp only at hw_15
  replace xP : va_P D classes [(hr, .inr (3, [.ref ht, .ref hT, .ref hQ, .ref q_1, .ref q_5, .ref q_9, .null, .int (iI 0), .int (iI 0), .int (iI 0)])), (q_1, .inr (0, [.ref q_2, .int (iI 0), .int (iI 0)])), (q_2, .inl (cI, 40, .inl z0)), (q_5, .inr (0, [.ref q_6, .int (iI 0), .int (iI 0)])), (q_6, .inl (cI, 40, .inl z0)), (q_9, .inr (0, [.ref q_10, .int (iI 0), .int (iI 0)])), (q_10, .inl (cI, 16, .inl z0)), (q_13, .inr (0, [.ref q_14, .int (iI 0), .int (iI 0)])), (q_14, .inl (cI, 0, .inl z0))] H := xP
  replace xD : va_D xA0 [(hr, .inr (3, [.ref ht, .ref hT, .ref hQ, .ref q_1, .ref q_5, .ref q_9, .null, .int (iI 0), .int (iI 0), .int (iI 0)])), (q_1, .inr (0, [.ref q_2, .int (iI 0), .int (iI 0)])), (q_2, .inl (cI, 40, .inl z0)), (q_5, .inr (0, [.ref q_6, .int (iI 0), .int (iI 0)])), (q_6, .inl (cI, 40, .inl z0)), (q_9, .inr (0, [.ref q_10, .int (iI 0), .int (iI 0)])), (q_10, .inl (cI, 16, .inl z0)), (q_13, .inr (0, [.ref q_14, .int (iI 0), .int (iI 0)])), (q_14, .inl (cI, 0, .inl z0))] := xD
  refine va_putF (D := D) (ci := 3) (v := .ref q_13) (ty := (.object "TripleLines$Row")) (C := R_Reader) (T := F_Reader) (N := 10) xe xb xt i_Reader t_Reader t_Reader_ok n_Reader xo xK xP xD xS 0 rfl rfl 6 (by decide) (xt _ mw_Reader_37) (fun _ h9 => h9) rfl xnm rfl (by decide +kernel) rfl rfl (Nat.le_of_ble_eq_true rfl) d_Reader_init_67 ?_
  clear xP xD xS
  intro H locs xP xD xS
  replace xP : va_P D classes [(hr, .inr (3, [.ref ht, .ref hT, .ref hQ, .ref q_1, .ref q_5, .ref q_9, .ref q_13, .int (iI 0), .int (iI 0), .int (iI 0)])), (q_1, .inr (0, [.ref q_2, .int (iI 0), .int (iI 0)])), (q_2, .inl (cI, 40, .inl z0)), (q_5, .inr (0, [.ref q_6, .int (iI 0), .int (iI 0)])), (q_6, .inl (cI, 40, .inl z0)), (q_9, .inr (0, [.ref q_10, .int (iI 0), .int (iI 0)])), (q_10, .inl (cI, 16, .inl z0)), (q_13, .inr (0, [.ref q_14, .int (iI 0), .int (iI 0)])), (q_14, .inl (cI, 0, .inl z0))] H := xP
  replace xD : va_D xA0 [(hr, .inr (3, [.ref ht, .ref hT, .ref hQ, .ref q_1, .ref q_5, .ref q_9, .ref q_13, .int (iI 0), .int (iI 0), .int (iI 0)])), (q_1, .inr (0, [.ref q_2, .int (iI 0), .int (iI 0)])), (q_2, .inl (cI, 40, .inl z0)), (q_5, .inr (0, [.ref q_6, .int (iI 0), .int (iI 0)])), (q_6, .inl (cI, 40, .inl z0)), (q_9, .inr (0, [.ref q_10, .int (iI 0), .int (iI 0)])), (q_10, .inl (cI, 16, .inl z0)), (q_13, .inr (0, [.ref q_14, .int (iI 0), .int (iI 0)])), (q_14, .inl (cI, 0, .inl z0))] := xD
  refine lv_aload_n xe xb d_Reader_init_70 rfl (lv_at xl 0 rfl) ?_
  refine lv_iconst (v := iI (0)) xe xb d_Reader_init_71 rfl ?_
  refine va_put (D := D) (ci := 3) (v := .int (iI 0)) (ty := .int) (C := R_Reader) (T := F_Reader) (N := 10) xe xb xt i_Reader t_Reader t_Reader_ok n_Reader xo xK xP xD xS 0 rfl rfl 7 (by decide) (xt _ mw_Reader_40) (fun _ h9 => h9) rfl (by decide +kernel) rfl rfl (Nat.le_of_ble_eq_true rfl) d_Reader_init_72 ?_
  clear xP xD xS
  intro H locs xP xD xS
  replace xP : va_P D classes [(hr, .inr (3, [.ref ht, .ref hT, .ref hQ, .ref q_1, .ref q_5, .ref q_9, .ref q_13, .int (iI 0), .int (iI 0), .int (iI 0)])), (q_1, .inr (0, [.ref q_2, .int (iI 0), .int (iI 0)])), (q_2, .inl (cI, 40, .inl z0)), (q_5, .inr (0, [.ref q_6, .int (iI 0), .int (iI 0)])), (q_6, .inl (cI, 40, .inl z0)), (q_9, .inr (0, [.ref q_10, .int (iI 0), .int (iI 0)])), (q_10, .inl (cI, 16, .inl z0)), (q_13, .inr (0, [.ref q_14, .int (iI 0), .int (iI 0)])), (q_14, .inl (cI, 0, .inl z0))] H := xP
  replace xD : va_D xA0 [(hr, .inr (3, [.ref ht, .ref hT, .ref hQ, .ref q_1, .ref q_5, .ref q_9, .ref q_13, .int (iI 0), .int (iI 0), .int (iI 0)])), (q_1, .inr (0, [.ref q_2, .int (iI 0), .int (iI 0)])), (q_2, .inl (cI, 40, .inl z0)), (q_5, .inr (0, [.ref q_6, .int (iI 0), .int (iI 0)])), (q_6, .inl (cI, 40, .inl z0)), (q_9, .inr (0, [.ref q_10, .int (iI 0), .int (iI 0)])), (q_10, .inl (cI, 16, .inl z0)), (q_13, .inr (0, [.ref q_14, .int (iI 0), .int (iI 0)])), (q_14, .inl (cI, 0, .inl z0))] := xD
  refine lv_aload_n xe xb d_Reader_init_75 rfl (lv_at xl 0 rfl) ?_
  refine lv_iconst (v := iI (0)) xe xb d_Reader_init_76 rfl ?_
  refine va_put (D := D) (ci := 3) (v := .int (iI 0)) (ty := .int) (C := R_Reader) (T := F_Reader) (N := 10) xe xb xt i_Reader t_Reader t_Reader_ok n_Reader xo xK xP xD xS 0 rfl rfl 8 (by decide) (xt _ mw_Reader_44) (fun _ h9 => h9) rfl (by decide +kernel) rfl rfl (Nat.le_of_ble_eq_true rfl) d_Reader_init_77 ?_
  clear xP xD xS
  intro H locs xP xD xS
  replace xP : va_P D classes [(hr, .inr (3, [.ref ht, .ref hT, .ref hQ, .ref q_1, .ref q_5, .ref q_9, .ref q_13, .int (iI 0), .int (iI 0), .int (iI 0)])), (q_1, .inr (0, [.ref q_2, .int (iI 0), .int (iI 0)])), (q_2, .inl (cI, 40, .inl z0)), (q_5, .inr (0, [.ref q_6, .int (iI 0), .int (iI 0)])), (q_6, .inl (cI, 40, .inl z0)), (q_9, .inr (0, [.ref q_10, .int (iI 0), .int (iI 0)])), (q_10, .inl (cI, 16, .inl z0)), (q_13, .inr (0, [.ref q_14, .int (iI 0), .int (iI 0)])), (q_14, .inl (cI, 0, .inl z0))] H := xP
  replace xD : va_D xA0 [(hr, .inr (3, [.ref ht, .ref hT, .ref hQ, .ref q_1, .ref q_5, .ref q_9, .ref q_13, .int (iI 0), .int (iI 0), .int (iI 0)])), (q_1, .inr (0, [.ref q_2, .int (iI 0), .int (iI 0)])), (q_2, .inl (cI, 40, .inl z0)), (q_5, .inr (0, [.ref q_6, .int (iI 0), .int (iI 0)])), (q_6, .inl (cI, 40, .inl z0)), (q_9, .inr (0, [.ref q_10, .int (iI 0), .int (iI 0)])), (q_10, .inl (cI, 16, .inl z0)), (q_13, .inr (0, [.ref q_14, .int (iI 0), .int (iI 0)])), (q_14, .inl (cI, 0, .inl z0))] := xD
  refine lv_aload_n xe xb d_Reader_init_80 rfl (lv_at xl 0 rfl) ?_
  refine lv_iconst (v := iI (-1)) xe xb d_Reader_init_81 rfl ?_
  refine va_put (D := D) (ci := 3) (v := .int (iI (-1))) (ty := .int) (C := R_Reader) (T := F_Reader) (N := 10) xe xb xt i_Reader t_Reader t_Reader_ok n_Reader xo xK xP xD xS 0 rfl rfl 9 (by decide) (xt _ mw_Reader_47) (fun _ h9 => h9) rfl (by decide +kernel) rfl rfl (Nat.le_of_ble_eq_true rfl) d_Reader_init_82 ?_
  clear xP xD xS
  intro H locs xP xD xS
  replace xP : va_P D classes [(hr, .inr (3, [.ref ht, .ref hT, .ref hQ, .ref q_1, .ref q_5, .ref q_9, .ref q_13, .int (iI 0), .int (iI 0), .int (iI (-1))])), (q_1, .inr (0, [.ref q_2, .int (iI 0), .int (iI 0)])), (q_2, .inl (cI, 40, .inl z0)), (q_5, .inr (0, [.ref q_6, .int (iI 0), .int (iI 0)])), (q_6, .inl (cI, 40, .inl z0)), (q_9, .inr (0, [.ref q_10, .int (iI 0), .int (iI 0)])), (q_10, .inl (cI, 16, .inl z0)), (q_13, .inr (0, [.ref q_14, .int (iI 0), .int (iI 0)])), (q_14, .inl (cI, 0, .inl z0))] H := xP
  replace xD : va_D xA0 [(hr, .inr (3, [.ref ht, .ref hT, .ref hQ, .ref q_1, .ref q_5, .ref q_9, .ref q_13, .int (iI 0), .int (iI 0), .int (iI (-1))])), (q_1, .inr (0, [.ref q_2, .int (iI 0), .int (iI 0)])), (q_2, .inl (cI, 40, .inl z0)), (q_5, .inr (0, [.ref q_6, .int (iI 0), .int (iI 0)])), (q_6, .inl (cI, 40, .inl z0)), (q_9, .inr (0, [.ref q_10, .int (iI 0), .int (iI 0)])), (q_10, .inl (cI, 16, .inl z0)), (q_13, .inr (0, [.ref q_14, .int (iI 0), .int (iI 0)])), (q_14, .inl (cI, 0, .inl z0))] := xD
  exact xret _ _ _ _ (q_1, q_2, q_5, q_6, q_9, q_10, q_13, q_14) d_Reader_init_85 (by first | exact trivial | (dsimp only; exact trivial)) xP xD xS
set_option maxHeartbeats 4000000 in
set_option maxRecDepth 100000 in
theorem c_Printer_init (l : Launch) (D : va_G) (cI : ClassId) (hpr : Nat) (hT : Nat) (hQ : Nat)  : CtN l D [(cI, .int)] y_Printer_init b_Printer_init 3 2 4 3164 [.ref hpr, .ref hT, .ref hQ] [(hpr, .inr (4, [.null, .null, .null, .null, .null, .int (iI 0)]))] (S := Nat × Nat × Nat × Nat) (fun u => True) (fun u => [(hpr, .inr (4, [.ref hT, .ref hQ, .ref u.1, .ref u.2.2.1, .ref u.2.2.2, .int (iI 0)])), (u.1, .inr (0, [.ref u.2.1, .int (iI 0), .int (iI 0)])), (u.2.1, .inl (cI, 3000, .inl z0)), (u.2.2.1, .inl (cI, 81, .inl z0)), (u.2.2.2, .inl (cI, 80, .inl z0))]) := by
  refine CtN.walk (by decide) (Nat.le_of_ble_eq_true rfl) ?_
  intro xp xe0 xs xm xar xbelow xmeth xc xA0 xQ xe xb xml xo xnm xt xP xK xD xA xret ls xl xS
  have xl : lv_has ls 3 [(0, .ref hpr), (1, .ref hT), (2, .ref hQ)] := xl
  have xo : xs.vm.findClass R_Printer = some xm.cls := xo
  refine lv_aload_n xe xb d_Printer_init_0 rfl (lv_at xl 0 rfl) ?_
  refine W.objInit xe xb xo (xt _ mw_Printer_3) (xt _ mw_oi) (xt _ mw_oc) rfl (xl.1.trans xml.symm) rfl d_Printer_init_1 (Nat.le_of_ble_eq_true rfl) (Nat.le_of_ble_eq_true rfl) ?_
  refine lv_aload_n xe xb d_Printer_init_4 rfl (lv_at xl 0 rfl) ?_
  refine lv_aload_n xe xb d_Printer_init_5 rfl (lv_at xl 1 rfl) ?_
  refine va_putF (D := D) (ci := 4) (v := .ref hT) (ty := (.object "TripleLines$Terms")) (C := R_Printer) (T := F_Printer) (N := 6) xe xb xt i_Printer t_Printer t_Printer_ok n_Printer xo xK xP xD xS 0 rfl rfl 0 (by decide) (xt _ mw_Printer_9) (fun _ h9 => h9) rfl xnm rfl (by decide +kernel) rfl rfl (Nat.le_of_ble_eq_true rfl) d_Printer_init_6 ?_
  clear xP xD xS
  intro H locs xP xD xS
  replace xP : va_P D classes [(hpr, .inr (4, [.ref hT, .null, .null, .null, .null, .int (iI 0)]))] H := xP
  replace xD : va_D xA0 [(hpr, .inr (4, [.ref hT, .null, .null, .null, .null, .int (iI 0)]))] := xD
  refine lv_aload_n xe xb d_Printer_init_9 rfl (lv_at xl 0 rfl) ?_
  refine lv_aload_n xe xb d_Printer_init_10 rfl (lv_at xl 2 rfl) ?_
  refine va_putF (D := D) (ci := 4) (v := .ref hQ) (ty := (.object "TripleLines$Quads")) (C := R_Printer) (T := F_Printer) (N := 6) xe xb xt i_Printer t_Printer t_Printer_ok n_Printer xo xK xP xD xS 0 rfl rfl 1 (by decide) (xt _ mw_Printer_15) (fun _ h9 => h9) rfl xnm rfl (by decide +kernel) rfl rfl (Nat.le_of_ble_eq_true rfl) d_Printer_init_11 ?_
  clear xP xD xS
  intro H locs xP xD xS
  replace xP : va_P D classes [(hpr, .inr (4, [.ref hT, .ref hQ, .null, .null, .null, .int (iI 0)]))] H := xP
  replace xD : va_D xA0 [(hpr, .inr (4, [.ref hT, .ref hQ, .null, .null, .null, .int (iI 0)]))] := xD
  refine lv_aload_n xe xb d_Printer_init_14 rfl (lv_at xl 0 rfl) ?_
  refine va_new (D := D) (ci := 0) (fs := [.null, .int (iI 0), .int (iI 0)]) (C := R_Row) (T := F_Row) (N := 3) xe xb xt i_Row t_Row t_Row_ok xo (xt _ mw_Printer_19) (xt _ mw_inst_Row) (xt _ mw_ini_Row) xK xP xD xS xA rfl (fun j hj => by rcases (show j = 0 ∨ j = 1 ∨ j = 2 by omega) with rfl | rfl | rfl <;> first | rfl | exact congrArg Value.int iI_0) (Nat.le_of_ble_eq_true rfl) (Nat.le_of_ble_eq_true rfl) d_Printer_init_15 ?_
  clear xP xD xS
  intro q_1 H xP xD xS
  replace xP : va_P D classes [(hpr, .inr (4, [.ref hT, .ref hQ, .null, .null, .null, .int (iI 0)])), (q_1, .inr (0, [.null, .int (iI 0), .int (iI 0)]))] H := xP
  replace xD : va_D xA0 [(hpr, .inr (4, [.ref hT, .ref hQ, .null, .null, .null, .int (iI 0)])), (q_1, .inr (0, [.null, .int (iI 0), .int (iI 0)]))] := xD
  refine lv_dup xe xb d_Printer_init_18 rfl ?_
  refine lv_sipush (v := iI (3000)) xe xb d_Printer_init_19 (by decide) ?_
  refine tk_callN (As := [.int (iI 3000)]) (rest := [.ref q_1, .ref hpr]) (wr := [(hpr, .inr (4, [.ref hT, .ref hQ, .null, .null, .null, .int (iI 0)]))]) (wn := fun u => [(hpr, .inr (4, [.ref hT, .ref hQ, .null, .null, .null, .int (iI 0)])), (q_1, .inr (0, [.ref u, .int (iI 0), .int (iI 0)])), (u, .inl (cI, 3000, .inl z0))]) ⟨xe, xb, xml, xo, xt⟩ (c_Row_init3000 l D cI q_1 ) kn_Row_init mw_Printer_21 ⟨Nat.le_of_ble_eq_true rfl, Nat.le_of_ble_eq_true rfl⟩ xK xP xD xS xA rfl xl.1 rfl (Nat.le_of_ble_eq_true rfl) d_Printer_init_22 ⟨Nat.le_of_ble_eq_true rfl, Nat.le_of_ble_eq_true rfl⟩ [1] [0] [0, 1, 2] rfl rfl (by decide) (by decide) (by decide) (by decide) (fun _ => rfl) ?_
  clear xP xD xS
  intro u H locs hw_3 xP xD xS
  obtain ⟨q_2, rfl⟩ : ∃ v, v = u := ⟨_, rfl⟩
  try dsimp only at hw_3
  replace xP : va_P D classes [(hpr, .inr (4, [.ref hT, .ref hQ, .null, .null, .null, .int (iI 0)])), (q_1, .inr (0, [.ref q_2, .int (iI 0), .int (iI 0)])), (q_2, .inl (cI, 3000, .inl z0))] H := xP
  replace xD : va_D xA0 [(hpr, .inr (4, [.ref hT, .ref hQ, .null, .null, .null, .int (iI 0)])), (q_1, .inr (0, [.ref q_2, .int (iI 0), .int (iI 0)])), (q_2, .inl (cI, 3000, .inl z0))] := xD
  refine va_putF (D := D) (ci := 4) (v := .ref q_1) (ty := (.object "TripleLines$Row")) (C := R_Printer) (T := F_Printer) (N := 6) xe xb xt i_Printer t_Printer t_Printer_ok n_Printer xo xK xP xD xS 0 rfl rfl 2 (by decide) (xt _ mw_Printer_24) (fun _ h9 => h9) rfl xnm rfl (by decide +kernel) rfl rfl (Nat.le_of_ble_eq_true rfl) d_Printer_init_25 ?_
  clear xP xD xS
  intro H locs xP xD xS
  replace xP : va_P D classes [(hpr, .inr (4, [.ref hT, .ref hQ, .ref q_1, .null, .null, .int (iI 0)])), (q_1, .inr (0, [.ref q_2, .int (iI 0), .int (iI 0)])), (q_2, .inl (cI, 3000, .inl z0))] H := xP
  replace xD : va_D xA0 [(hpr, .inr (4, [.ref hT, .ref hQ, .ref q_1, .null, .null, .int (iI 0)])), (q_1, .inr (0, [.ref q_2, .int (iI 0), .int (iI 0)])), (q_2, .inl (cI, 3000, .inl z0))] := xD
  refine lv_aload_n xe xb d_Printer_init_28 rfl (lv_at xl 0 rfl) ?_
  refine lv_bipush (v := iI (81)) xe xb d_Printer_init_29 (by decide) ?_
  refine tk_newi xe xb (xt _ mw_ai) xK 0 rfl xP xD xS xA 81 (by decide) (by decide) (Nat.le_of_ble_eq_true rfl) (Nat.le_of_ble_eq_true rfl) d_Printer_init_31 ?_
  clear xP xD xS
  intro q_5 H xP xD xS
  replace xP : va_P D classes [(hpr, .inr (4, [.ref hT, .ref hQ, .ref q_1, .null, .null, .int (iI 0)])), (q_1, .inr (0, [.ref q_2, .int (iI 0), .int (iI 0)])), (q_2, .inl (cI, 3000, .inl z0)), (q_5, .inl (cI, 81, .inl z0))] H := xP
  replace xD : va_D xA0 [(hpr, .inr (4, [.ref hT, .ref hQ, .ref q_1, .null, .null, .int (iI 0)])), (q_1, .inr (0, [.ref q_2, .int (iI 0), .int (iI 0)])), (q_2, .inl (cI, 3000, .inl z0)), (q_5, .inl (cI, 81, .inl z0))] := xD
  refine va_putF (D := D) (ci := 4) (v := .ref q_5) (ty := (.array .int)) (C := R_Printer) (T := F_Printer) (N := 6) xe xb xt i_Printer t_Printer t_Printer_ok n_Printer xo xK xP xD xS 0 rfl rfl 3 (by decide) (xt _ mw_Printer_28) (fun _ h9 => h9) rfl xnm rfl (by decide +kernel) rfl rfl (Nat.le_of_ble_eq_true rfl) d_Printer_init_33 ?_
  clear xP xD xS
  intro H locs xP xD xS
  replace xP : va_P D classes [(hpr, .inr (4, [.ref hT, .ref hQ, .ref q_1, .ref q_5, .null, .int (iI 0)])), (q_1, .inr (0, [.ref q_2, .int (iI 0), .int (iI 0)])), (q_2, .inl (cI, 3000, .inl z0)), (q_5, .inl (cI, 81, .inl z0))] H := xP
  replace xD : va_D xA0 [(hpr, .inr (4, [.ref hT, .ref hQ, .ref q_1, .ref q_5, .null, .int (iI 0)])), (q_1, .inr (0, [.ref q_2, .int (iI 0), .int (iI 0)])), (q_2, .inl (cI, 3000, .inl z0)), (q_5, .inl (cI, 81, .inl z0))] := xD
  refine lv_aload_n xe xb d_Printer_init_36 rfl (lv_at xl 0 rfl) ?_
  refine lv_bipush (v := iI (80)) xe xb d_Printer_init_37 (by decide) ?_
  refine tk_newi xe xb (xt _ mw_ai) xK 0 rfl xP xD xS xA 80 (by decide) (by decide) (Nat.le_of_ble_eq_true rfl) (Nat.le_of_ble_eq_true rfl) d_Printer_init_39 ?_
  clear xP xD xS
  intro q_6 H xP xD xS
  replace xP : va_P D classes [(hpr, .inr (4, [.ref hT, .ref hQ, .ref q_1, .ref q_5, .null, .int (iI 0)])), (q_1, .inr (0, [.ref q_2, .int (iI 0), .int (iI 0)])), (q_2, .inl (cI, 3000, .inl z0)), (q_5, .inl (cI, 81, .inl z0)), (q_6, .inl (cI, 80, .inl z0))] H := xP
  replace xD : va_D xA0 [(hpr, .inr (4, [.ref hT, .ref hQ, .ref q_1, .ref q_5, .null, .int (iI 0)])), (q_1, .inr (0, [.ref q_2, .int (iI 0), .int (iI 0)])), (q_2, .inl (cI, 3000, .inl z0)), (q_5, .inl (cI, 81, .inl z0)), (q_6, .inl (cI, 80, .inl z0))] := xD
  refine va_putF (D := D) (ci := 4) (v := .ref q_6) (ty := (.array .int)) (C := R_Printer) (T := F_Printer) (N := 6) xe xb xt i_Printer t_Printer t_Printer_ok n_Printer xo xK xP xD xS 0 rfl rfl 4 (by decide) (xt _ mw_Printer_32) (fun _ h9 => h9) rfl xnm rfl (by decide +kernel) rfl rfl (Nat.le_of_ble_eq_true rfl) d_Printer_init_41 ?_
  clear xP xD xS
  intro H locs xP xD xS
  replace xP : va_P D classes [(hpr, .inr (4, [.ref hT, .ref hQ, .ref q_1, .ref q_5, .ref q_6, .int (iI 0)])), (q_1, .inr (0, [.ref q_2, .int (iI 0), .int (iI 0)])), (q_2, .inl (cI, 3000, .inl z0)), (q_5, .inl (cI, 81, .inl z0)), (q_6, .inl (cI, 80, .inl z0))] H := xP
  replace xD : va_D xA0 [(hpr, .inr (4, [.ref hT, .ref hQ, .ref q_1, .ref q_5, .ref q_6, .int (iI 0)])), (q_1, .inr (0, [.ref q_2, .int (iI 0), .int (iI 0)])), (q_2, .inl (cI, 3000, .inl z0)), (q_5, .inl (cI, 81, .inl z0)), (q_6, .inl (cI, 80, .inl z0))] := xD
  refine lv_aload_n xe xb d_Printer_init_44 rfl (lv_at xl 0 rfl) ?_
  refine lv_iconst (v := iI (0)) xe xb d_Printer_init_45 rfl ?_
  refine va_put (D := D) (ci := 4) (v := .int (iI 0)) (ty := .int) (C := R_Printer) (T := F_Printer) (N := 6) xe xb xt i_Printer t_Printer t_Printer_ok n_Printer xo xK xP xD xS 0 rfl rfl 5 (by decide) (xt _ mw_Printer_35) (fun _ h9 => h9) rfl (by decide +kernel) rfl rfl (Nat.le_of_ble_eq_true rfl) d_Printer_init_46 ?_
  clear xP xD xS
  intro H locs xP xD xS
  replace xP : va_P D classes [(hpr, .inr (4, [.ref hT, .ref hQ, .ref q_1, .ref q_5, .ref q_6, .int (iI 0)])), (q_1, .inr (0, [.ref q_2, .int (iI 0), .int (iI 0)])), (q_2, .inl (cI, 3000, .inl z0)), (q_5, .inl (cI, 81, .inl z0)), (q_6, .inl (cI, 80, .inl z0))] H := xP
  replace xD : va_D xA0 [(hpr, .inr (4, [.ref hT, .ref hQ, .ref q_1, .ref q_5, .ref q_6, .int (iI 0)])), (q_1, .inr (0, [.ref q_2, .int (iI 0), .int (iI 0)])), (q_2, .inl (cI, 3000, .inl z0)), (q_5, .inl (cI, 81, .inl z0)), (q_6, .inl (cI, 80, .inl z0))] := xD
  exact xret _ _ _ _ (q_1, q_2, q_5, q_6) d_Printer_init_49 (by first | exact trivial | (dsimp only; exact trivial)) xP xD xS
