theorem d_Row_init_0 : decode b_Row_init 0 = .ok (.aload_n 0, 1) := by decide +kernel
theorem d_Row_init_1 : decode b_Row_init 1 = .ok (.invokespecial 3, 3) := by decide +kernel
theorem d_Row_init_4 : decode b_Row_init 4 = .ok (.aload_n 0, 1) := by decide +kernel
theorem d_Row_init_5 : decode b_Row_init 5 = .ok (.iconst 0, 1) := by decide +kernel
theorem d_Row_init_6 : decode b_Row_init 6 = .ok (.iload_n 1, 1) := by decide +kernel
theorem d_Row_init_7 : decode b_Row_init 7 = .ok (.invokestatic 9, 3) := by decide +kernel
theorem d_Row_init_10 : decode b_Row_init 10 = .ok (.newarray .int, 2) := by decide +kernel
theorem d_Row_init_12 : decode b_Row_init 12 = .ok (.putfield 15, 3) := by decide +kernel
theorem d_Row_init_15 : decode b_Row_init 15 = .ok (.aload_n 0, 1) := by decide +kernel
theorem d_Row_init_16 : decode b_Row_init 16 = .ok (.iconst 0, 1) := by decide +kernel
theorem d_Row_init_17 : decode b_Row_init 17 = .ok (.putfield 21, 3) := by decide +kernel
theorem d_Row_init_20 : decode b_Row_init 20 = .ok (.aload_n 0, 1) := by decide +kernel
theorem d_Row_init_21 : decode b_Row_init 21 = .ok (.iconst 0, 1) := by decide +kernel
theorem d_Row_init_22 : decode b_Row_init 22 = .ok (.putfield 25, 3) := by decide +kernel
theorem d_Row_init_25 : decode b_Row_init 25 = .ok (.return_, 1) := by decide +kernel
theorem d_Terms_init_0 : decode b_Terms_init 0 = .ok (.aload_n 0, 1) := by decide +kernel
theorem d_Terms_init_1 : decode b_Terms_init 1 = .ok (.invokespecial 3, 3) := by decide +kernel
theorem d_Terms_init_4 : decode b_Terms_init 4 = .ok (.aload_n 0, 1) := by decide +kernel
theorem d_Terms_init_5 : decode b_Terms_init 5 = .ok (.bipush 120, 2) := by decide +kernel
theorem d_Terms_init_7 : decode b_Terms_init 7 = .ok (.newarray .int, 2) := by decide +kernel
theorem d_Terms_init_9 : decode b_Terms_init 9 = .ok (.putfield 9, 3) := by decide +kernel
theorem d_Terms_init_12 : decode b_Terms_init 12 = .ok (.aload_n 0, 1) := by decide +kernel
theorem d_Terms_init_13 : decode b_Terms_init 13 = .ok (.bipush 120, 2) := by decide +kernel
theorem d_Terms_init_15 : decode b_Terms_init 15 = .ok (.newarray .int, 2) := by decide +kernel
theorem d_Terms_init_17 : decode b_Terms_init 17 = .ok (.putfield 15, 3) := by decide +kernel
theorem d_Terms_init_20 : decode b_Terms_init 20 = .ok (.aload_n 0, 1) := by decide +kernel
theorem d_Terms_init_21 : decode b_Terms_init 21 = .ok (.sipush 4800, 3) := by decide +kernel
theorem d_Terms_init_24 : decode b_Terms_init 24 = .ok (.newarray .int, 2) := by decide +kernel
theorem d_Terms_init_26 : decode b_Terms_init 26 = .ok (.putfield 18, 3) := by decide +kernel
theorem d_Terms_init_29 : decode b_Terms_init 29 = .ok (.aload_n 0, 1) := by decide +kernel
theorem d_Terms_init_30 : decode b_Terms_init 30 = .ok (.bipush 120, 2) := by decide +kernel
theorem d_Terms_init_32 : decode b_Terms_init 32 = .ok (.newarray .int, 2) := by decide +kernel
theorem d_Terms_init_34 : decode b_Terms_init 34 = .ok (.putfield 21, 3) := by decide +kernel
theorem d_Terms_init_37 : decode b_Terms_init 37 = .ok (.aload_n 0, 1) := by decide +kernel
theorem d_Terms_init_38 : decode b_Terms_init 38 = .ok (.sipush 1920, 3) := by decide +kernel
theorem d_Terms_init_41 : decode b_Terms_init 41 = .ok (.newarray .int, 2) := by decide +kernel
theorem d_Terms_init_43 : decode b_Terms_init 43 = .ok (.putfield 24, 3) := by decide +kernel
theorem d_Terms_init_46 : decode b_Terms_init 46 = .ok (.aload_n 0, 1) := by decide +kernel
theorem d_Terms_init_47 : decode b_Terms_init 47 = .ok (.bipush 120, 2) := by decide +kernel
theorem d_Terms_init_49 : decode b_Terms_init 49 = .ok (.newarray .int, 2) := by decide +kernel
theorem d_Terms_init_51 : decode b_Terms_init 51 = .ok (.putfield 27, 3) := by decide +kernel
theorem d_Terms_init_54 : decode b_Terms_init 54 = .ok (.aload_n 0, 1) := by decide +kernel
theorem d_Terms_init_55 : decode b_Terms_init 55 = .ok (.iconst 0, 1) := by decide +kernel
theorem d_Terms_init_56 : decode b_Terms_init 56 = .ok (.putfield 30, 3) := by decide +kernel
theorem d_Terms_init_59 : decode b_Terms_init 59 = .ok (.aload_n 0, 1) := by decide +kernel
theorem d_Terms_init_60 : decode b_Terms_init 60 = .ok (.iconst 0, 1) := by decide +kernel
theorem d_Terms_init_61 : decode b_Terms_init 61 = .ok (.putfield 34, 3) := by decide +kernel
theorem d_Terms_init_64 : decode b_Terms_init 64 = .ok (.aload_n 0, 1) := by decide +kernel
theorem d_Terms_init_65 : decode b_Terms_init 65 = .ok (.iconst 0, 1) := by decide +kernel
theorem d_Terms_init_66 : decode b_Terms_init 66 = .ok (.putfield 37, 3) := by decide +kernel
theorem d_Terms_init_69 : decode b_Terms_init 69 = .ok (.return_, 1) := by decide +kernel
theorem d_Quads_init_0 : decode b_Quads_init 0 = .ok (.aload_n 0, 1) := by decide +kernel
theorem d_Quads_init_1 : decode b_Quads_init 1 = .ok (.invokespecial 3, 3) := by decide +kernel
theorem d_Quads_init_4 : decode b_Quads_init 4 = .ok (.aload_n 0, 1) := by decide +kernel
theorem d_Quads_init_5 : decode b_Quads_init 5 = .ok (.sipush 320, 3) := by decide +kernel
theorem d_Quads_init_8 : decode b_Quads_init 8 = .ok (.newarray .int, 2) := by decide +kernel
theorem d_Quads_init_10 : decode b_Quads_init 10 = .ok (.putfield 9, 3) := by decide +kernel
theorem d_Quads_init_13 : decode b_Quads_init 13 = .ok (.aload_n 0, 1) := by decide +kernel
theorem d_Quads_init_14 : decode b_Quads_init 14 = .ok (.iconst 0, 1) := by decide +kernel
theorem d_Quads_init_15 : decode b_Quads_init 15 = .ok (.putfield 15, 3) := by decide +kernel
theorem d_Quads_init_18 : decode b_Quads_init 18 = .ok (.aload_n 0, 1) := by decide +kernel
theorem d_Quads_init_19 : decode b_Quads_init 19 = .ok (.iconst 0, 1) := by decide +kernel
theorem d_Quads_init_20 : decode b_Quads_init 20 = .ok (.putfield 19, 3) := by decide +kernel
theorem d_Quads_init_23 : decode b_Quads_init 23 = .ok (.return_, 1) := by decide +kernel
set_option maxHeartbeats 4000000 in
set_option maxRecDepth 100000 in
theorem c_Row_init3000 (l : Launch) (D : va_G) (cI : ClassId) (h : Nat)  : CtN l D [(cI, .int)] y_Row_init b_Row_init 2 1 1 3000 [.ref h, .int (iI 3000)] [(h, .inr (0, [.null, .int (iI 0), .int (iI 0)]))] (S := Nat) (fun u => True) (fun u => [(h, .inr (0, [.ref u, .int (iI 0), .int (iI 0)])), (u, .inl (cI, 3000, .inl z0))]) := by
  refine CtN.walk (by decide) (Nat.le_of_ble_eq_true rfl) ?_
  intro xp xe0 xs xm xar xbelow xmeth xc xA0 xQ xe xb xml xo xnm xt xP xK xD xA xret ls xl xS
  have xl : lv_has ls 2 [(0, .ref h), (1, .int (iI 3000))] := xl
  have xo : xs.vm.findClass R_Row = some xm.cls := xo
  refine lv_aload_n xe xb d_Row_init_0 rfl (lv_at xl 0 rfl) ?_
  refine W.objInit xe xb xo (xt _ mw_Row_3) (xt _ mw_oi) (xt _ mw_oc) rfl (xl.1.trans xml.symm) rfl d_Row_init_1 (Nat.le_of_ble_eq_true rfl) (Nat.le_of_ble_eq_true rfl) ?_
  refine lv_aload_n xe xb d_Row_init_4 rfl (lv_at xl 0 rfl) ?_
  refine lv_iconst (v := iI (0)) xe xb d_Row_init_5 rfl ?_
  refine lv_iload_n xe xb d_Row_init_6 rfl (lv_at xl 1 rfl) ?_
  refine va_mmax xe xb (xml.trans xl.1.symm) xo (xt _ mw_Row_9) (xt _ mw_max_s) (xt _ mw_math_i) (xt _ mw_max_c) (Nat.le_of_ble_eq_true rfl) (Nat.le_of_ble_eq_true rfl) (Nat.zero_le _) (Nat.zero_le _) d_Row_init_7 ?_
  refine tk_top (y := iI (if 0 < 3000 then 3000 else 0)) (iI_max (by omega)) ?_
  refine tk_newi xe xb (xt _ mw_ai) xK 0 rfl xP xD xS xA 3000 (by decide) (by decide) (Nat.le_of_ble_eq_true rfl) (Nat.le_of_ble_eq_true rfl) d_Row_init_10 ?_
  clear xP xD xS
  intro q_1 H xP xD xS
  replace xP : va_P D classes [(h, .inr (0, [.null, .int (iI 0), .int (iI 0)])), (q_1, .inl (cI, 3000, .inl z0))] H := xP
  replace xD : va_D xA0 [(h, .inr (0, [.null, .int (iI 0), .int (iI 0)])), (q_1, .inl (cI, 3000, .inl z0))] := xD
  refine va_putF (D := D) (ci := 0) (v := .ref q_1) (ty := (.array .int)) (C := R_Row) (T := F_Row) (N := 3) xe xb xt i_Row t_Row t_Row_ok n_Row xo xK xP xD xS 0 rfl rfl 0 (by decide) (xt _ mw_Row_15) (fun _ h9 => h9) rfl xnm rfl (by decide +kernel) rfl rfl (Nat.le_of_ble_eq_true rfl) d_Row_init_12 ?_
  clear xP xD xS
  intro H locs xP xD xS
  replace xP : va_P D classes [(h, .inr (0, [.ref q_1, .int (iI 0), .int (iI 0)])), (q_1, .inl (cI, 3000, .inl z0))] H := xP
  replace xD : va_D xA0 [(h, .inr (0, [.ref q_1, .int (iI 0), .int (iI 0)])), (q_1, .inl (cI, 3000, .inl z0))] := xD
  refine lv_aload_n xe xb d_Row_init_15 rfl (lv_at xl 0 rfl) ?_
  refine lv_iconst (v := iI (0)) xe xb d_Row_init_16 rfl ?_
  refine va_put (D := D) (ci := 0) (v := .int (iI 0)) (ty := .int) (C := R_Row) (T := F_Row) (N := 3) xe xb xt i_Row t_Row t_Row_ok n_Row xo xK xP xD xS 0 rfl rfl 1 (by decide) (xt _ mw_Row_21) (fun _ h9 => h9) rfl (by decide +kernel) rfl rfl (Nat.le_of_ble_eq_true rfl) d_Row_init_17 ?_
  clear xP xD xS
  intro H locs xP xD xS
  replace xP : va_P D classes [(h, .inr (0, [.ref q_1, .int (iI 0), .int (iI 0)])), (q_1, .inl (cI, 3000, .inl z0))] H := xP
  replace xD : va_D xA0 [(h, .inr (0, [.ref q_1, .int (iI 0), .int (iI 0)])), (q_1, .inl (cI, 3000, .inl z0))] := xD
  refine lv_aload_n xe xb d_Row_init_20 rfl (lv_at xl 0 rfl) ?_
  refine lv_iconst (v := iI (0)) xe xb d_Row_init_21 rfl ?_
  refine va_put (D := D) (ci := 0) (v := .int (iI 0)) (ty := .boolean) (C := R_Row) (T := F_Row) (N := 3) xe xb xt i_Row t_Row t_Row_ok n_Row xo xK xP xD xS 0 rfl rfl 2 (by decide) (xt _ mw_Row_25) (fun _ h9 => h9) rfl (by decide +kernel) (by decide) (by decide) (Nat.le_of_ble_eq_true rfl) d_Row_init_22 ?_
  clear xP xD xS
  intro H locs xP xD xS
  replace xP : va_P D classes [(h, .inr (0, [.ref q_1, .int (iI 0), .int (iI 0)])), (q_1, .inl (cI, 3000, .inl z0))] H := xP
  replace xD : va_D xA0 [(h, .inr (0, [.ref q_1, .int (iI 0), .int (iI 0)])), (q_1, .inl (cI, 3000, .inl z0))] := xD
  exact xret _ _ _ _ q_1 d_Row_init_25 (by first | exact trivial | (dsimp only; exact trivial)) xP xD xS
set_option maxHeartbeats 4000000 in
set_option maxRecDepth 100000 in
theorem c_Row_init40 (l : Launch) (D : va_G) (cI : ClassId) (h : Nat)  : CtN l D [(cI, .int)] y_Row_init b_Row_init 2 1 1 40 [.ref h, .int (iI 40)] [(h, .inr (0, [.null, .int (iI 0), .int (iI 0)]))] (S := Nat) (fun u => True) (fun u => [(h, .inr (0, [.ref u, .int (iI 0), .int (iI 0)])), (u, .inl (cI, 40, .inl z0))]) := by
  refine CtN.walk (by decide) (Nat.le_of_ble_eq_true rfl) ?_
  intro xp xe0 xs xm xar xbelow xmeth xc xA0 xQ xe xb xml xo xnm xt xP xK xD xA xret ls xl xS
  have xl : lv_has ls 2 [(0, .ref h), (1, .int (iI 40))] := xl
  have xo : xs.vm.findClass R_Row = some xm.cls := xo
  refine lv_aload_n xe xb d_Row_init_0 rfl (lv_at xl 0 rfl) ?_
  refine W.objInit xe xb xo (xt _ mw_Row_3) (xt _ mw_oi) (xt _ mw_oc) rfl (xl.1.trans xml.symm) rfl d_Row_init_1 (Nat.le_of_ble_eq_true rfl) (Nat.le_of_ble_eq_true rfl) ?_
  refine lv_aload_n xe xb d_Row_init_4 rfl (lv_at xl 0 rfl) ?_
  refine lv_iconst (v := iI (0)) xe xb d_Row_init_5 rfl ?_
  refine lv_iload_n xe xb d_Row_init_6 rfl (lv_at xl 1 rfl) ?_
  refine va_mmax xe xb (xml.trans xl.1.symm) xo (xt _ mw_Row_9) (xt _ mw_max_s) (xt _ mw_math_i) (xt _ mw_max_c) (Nat.le_of_ble_eq_true rfl) (Nat.le_of_ble_eq_true rfl) (Nat.zero_le _) (Nat.zero_le _) d_Row_init_7 ?_
  refine tk_top (y := iI (if 0 < 40 then 40 else 0)) (iI_max (by omega)) ?_
  refine tk_newi xe xb (xt _ mw_ai) xK 0 rfl xP xD xS xA 40 (by decide) (by decide) (Nat.le_of_ble_eq_true rfl) (Nat.le_of_ble_eq_true rfl) d_Row_init_10 ?_
  clear xP xD xS
  intro q_1 H xP xD xS
  replace xP : va_P D classes [(h, .inr (0, [.null, .int (iI 0), .int (iI 0)])), (q_1, .inl (cI, 40, .inl z0))] H := xP
  replace xD : va_D xA0 [(h, .inr (0, [.null, .int (iI 0), .int (iI 0)])), (q_1, .inl (cI, 40, .inl z0))] := xD
  refine va_putF (D := D) (ci := 0) (v := .ref q_1) (ty := (.array .int)) (C := R_Row) (T := F_Row) (N := 3) xe xb xt i_Row t_Row t_Row_ok n_Row xo xK xP xD xS 0 rfl rfl 0 (by decide) (xt _ mw_Row_15) (fun _ h9 => h9) rfl xnm rfl (by decide +kernel) rfl rfl (Nat.le_of_ble_eq_true rfl) d_Row_init_12 ?_
  clear xP xD xS
  intro H locs xP xD xS
  replace xP : va_P D classes [(h, .inr (0, [.ref q_1, .int (iI 0), .int (iI 0)])), (q_1, .inl (cI, 40, .inl z0))] H := xP
  replace xD : va_D xA0 [(h, .inr (0, [.ref q_1, .int (iI 0), .int (iI 0)])), (q_1, .inl (cI, 40, .inl z0))] := xD
  refine lv_aload_n xe xb d_Row_init_15 rfl (lv_at xl 0 rfl) ?_
  refine lv_iconst (v := iI (0)) xe xb d_Row_init_16 rfl ?_
  refine va_put (D := D) (ci := 0) (v := .int (iI 0)) (ty := .int) (C := R_Row) (T := F_Row) (N := 3) xe xb xt i_Row t_Row t_Row_ok n_Row xo xK xP xD xS 0 rfl rfl 1 (by decide) (xt _ mw_Row_21) (fun _ h9 => h9) rfl (by decide +kernel) rfl rfl (Nat.le_of_ble_eq_true rfl) d_Row_init_17 ?_
  clear xP xD xS
  intro H locs xP xD xS
  replace xP : va_P D classes [(h, .inr (0, [.ref q_1, .int (iI 0), .int (iI 0)])), (q_1, .inl (cI, 40, .inl z0))] H := xP
  replace xD : va_D xA0 [(h, .inr (0, [.ref q_1, .int (iI 0), .int (iI 0)])), (q_1, .inl (cI, 40, .inl z0))] := xD
  refine lv_aload_n xe xb d_Row_init_20 rfl (lv_at xl 0 rfl) ?_
  refine lv_iconst (v := iI (0)) xe xb d_Row_init_21 rfl ?_
  refine va_put (D := D) (ci := 0) (v := .int (iI 0)) (ty := .boolean) (C := R_Row) (T := F_Row) (N := 3) xe xb xt i_Row t_Row t_Row_ok n_Row xo xK xP xD xS 0 rfl rfl 2 (by decide) (xt _ mw_Row_25) (fun _ h9 => h9) rfl (by decide +kernel) (by decide) (by decide) (Nat.le_of_ble_eq_true rfl) d_Row_init_22 ?_
  clear xP xD xS
  intro H locs xP xD xS
  replace xP : va_P D classes [(h, .inr (0, [.ref q_1, .int (iI 0), .int (iI 0)])), (q_1, .inl (cI, 40, .inl z0))] H := xP
  replace xD : va_D xA0 [(h, .inr (0, [.ref q_1, .int (iI 0), .int (iI 0)])), (q_1, .inl (cI, 40, .inl z0))] := xD
  exact xret _ _ _ _ q_1 d_Row_init_25 (by first | exact trivial | (dsimp only; exact trivial)) xP xD xS
set_option maxHeartbeats 4000000 in
set_option maxRecDepth 100000 in
theorem c_Row_init16 (l : Launch) (D : va_G) (cI : ClassId) (h : Nat)  : CtN l D [(cI, .int)] y_Row_init b_Row_init 2 1 1 16 [.ref h, .int (iI 16)] [(h, .inr (0, [.null, .int (iI 0), .int (iI 0)]))] (S := Nat) (fun u => True) (fun u => [(h, .inr (0, [.ref u, .int (iI 0), .int (iI 0)])), (u, .inl (cI, 16, .inl z0))]) := by
  refine CtN.walk (by decide) (Nat.le_of_ble_eq_true rfl) ?_
  intro xp xe0 xs xm xar xbelow xmeth xc xA0 xQ xe xb xml xo xnm xt xP xK xD xA xret ls xl xS
  have xl : lv_has ls 2 [(0, .ref h), (1, .int (iI 16))] := xl
  have xo : xs.vm.findClass R_Row = some xm.cls := xo
  refine lv_aload_n xe xb d_Row_init_0 rfl (lv_at xl 0 rfl) ?_
  refine W.objInit xe xb xo (xt _ mw_Row_3) (xt _ mw_oi) (xt _ mw_oc) rfl (xl.1.trans xml.symm) rfl d_Row_init_1 (Nat.le_of_ble_eq_true rfl) (Nat.le_of_ble_eq_true rfl) ?_
  refine lv_aload_n xe xb d_Row_init_4 rfl (lv_at xl 0 rfl) ?_
  refine lv_iconst (v := iI (0)) xe xb d_Row_init_5 rfl ?_
  refine lv_iload_n xe xb d_Row_init_6 rfl (lv_at xl 1 rfl) ?_
  refine va_mmax xe xb (xml.trans xl.1.symm) xo (xt _ mw_Row_9) (xt _ mw_max_s) (xt _ mw_math_i) (xt _ mw_max_c) (Nat.le_of_ble_eq_true rfl) (Nat.le_of_ble_eq_true rfl) (Nat.zero_le _) (Nat.zero_le _) d_Row_init_7 ?_
  refine tk_top (y := iI (if 0 < 16 then 16 else 0)) (iI_max (by omega)) ?_
  refine tk_newi xe xb (xt _ mw_ai) xK 0 rfl xP xD xS xA 16 (by decide) (by decide) (Nat.le_of_ble_eq_true rfl) (Nat.le_of_ble_eq_true rfl) d_Row_init_10 ?_
  clear xP xD xS
  intro q_1 H xP xD xS
  replace xP : va_P D classes [(h, .inr (0, [.null, .int (iI 0), .int (iI 0)])), (q_1, .inl (cI, 16, .inl z0))] H := xP
  replace xD : va_D xA0 [(h, .inr (0, [.null, .int (iI 0), .int (iI 0)])), (q_1, .inl (cI, 16, .inl z0))] := xD
  refine va_putF (D := D) (ci := 0) (v := .ref q_1) (ty := (.array .int)) (C := R_Row) (T := F_Row) (N := 3) xe xb xt i_Row t_Row t_Row_ok n_Row xo xK xP xD xS 0 rfl rfl 0 (by decide) (xt _ mw_Row_15) (fun _ h9 => h9) rfl xnm rfl (by decide +kernel) rfl rfl (Nat.le_of_ble_eq_true rfl) d_Row_init_12 ?_
  clear xP xD xS
  intro H locs xP xD xS
  replace xP : va_P D classes [(h, .inr (0, [.ref q_1, .int (iI 0), .int (iI 0)])), (q_1, .inl (cI, 16, .inl z0))] H := xP
  replace xD : va_D xA0 [(h, .inr (0, [.ref q_1, .int (iI 0), .int (iI 0)])), (q_1, .inl (cI, 16, .inl z0))] := xD
  refine lv_aload_n xe xb d_Row_init_15 rfl (lv_at xl 0 rfl) ?_
  refine lv_iconst (v := iI (0)) xe xb d_Row_init_16 rfl ?_
  refine va_put (D := D) (ci := 0) (v := .int (iI 0)) (ty := .int) (C := R_Row) (T := F_Row) (N := 3) xe xb xt i_Row t_Row t_Row_ok n_Row xo xK xP xD xS 0 rfl rfl 1 (by decide) (xt _ mw_Row_21) (fun _ h9 => h9) rfl (by decide +kernel) rfl rfl (Nat.le_of_ble_eq_true rfl) d_Row_init_17 ?_
  clear xP xD xS
  intro H locs xP xD xS
  replace xP : va_P D classes [(h, .inr (0, [.ref q_1, .int (iI 0), .int (iI 0)])), (q_1, .inl (cI, 16, .inl z0))] H := xP
  replace xD : va_D xA0 [(h, .inr (0, [.ref q_1, .int (iI 0), .int (iI 0)])), (q_1, .inl (cI, 16, .inl z0))] := xD
  refine lv_aload_n xe xb d_Row_init_20 rfl (lv_at xl 0 rfl) ?_
  refine lv_iconst (v := iI (0)) xe xb d_Row_init_21 rfl ?_
  refine va_put (D := D) (ci := 0) (v := .int (iI 0)) (ty := .boolean) (C := R_Row) (T := F_Row) (N := 3) xe xb xt i_Row t_Row t_Row_ok n_Row xo xK xP xD xS 0 rfl rfl 2 (by decide) (xt _ mw_Row_25) (fun _ h9 => h9) rfl (by decide +kernel) (by decide) (by decide) (Nat.le_of_ble_eq_true rfl) d_Row_init_22 ?_
  clear xP xD xS
  intro H locs xP xD xS
  replace xP : va_P D classes [(h, .inr (0, [.ref q_1, .int (iI 0), .int (iI 0)])), (q_1, .inl (cI, 16, .inl z0))] H := xP
  replace xD : va_D xA0 [(h, .inr (0, [.ref q_1, .int (iI 0), .int (iI 0)])), (q_1, .inl (cI, 16, .inl z0))] := xD
  exact xret _ _ _ _ q_1 d_Row_init_25 (by first | exact trivial | (dsimp only; exact trivial)) xP xD xS
set_option maxHeartbeats 4000000 in
set_option maxRecDepth 100000 in
theorem c_Row_init0 (l : Launch) (D : va_G) (cI : ClassId) (h : Nat)  : CtN l D [(cI, .int)] y_Row_init b_Row_init 2 1 1 0 [.ref h, .int (iI 0)] [(h, .inr (0, [.null, .int (iI 0), .int (iI 0)]))] (S := Nat) (fun u => True) (fun u => [(h, .inr (0, [.ref u, .int (iI 0), .int (iI 0)])), (u, .inl (cI, 0, .inl z0))]) := by
  refine CtN.walk (by decide) (Nat.le_of_ble_eq_true rfl) ?_
  intro xp xe0 xs xm xar xbelow xmeth xc xA0 xQ xe xb xml xo xnm xt xP xK xD xA xret ls xl xS
  have xl : lv_has ls 2 [(0, .ref h), (1, .int (iI 0))] := xl
  have xo : xs.vm.findClass R_Row = some xm.cls := xo
  refine lv_aload_n xe xb d_Row_init_0 rfl (lv_at xl 0 rfl) ?_
  refine W.objInit xe xb xo (xt _ mw_Row_3) (xt _ mw_oi) (xt _ mw_oc) rfl (xl.1.trans xml.symm) rfl d_Row_init_1 (Nat.le_of_ble_eq_true rfl) (Nat.le_of_ble_eq_true rfl) ?_
  refine lv_aload_n xe xb d_Row_init_4 rfl (lv_at xl 0 rfl) ?_
  refine lv_iconst (v := iI (0)) xe xb d_Row_init_5 rfl ?_
  refine lv_iload_n xe xb d_Row_init_6 rfl (lv_at xl 1 rfl) ?_
  refine va_mmax xe xb (xml.trans xl.1.symm) xo (xt _ mw_Row_9) (xt _ mw_max_s) (xt _ mw_math_i) (xt _ mw_max_c) (Nat.le_of_ble_eq_true rfl) (Nat.le_of_ble_eq_true rfl) (Nat.zero_le _) (Nat.zero_le _) d_Row_init_7 ?_
  refine tk_top (y := iI (if 0 < 0 then 0 else 0)) (iI_max (by omega)) ?_
  refine tk_newi xe xb (xt _ mw_ai) xK 0 rfl xP xD xS xA 0 (by decide) (by decide) (Nat.le_of_ble_eq_true rfl) (Nat.le_of_ble_eq_true rfl) d_Row_init_10 ?_
  clear xP xD xS
  intro q_1 H xP xD xS
  replace xP : va_P D classes [(h, .inr (0, [.null, .int (iI 0), .int (iI 0)])), (q_1, .inl (cI, 0, .inl z0))] H := xP
  replace xD : va_D xA0 [(h, .inr (0, [.null, .int (iI 0), .int (iI 0)])), (q_1, .inl (cI, 0, .inl z0))] := xD
  refine va_putF (D := D) (ci := 0) (v := .ref q_1) (ty := (.array .int)) (C := R_Row) (T := F_Row) (N := 3) xe xb xt i_Row t_Row t_Row_ok n_Row xo xK xP xD xS 0 rfl rfl 0 (by decide) (xt _ mw_Row_15) (fun _ h9 => h9) rfl xnm rfl (by decide +kernel) rfl rfl (Nat.le_of_ble_eq_true rfl) d_Row_init_12 ?_
  clear xP xD xS
  intro H locs xP xD xS
  replace xP : va_P D classes [(h, .inr (0, [.ref q_1, .int (iI 0), .int (iI 0)])), (q_1, .inl (cI, 0, .inl z0))] H := xP
  replace xD : va_D xA0 [(h, .inr (0, [.ref q_1, .int (iI 0), .int (iI 0)])), (q_1, .inl (cI, 0, .inl z0))] := xD
  refine lv_aload_n xe xb d_Row_init_15 rfl (lv_at xl 0 rfl) ?_
  refine lv_iconst (v := iI (0)) xe xb d_Row_init_16 rfl ?_
  refine va_put (D := D) (ci := 0) (v := .int (iI 0)) (ty := .int) (C := R_Row) (T := F_Row) (N := 3) xe xb xt i_Row t_Row t_Row_ok n_Row xo xK xP xD xS 0 rfl rfl 1 (by decide) (xt _ mw_Row_21) (fun _ h9 => h9) rfl (by decide +kernel) rfl rfl (Nat.le_of_ble_eq_true rfl) d_Row_init_17 ?_
  clear xP xD xS
  intro H locs xP xD xS
  replace xP : va_P D classes [(h, .inr (0, [.ref q_1, .int (iI 0), .int (iI 0)])), (q_1, .inl (cI, 0, .inl z0))] H := xP
  replace xD : va_D xA0 [(h, .inr (0, [.ref q_1, .int (iI 0), .int (iI 0)])), (q_1, .inl (cI, 0, .inl z0))] := xD
  refine lv_aload_n xe xb d_Row_init_20 rfl (lv_at xl 0 rfl) ?_
  refine lv_iconst (v := iI (0)) xe xb d_Row_init_21 rfl ?_
  refine va_put (D := D) (ci := 0) (v := .int (iI 0)) (ty := .boolean) (C := R_Row) (T := F_Row) (N := 3) xe xb xt i_Row t_Row t_Row_ok n_Row xo xK xP xD xS 0 rfl rfl 2 (by decide) (xt _ mw_Row_25) (fun _ h9 => h9) rfl (by decide +kernel) (by decide) (by decide) (Nat.le_of_ble_eq_true rfl) d_Row_init_22 ?_
  clear xP xD xS
  intro H locs xP xD xS
  replace xP : va_P D classes [(h, .inr (0, [.ref q_1, .int (iI 0), .int (iI 0)])), (q_1, .inl (cI, 0, .inl z0))] H := xP
  replace xD : va_D xA0 [(h, .inr (0, [.ref q_1, .int (iI 0), .int (iI 0)])), (q_1, .inl (cI, 0, .inl z0))] := xD
  exact xret _ _ _ _ q_1 d_Row_init_25 (by first | exact trivial | (dsimp only; exact trivial)) xP xD xS
set_option maxHeartbeats 4000000 in
set_option maxRecDepth 100000 in
theorem c_Terms_init (l : Launch) (D : va_G) (cI : ClassId) (hT : Nat)  : CtN l D [(cI, .int)] y_Terms_init b_Terms_init 1 1 6 7200 [.ref hT] [(hT, .inr (1, [.null, .null, .null, .null, .null, .null, .int (iI 0), .int (iI 0), .int (iI 0)]))] (S := Nat × Nat × Nat × Nat × Nat × Nat) (fun u => True) (fun u => [(hT, .inr (1, [.ref u.1, .ref u.2.1, .ref u.2.2.1, .ref u.2.2.2.1, .ref u.2.2.2.2.1, .ref u.2.2.2.2.2, .int (iI 0), .int (iI 0), .int (iI 0)])), (u.1, .inl (cI, 120, .inl z0)), (u.2.1, .inl (cI, 120, .inl z0)), (u.2.2.1, .inl (cI, 4800, .inl z0)), (u.2.2.2.1, .inl (cI, 120, .inl z0)), (u.2.2.2.2.1, .inl (cI, 1920, .inl z0)), (u.2.2.2.2.2, .inl (cI, 120, .inl z0))]) := by
  refine CtN.walk (by decide) (Nat.le_of_ble_eq_true rfl) ?_
  intro xp xe0 xs xm xar xbelow xmeth xc xA0 xQ xe xb xml xo xnm xt xP xK xD xA xret ls xl xS
  have xl : lv_has ls 1 [(0, .ref hT)] := xl
  have xo : xs.vm.findClass R_Terms = some xm.cls := xo
  refine lv_aload_n xe xb d_Terms_init_0 rfl (lv_at xl 0 rfl) ?_
  refine W.objInit xe xb xo (xt _ mw_Terms_3) (xt _ mw_oi) (xt _ mw_oc) rfl (xl.1.trans xml.symm) rfl d_Terms_init_1 (Nat.le_of_ble_eq_true rfl) (Nat.le_of_ble_eq_true rfl) ?_
  refine lv_aload_n xe xb d_Terms_init_4 rfl (lv_at xl 0 rfl) ?_
  refine lv_bipush (v := iI (120)) xe xb d_Terms_init_5 (by decide) ?_
  refine tk_newi xe xb (xt _ mw_ai) xK 0 rfl xP xD xS xA 120 (by decide) (by decide) (Nat.le_of_ble_eq_true rfl) (Nat.le_of_ble_eq_true rfl) d_Terms_init_7 ?_
  clear xP xD xS
  intro q_1 H xP xD xS
  replace xP : va_P D classes [(hT, .inr (1, [.null, .null, .null, .null, .null, .null, .int (iI 0), .int (iI 0), .int (iI 0)])), (q_1, .inl (cI, 120, .inl z0))] H := xP
  replace xD : va_D xA0 [(hT, .inr (1, [.null, .null, .null, .null, .null, .null, .int (iI 0), .int (iI 0), .int (iI 0)])), (q_1, .inl (cI, 120, .inl z0))] := xD
  refine va_putF (D := D) (ci := 1) (v := .ref q_1) (ty := (.array .int)) (C := R_Terms) (T := F_Terms) (N := 9) xe xb xt i_Terms t_Terms t_Terms_ok n_Terms xo xK xP xD xS 0 rfl rfl 0 (by decide) (xt _ mw_Terms_9) (fun _ h9 => h9) rfl xnm rfl (by decide +kernel) rfl rfl (Nat.le_of_ble_eq_true rfl) d_Terms_init_9 ?_
  clear xP xD xS
  intro H locs xP xD xS
  replace xP : va_P D classes [(hT, .inr (1, [.ref q_1, .null, .null, .null, .null, .null, .int (iI 0), .int (iI 0), .int (iI 0)])), (q_1, .inl (cI, 120, .inl z0))] H := xP
  replace xD : va_D xA0 [(hT, .inr (1, [.ref q_1, .null, .null, .null, .null, .null, .int (iI 0), .int (iI 0), .int (iI 0)])), (q_1, .inl (cI, 120, .inl z0))] := xD
  refine lv_aload_n xe xb d_Terms_init_12 rfl (lv_at xl 0 rfl) ?_
  refine lv_bipush (v := iI (120)) xe xb d_Terms_init_13 (by decide) ?_
  refine tk_newi xe xb (xt _ mw_ai) xK 0 rfl xP xD xS xA 120 (by decide) (by decide) (Nat.le_of_ble_eq_true rfl) (Nat.le_of_ble_eq_true rfl) d_Terms_init_15 ?_
  clear xP xD xS
  intro q_2 H xP xD xS
  replace xP : va_P D classes [(hT, .inr (1, [.ref q_1, .null, .null, .null, .null, .null, .int (iI 0), .int (iI 0), .int (iI 0)])), (q_1, .inl (cI, 120, .inl z0)), (q_2, .inl (cI, 120, .inl z0))] H := xP
  replace xD : va_D xA0 [(hT, .inr (1, [.ref q_1, .null, .null, .null, .null, .null, .int (iI 0), .int (iI 0), .int (iI 0)])), (q_1, .inl (cI, 120, .inl z0)), (q_2, .inl (cI, 120, .inl z0))] := xD
  refine va_putF (D := D) (ci := 1) (v := .ref q_2) (ty := (.array .int)) (C := R_Terms) (T := F_Terms) (N := 9) xe xb xt i_Terms t_Terms t_Terms_ok n_Terms xo xK xP xD xS 0 rfl rfl 1 (by decide) (xt _ mw_Terms_15) (fun _ h9 => h9) rfl xnm rfl (by decide +kernel) rfl rfl (Nat.le_of_ble_eq_true rfl) d_Terms_init_17 ?_
  clear xP xD xS
  intro H locs xP xD xS
  replace xP : va_P D classes [(hT, .inr (1, [.ref q_1, .ref q_2, .null, .null, .null, .null, .int (iI 0), .int (iI 0), .int (iI 0)])), (q_1, .inl (cI, 120, .inl z0)), (q_2, .inl (cI, 120, .inl z0))] H := xP
  replace xD : va_D xA0 [(hT, .inr (1, [.ref q_1, .ref q_2, .null, .null, .null, .null, .int (iI 0), .int (iI 0), .int (iI 0)])), (q_1, .inl (cI, 120, .inl z0)), (q_2, .inl (cI, 120, .inl z0))] := xD
  refine lv_aload_n xe xb d_Terms_init_20 rfl (lv_at xl 0 rfl) ?_
  refine lv_sipush (v := iI (4800)) xe xb d_Terms_init_21 (by decide) ?_
  refine tk_newi xe xb (xt _ mw_ai) xK 0 rfl xP xD xS xA 4800 (by decide) (by decide) (Nat.le_of_ble_eq_true rfl) (Nat.le_of_ble_eq_true rfl) d_Terms_init_24 ?_
  clear xP xD xS
  intro q_3 H xP xD xS
  replace xP : va_P D classes [(hT, .inr (1, [.ref q_1, .ref q_2, .null, .null, .null, .null, .int (iI 0), .int (iI 0), .int (iI 0)])), (q_1, .inl (cI, 120, .inl z0)), (q_2, .inl (cI, 120, .inl z0)), (q_3, .inl (cI, 4800, .inl z0))] H := xP
  replace xD : va_D xA0 [(hT, .inr (1, [.ref q_1, .ref q_2, .null, .null, .null, .null, .int (iI 0), .int (iI 0), .int (iI 0)])), (q_1, .inl (cI, 120, .inl z0)), (q_2, .inl (cI, 120, .inl z0)), (q_3, .inl (cI, 4800, .inl z0))] := xD
  refine va_putF (D := D) (ci := 1) (v := .ref q_3) (ty := (.array .int)) (C := R_Terms) (T := F_Terms) (N := 9) xe xb xt i_Terms t_Terms t_Terms_ok n_Terms xo xK xP xD xS 0 rfl rfl 2 (by decide) (xt _ mw_Terms_18) (fun _ h9 => h9) rfl xnm rfl (by decide +kernel) rfl rfl (Nat.le_of_ble_eq_true rfl) d_Terms_init_26 ?_
  clear xP xD xS
  intro H locs xP xD xS
  replace xP : va_P D classes [(hT, .inr (1, [.ref q_1, .ref q_2, .ref q_3, .null, .null, .null, .int (iI 0), .int (iI 0), .int (iI 0)])), (q_1, .inl (cI, 120, .inl z0)), (q_2, .inl (cI, 120, .inl z0)), (q_3, .inl (cI, 4800, .inl z0))] H := xP
  replace xD : va_D xA0 [(hT, .inr (1, [.ref q_1, .ref q_2, .ref q_3, .null, .null, .null, .int (iI 0), .int (iI 0), .int (iI 0)])), (q_1, .inl (cI, 120, .inl z0)), (q_2, .inl (cI, 120, .inl z0)), (q_3, .inl (cI, 4800, .inl z0))] := xD
  refine lv_aload_n xe xb d_Terms_init_29 rfl (lv_at xl 0 rfl) ?_
  refine lv_bipush (v := iI (120)) xe xb d_Terms_init_30 (by decide) ?_
  refine tk_newi xe xb (xt _ mw_ai) xK 0 rfl xP xD xS xA 120 (by decide) (by decide) (Nat.le_of_ble_eq_true rfl) (Nat.le_of_ble_eq_true rfl) d_Terms_init_32 ?_
  clear xP xD xS
  intro q_4 H xP xD xS
  replace xP : va_P D classes [(hT, .inr (1, [.ref q_1, .ref q_2, .ref q_3, .null, .null, .null, .int (iI 0), .int (iI 0), .int (iI 0)])), (q_1, .inl (cI, 120, .inl z0)), (q_2, .inl (cI, 120, .inl z0)), (q_3, .inl (cI, 4800, .inl z0)), (q_4, .inl (cI, 120, .inl z0))] H := xP
  replace xD : va_D xA0 [(hT, .inr (1, [.ref q_1, .ref q_2, .ref q_3, .null, .null, .null, .int (iI 0), .int (iI 0), .int (iI 0)])), (q_1, .inl (cI, 120, .inl z0)), (q_2, .inl (cI, 120, .inl z0)), (q_3, .inl (cI, 4800, .inl z0)), (q_4, .inl (cI, 120, .inl z0))] := xD
  refine va_putF (D := D) (ci := 1) (v := .ref q_4) (ty := (.array .int)) (C := R_Terms) (T := F_Terms) (N := 9) xe xb xt i_Terms t_Terms t_Terms_ok n_Terms xo xK xP xD xS 0 rfl rfl 3 (by decide) (xt _ mw_Terms_21) (fun _ h9 => h9) rfl xnm rfl (by decide +kernel) rfl rfl (Nat.le_of_ble_eq_true rfl) d_Terms_init_34 ?_
  clear xP xD xS
  intro H locs xP xD xS
  replace xP : va_P D classes [(hT, .inr (1, [.ref q_1, .ref q_2, .ref q_3, .ref q_4, .null, .null, .int (iI 0), .int (iI 0), .int (iI 0)])), (q_1, .inl (cI, 120, .inl z0)), (q_2, .inl (cI, 120, .inl z0)), (q_3, .inl (cI, 4800, .inl z0)), (q_4, .inl (cI, 120, .inl z0))] H := xP
  replace xD : va_D xA0 [(hT, .inr (1, [.ref q_1, .ref q_2, .ref q_3, .ref q_4, .null, .null, .int (iI 0), .int (iI 0), .int (iI 0)])), (q_1, .inl (cI, 120, .inl z0)), (q_2, .inl (cI, 120, .inl z0)), (q_3, .inl (cI, 4800, .inl z0)), (q_4, .inl (cI, 120, .inl z0))] := xD
  refine lv_aload_n xe xb d_Terms_init_37 rfl (lv_at xl 0 rfl) ?_
  refine lv_sipush (v := iI (1920)) xe xb d_Terms_init_38 (by decide) ?_
  refine tk_newi xe xb (xt _ mw_ai) xK 0 rfl xP xD xS xA 1920 (by decide) (by decide) (Nat.le_of_ble_eq_true rfl) (Nat.le_of_ble_eq_true rfl) d_Terms_init_41 ?_
  clear xP xD xS
  intro q_5 H xP xD xS
  replace xP : va_P D classes [(hT, .inr (1, [.ref q_1, .ref q_2, .ref q_3, .ref q_4, .null, .null, .int (iI 0), .int (iI 0), .int (iI 0)])), (q_1, .inl (cI, 120, .inl z0)), (q_2, .inl (cI, 120, .inl z0)), (q_3, .inl (cI, 4800, .inl z0)), (q_4, .inl (cI, 120, .inl z0)), (q_5, .inl (cI, 1920, .inl z0))] H := xP
  replace xD : va_D xA0 [(hT, .inr (1, [.ref q_1, .ref q_2, .ref q_3, .ref q_4, .null, .null, .int (iI 0), .int (iI 0), .int (iI 0)])), (q_1, .inl (cI, 120, .inl z0)), (q_2, .inl (cI, 120, .inl z0)), (q_3, .inl (cI, 4800, .inl z0)), (q_4, .inl (cI, 120, .inl z0)), (q_5, .inl (cI, 1920, .inl z0))] := xD
  refine va_putF (D := D) (ci := 1) (v := .ref q_5) (ty := (.array .int)) (C := R_Terms) (T := F_Terms) (N := 9) xe xb xt i_Terms t_Terms t_Terms_ok n_Terms xo xK xP xD xS 0 rfl rfl 4 (by decide) (xt _ mw_Terms_24) (fun _ h9 => h9) rfl xnm rfl (by decide +kernel) rfl rfl (Nat.le_of_ble_eq_true rfl) d_Terms_init_43 ?_
  clear xP xD xS
  intro H locs xP xD xS
  replace xP : va_P D classes [(hT, .inr (1, [.ref q_1, .ref q_2, .ref q_3, .ref q_4, .ref q_5, .null, .int (iI 0), .int (iI 0), .int (iI 0)])), (q_1, .inl (cI, 120, .inl z0)), (q_2, .inl (cI, 120, .inl z0)), (q_3, .inl (cI, 4800, .inl z0)), (q_4, .inl (cI, 120, .inl z0)), (q_5, .inl (cI, 1920, .inl z0))] H := xP
  replace xD : va_D xA0 [(hT, .inr (1, [.ref q_1, .ref q_2, .ref q_3, .ref q_4, .ref q_5, .null, .int (iI 0), .int (iI 0), .int (iI 0)])), (q_1, .inl (cI, 120, .inl z0)), (q_2, .inl (cI, 120, .inl z0)), (q_3, .inl (cI, 4800, .inl z0)), (q_4, .inl (cI, 120, .inl z0)), (q_5, .inl (cI, 1920, .inl z0))] := xD
  refine lv_aload_n xe xb d_Terms_init_46 rfl (lv_at xl 0 rfl) ?_
  refine lv_bipush (v := iI (120)) xe xb d_Terms_init_47 (by decide) ?_
  refine tk_newi xe xb (xt _ mw_ai) xK 0 rfl xP xD xS xA 120 (by decide) (by decide) (Nat.le_of_ble_eq_true rfl) (Nat.le_of_ble_eq_true rfl) d_Terms_init_49 ?_
  clear xP xD xS
  intro q_6 H xP xD xS
  replace xP : va_P D classes [(hT, .inr (1, [.ref q_1, .ref q_2, .ref q_3, .ref q_4, .ref q_5, .null, .int (iI 0), .int (iI 0), .int (iI 0)])), (q_1, .inl (cI, 120, .inl z0)), (q_2, .inl (cI, 120, .inl z0)), (q_3, .inl (cI, 4800, .inl z0)), (q_4, .inl (cI, 120, .inl z0)), (q_5, .inl (cI, 1920, .inl z0)), (q_6, .inl (cI, 120, .inl z0))] H := xP
  replace xD : va_D xA0 [(hT, .inr (1, [.ref q_1, .ref q_2, .ref q_3, .ref q_4, .ref q_5, .null, .int (iI 0), .int (iI 0), .int (iI 0)])), (q_1, .inl (cI, 120, .inl z0)), (q_2, .inl (cI, 120, .inl z0)), (q_3, .inl (cI, 4800, .inl z0)), (q_4, .inl (cI, 120, .inl z0)), (q_5, .inl (cI, 1920, .inl z0)), (q_6, .inl (cI, 120, .inl z0))] := xD
  refine va_putF (D := D) (ci := 1) (v := .ref q_6) (ty := (.array .int)) (C := R_Terms) (T := F_Terms) (N := 9) xe xb xt i_Terms t_Terms t_Terms_ok n_Terms xo xK xP xD xS 0 rfl rfl 5 (by decide) (xt _ mw_Terms_27) (fun _ h9 => h9) rfl xnm rfl (by decide +kernel) rfl rfl (Nat.le_of_ble_eq_true rfl) d_Terms_init_51 ?_
  clear xP xD xS
  intro H locs xP xD xS
  replace xP : va_P D classes [(hT, .inr (1, [.ref q_1, .ref q_2, .ref q_3, .ref q_4, .ref q_5, .ref q_6, .int (iI 0), .int (iI 0), .int (iI 0)])), (q_1, .inl (cI, 120, .inl z0)), (q_2, .inl (cI, 120, .inl z0)), (q_3, .inl (cI, 4800, .inl z0)), (q_4, .inl (cI, 120, .inl z0)), (q_5, .inl (cI, 1920, .inl z0)), (q_6, .inl (cI, 120, .inl z0))] H := xP
  replace xD : va_D xA0 [(hT, .inr (1, [.ref q_1, .ref q_2, .ref q_3, .ref q_4, .ref q_5, .ref q_6, .int (iI 0), .int (iI 0), .int (iI 0)])), (q_1, .inl (cI, 120, .inl z0)), (q_2, .inl (cI, 120, .inl z0)), (q_3, .inl (cI, 4800, .inl z0)), (q_4, .inl (cI, 120, .inl z0)), (q_5, .inl (cI, 1920, .inl z0)), (q_6, .inl (cI, 120, .inl z0))] := xD
  refine lv_aload_n xe xb d_Terms_init_54 rfl (lv_at xl 0 rfl) ?_
  refine lv_iconst (v := iI (0)) xe xb d_Terms_init_55 rfl ?_
  refine va_put (D := D) (ci := 1) (v := .int (iI 0)) (ty := .int) (C := R_Terms) (T := F_Terms) (N := 9) xe xb xt i_Terms t_Terms t_Terms_ok n_Terms xo xK xP xD xS 0 rfl rfl 6 (by decide) (xt _ mw_Terms_30) (fun _ h9 => h9) rfl (by decide +kernel) rfl rfl (Nat.le_of_ble_eq_true rfl) d_Terms_init_56 ?_
  clear xP xD xS
  intro H locs xP xD xS
  replace xP : va_P D classes [(hT, .inr (1, [.ref q_1, .ref q_2, .ref q_3, .ref q_4, .ref q_5, .ref q_6, .int (iI 0), .int (iI 0), .int (iI 0)])), (q_1, .inl (cI, 120, .inl z0)), (q_2, .inl (cI, 120, .inl z0)), (q_3, .inl (cI, 4800, .inl z0)), (q_4, .inl (cI, 120, .inl z0)), (q_5, .inl (cI, 1920, .inl z0)), (q_6, .inl (cI, 120, .inl z0))] H := xP
  replace xD : va_D xA0 [(hT, .inr (1, [.ref q_1, .ref q_2, .ref q_3, .ref q_4, .ref q_5, .ref q_6, .int (iI 0), .int (iI 0), .int (iI 0)])), (q_1, .inl (cI, 120, .inl z0)), (q_2, .inl (cI, 120, .inl z0)), (q_3, .inl (cI, 4800, .inl z0)), (q_4, .inl (cI, 120, .inl z0)), (q_5, .inl (cI, 1920, .inl z0)), (q_6, .inl (cI, 120, .inl z0))] := xD
  refine lv_aload_n xe xb d_Terms_init_59 rfl (lv_at xl 0 rfl) ?_
  refine lv_iconst (v := iI (0)) xe xb d_Terms_init_60 rfl ?_
  refine va_put (D := D) (ci := 1) (v := .int (iI 0)) (ty := .int) (C := R_Terms) (T := F_Terms) (N := 9) xe xb xt i_Terms t_Terms t_Terms_ok n_Terms xo xK xP xD xS 0 rfl rfl 7 (by decide) (xt _ mw_Terms_34) (fun _ h9 => h9) rfl (by decide +kernel) rfl rfl (Nat.le_of_ble_eq_true rfl) d_Terms_init_61 ?_
  clear xP xD xS
  intro H locs xP xD xS
  replace xP : va_P D classes [(hT, .inr (1, [.ref q_1, .ref q_2, .ref q_3, .ref q_4, .ref q_5, .ref q_6, .int (iI 0), .int (iI 0), .int (iI 0)])), (q_1, .inl (cI, 120, .inl z0)), (q_2, .inl (cI, 120, .inl z0)), (q_3, .inl (cI, 4800, .inl z0)), (q_4, .inl (cI, 120, .inl z0)), (q_5, .inl (cI, 1920, .inl z0)), (q_6, .inl (cI, 120, .inl z0))] H := xP
  replace xD : va_D xA0 [(hT, .inr (1, [.ref q_1, .ref q_2, .ref q_3, .ref q_4, .ref q_5, .ref q_6, .int (iI 0), .int (iI 0), .int (iI 0)])), (q_1, .inl (cI, 120, .inl z0)), (q_2, .inl (cI, 120, .inl z0)), (q_3, .inl (cI, 4800, .inl z0)), (q_4, .inl (cI, 120, .inl z0)), (q_5, .inl (cI, 1920, .inl z0)), (q_6, .inl (cI, 120, .inl z0))] := xD
  refine lv_aload_n xe xb d_Terms_init_64 rfl (lv_at xl 0 rfl) ?_
  refine lv_iconst (v := iI (0)) xe xb d_Terms_init_65 rfl ?_
  refine va_put (D := D) (ci := 1) (v := .int (iI 0)) (ty := .boolean) (C := R_Terms) (T := F_Terms) (N := 9) xe xb xt i_Terms t_Terms t_Terms_ok n_Terms xo xK xP xD xS 0 rfl rfl 8 (by decide) (xt _ mw_Terms_37) (fun _ h9 => h9) rfl (by decide +kernel) (by decide) (by decide) (Nat.le_of_ble_eq_true rfl) d_Terms_init_66 ?_
  clear xP xD xS
  intro H locs xP xD xS
  replace xP : va_P D classes [(hT, .inr (1, [.ref q_1, .ref q_2, .ref q_3, .ref q_4, .ref q_5, .ref q_6, .int (iI 0), .int (iI 0), .int (iI 0)])), (q_1, .inl (cI, 120, .inl z0)), (q_2, .inl (cI, 120, .inl z0)), (q_3, .inl (cI, 4800, .inl z0)), (q_4, .inl (cI, 120, .inl z0)), (q_5, .inl (cI, 1920, .inl z0)), (q_6, .inl (cI, 120, .inl z0))] H := xP
  replace xD : va_D xA0 [(hT, .inr (1, [.ref q_1, .ref q_2, .ref q_3, .ref q_4, .ref q_5, .ref q_6, .int (iI 0), .int (iI 0), .int (iI 0)])), (q_1, .inl (cI, 120, .inl z0)), (q_2, .inl (cI, 120, .inl z0)), (q_3, .inl (cI, 4800, .inl z0)), (q_4, .inl (cI, 120, .inl z0)), (q_5, .inl (cI, 1920, .inl z0)), (q_6, .inl (cI, 120, .inl z0))] := xD
  exact xret _ _ _ _ (q_1, q_2, q_3, q_4, q_5, q_6) d_Terms_init_69 (by first | exact trivial | (dsimp only; exact trivial)) xP xD xS
set_option maxHeartbeats 4000000 in
set_option maxRecDepth 100000 in
theorem c_Quads_init (l : Launch) (D : va_G) (cI : ClassId) (hQ : Nat)  : CtN l D [(cI, .int)] y_Quads_init b_Quads_init 1 1 1 320 [.ref hQ] [(hQ, .inr (2, [.null, .int (iI 0), .int (iI 0)]))] (S := Nat) (fun u => True) (fun u => [(hQ, .inr (2, [.ref u, .int (iI 0), .int (iI 0)])), (u, .inl (cI, 320, .inl z0))]) := by
  refine CtN.walk (by decide) (Nat.le_of_ble_eq_true rfl) ?_
  intro xp xe0 xs xm xar xbelow xmeth xc xA0 xQ xe xb xml xo xnm xt xP xK xD xA xret ls xl xS
  have xl : lv_has ls 1 [(0, .ref hQ)] := xl
  have xo : xs.vm.findClass R_Quads = some xm.cls := xo
  refine lv_aload_n xe xb d_Quads_init_0 rfl (lv_at xl 0 rfl) ?_
  refine W.objInit xe xb xo (xt _ mw_Quads_3) (xt _ mw_oi) (xt _ mw_oc) rfl (xl.1.trans xml.symm) rfl d_Quads_init_1 (Nat.le_of_ble_eq_true rfl) (Nat.le_of_ble_eq_true rfl) ?_
  refine lv_aload_n xe xb d_Quads_init_4 rfl (lv_at xl 0 rfl) ?_
  refine lv_sipush (v := iI (320)) xe xb d_Quads_init_5 (by decide) ?_
  refine tk_newi xe xb (xt _ mw_ai) xK 0 rfl xP xD xS xA 320 (by decide) (by decide) (Nat.le_of_ble_eq_true rfl) (Nat.le_of_ble_eq_true rfl) d_Quads_init_8 ?_
  clear xP xD xS
  intro q_1 H xP xD xS
  replace xP : va_P D classes [(hQ, .inr (2, [.null, .int (iI 0), .int (iI 0)])), (q_1, .inl (cI, 320, .inl z0))] H := xP
  replace xD : va_D xA0 [(hQ, .inr (2, [.null, .int (iI 0), .int (iI 0)])), (q_1, .inl (cI, 320, .inl z0))] := xD
  refine va_putF (D := D) (ci := 2) (v := .ref q_1) (ty := (.array .int)) (C := R_Quads) (T := F_Quads) (N := 3) xe xb xt i_Quads t_Quads t_Quads_ok n_Quads xo xK xP xD xS 0 rfl rfl 0 (by decide) (xt _ mw_Quads_9) (fun _ h9 => h9) rfl xnm rfl (by decide +kernel) rfl rfl (Nat.le_of_ble_eq_true rfl) d_Quads_init_10 ?_
  clear xP xD xS
  intro H locs xP xD xS
  replace xP : va_P D classes [(hQ, .inr (2, [.ref q_1, .int (iI 0), .int (iI 0)])), (q_1, .inl (cI, 320, .inl z0))] H := xP
  replace xD : va_D xA0 [(hQ, .inr (2, [.ref q_1, .int (iI 0), .int (iI 0)])), (q_1, .inl (cI, 320, .inl z0))] := xD
  refine lv_aload_n xe xb d_Quads_init_13 rfl (lv_at xl 0 rfl) ?_
  refine lv_iconst (v := iI (0)) xe xb d_Quads_init_14 rfl ?_
  refine va_put (D := D) (ci := 2) (v := .int (iI 0)) (ty := .int) (C := R_Quads) (T := F_Quads) (N := 3) xe xb xt i_Quads t_Quads t_Quads_ok n_Quads xo xK xP xD xS 0 rfl rfl 1 (by decide) (xt _ mw_Quads_15) (fun _ h9 => h9) rfl (by decide +kernel) rfl rfl (Nat.le_of_ble_eq_true rfl) d_Quads_init_15 ?_
  clear xP xD xS
  intro H locs xP xD xS
  replace xP : va_P D classes [(hQ, .inr (2, [.ref q_1, .int (iI 0), .int (iI 0)])), (q_1, .inl (cI, 320, .inl z0))] H := xP
  replace xD : va_D xA0 [(hQ, .inr (2, [.ref q_1, .int (iI 0), .int (iI 0)])), (q_1, .inl (cI, 320, .inl z0))] := xD
  refine lv_aload_n xe xb d_Quads_init_18 rfl (lv_at xl 0 rfl) ?_
  refine lv_iconst (v := iI (0)) xe xb d_Quads_init_19 rfl ?_
  refine va_put (D := D) (ci := 2) (v := .int (iI 0)) (ty := .boolean) (C := R_Quads) (T := F_Quads) (N := 3) xe xb xt i_Quads t_Quads t_Quads_ok n_Quads xo xK xP xD xS 0 rfl rfl 2 (by decide) (xt _ mw_Quads_19) (fun _ h9 => h9) rfl (by decide +kernel) (by decide) (by decide) (Nat.le_of_ble_eq_true rfl) d_Quads_init_20 ?_
  clear xP xD xS
  intro H locs xP xD xS
  replace xP : va_P D classes [(hQ, .inr (2, [.ref q_1, .int (iI 0), .int (iI 0)])), (q_1, .inl (cI, 320, .inl z0))] H := xP
  replace xD : va_D xA0 [(hQ, .inr (2, [.ref q_1, .int (iI 0), .int (iI 0)])), (q_1, .inl (cI, 320, .inl z0))] := xD
  exact xret _ _ _ _ q_1 d_Quads_init_23 (by first | exact trivial | (dsimp only; exact trivial)) xP xD xS
