theorem d_Printer_addEscape_0 : decode b_Printer_addEscape 0 = .ok (.iload_n 1, 1) := by decide +kernel
theorem d_Printer_addEscape_1 : decode b_Printer_addEscape 1 = .ok (.ldc 117, 2) := by decide +kernel
theorem d_Printer_addEscape_3 : decode b_Printer_addEscape 3 = .ok (.if_icmp .gt 7, 3) := by decide +kernel
theorem d_Printer_addEscape_6 : decode b_Printer_addEscape 6 = .ok (.iconst 1, 1) := by decide +kernel
theorem d_Printer_addEscape_7 : decode b_Printer_addEscape 7 = .ok (.goto 4, 3) := by decide +kernel
theorem d_Printer_addEscape_10 : decode b_Printer_addEscape 10 = .ok (.iconst 0, 1) := by decide +kernel
theorem d_Printer_addEscape_11 : decode b_Printer_addEscape 11 = .ok (.istore_n 2, 1) := by decide +kernel
theorem d_Printer_addEscape_12 : decode b_Printer_addEscape 12 = .ok (.aload_n 0, 1) := by decide +kernel
theorem d_Printer_addEscape_13 : decode b_Printer_addEscape 13 = .ok (.getfield 24, 3) := by decide +kernel
theorem d_Printer_addEscape_16 : decode b_Printer_addEscape 16 = .ok (.bipush 92, 2) := by decide +kernel
theorem d_Printer_addEscape_18 : decode b_Printer_addEscape 18 = .ok (.invokevirtual 59, 3) := by decide +kernel
theorem d_Printer_addEscape_21 : decode b_Printer_addEscape 21 = .ok (.aload_n 0, 1) := by decide +kernel
theorem d_Printer_addEscape_22 : decode b_Printer_addEscape 22 = .ok (.getfield 24, 3) := by decide +kernel
theorem d_Printer_addEscape_25 : decode b_Printer_addEscape 25 = .ok (.iload_n 2, 1) := by decide +kernel
theorem d_Printer_addEscape_26 : decode b_Printer_addEscape 26 = .ok (.ifCond .eq 8, 3) := by decide +kernel
theorem d_Printer_addEscape_29 : decode b_Printer_addEscape 29 = .ok (.bipush 117, 2) := by decide +kernel
theorem d_Printer_addEscape_31 : decode b_Printer_addEscape 31 = .ok (.goto 5, 3) := by decide +kernel
theorem d_Printer_addEscape_34 : decode b_Printer_addEscape 34 = .ok (.bipush 85, 2) := by decide +kernel
theorem d_Printer_addEscape_36 : decode b_Printer_addEscape 36 = .ok (.invokevirtual 59, 3) := by decide +kernel
theorem d_Printer_addEscape_39 : decode b_Printer_addEscape 39 = .ok (.iload_n 2, 1) := by decide +kernel
theorem d_Printer_addEscape_40 : decode b_Printer_addEscape 40 = .ok (.ifCond .eq 8, 3) := by decide +kernel
theorem d_Printer_addEscape_43 : decode b_Printer_addEscape 43 = .ok (.bipush 12, 2) := by decide +kernel
theorem d_Printer_addEscape_45 : decode b_Printer_addEscape 45 = .ok (.goto 5, 3) := by decide +kernel
theorem d_Printer_addEscape_48 : decode b_Printer_addEscape 48 = .ok (.bipush 28, 2) := by decide +kernel
theorem d_Printer_addEscape_50 : decode b_Printer_addEscape 50 = .ok (.istore_n 3, 1) := by decide +kernel
theorem d_Printer_addEscape_51 : decode b_Printer_addEscape 51 = .ok (.iload_n 3, 1) := by decide +kernel
theorem d_Printer_addEscape_52 : decode b_Printer_addEscape 52 = .ok (.ifCond .lt 47, 3) := by decide +kernel
theorem d_Printer_addEscape_55 : decode b_Printer_addEscape 55 = .ok (.iload_n 1, 1) := by decide +kernel
theorem d_Printer_addEscape_56 : decode b_Printer_addEscape 56 = .ok (.iload_n 3, 1) := by decide +kernel
theorem d_Printer_addEscape_57 : decode b_Printer_addEscape 57 = .ok (.ishr, 1) := by decide +kernel
theorem d_Printer_addEscape_58 : decode b_Printer_addEscape 58 = .ok (.bipush 15, 2) := by decide +kernel
theorem d_Printer_addEscape_60 : decode b_Printer_addEscape 60 = .ok (.iand, 1) := by decide +kernel
theorem d_Printer_addEscape_61 : decode b_Printer_addEscape 61 = .ok (.istore 4, 2) := by decide +kernel
theorem d_Printer_addEscape_63 : decode b_Printer_addEscape 63 = .ok (.aload_n 0, 1) := by decide +kernel
theorem d_Printer_addEscape_64 : decode b_Printer_addEscape 64 = .ok (.getfield 24, 3) := by decide +kernel
theorem d_Printer_addEscape_67 : decode b_Printer_addEscape 67 = .ok (.iload 4, 2) := by decide +kernel
theorem d_Printer_addEscape_69 : decode b_Printer_addEscape 69 = .ok (.bipush 10, 2) := by decide +kernel
theorem d_Printer_addEscape_71 : decode b_Printer_addEscape 71 = .ok (.if_icmp .ge 11, 3) := by decide +kernel
theorem d_Printer_addEscape_74 : decode b_Printer_addEscape 74 = .ok (.bipush 48, 2) := by decide +kernel
theorem d_Printer_addEscape_76 : decode b_Printer_addEscape 76 = .ok (.iload 4, 2) := by decide +kernel
theorem d_Printer_addEscape_78 : decode b_Printer_addEscape 78 = .ok (.iadd, 1) := by decide +kernel
theorem d_Printer_addEscape_79 : decode b_Printer_addEscape 79 = .ok (.goto 11, 3) := by decide +kernel
theorem d_Printer_addEscape_82 : decode b_Printer_addEscape 82 = .ok (.bipush 65, 2) := by decide +kernel
theorem d_Printer_addEscape_84 : decode b_Printer_addEscape 84 = .ok (.iload 4, 2) := by decide +kernel
theorem d_Printer_addEscape_86 : decode b_Printer_addEscape 86 = .ok (.iadd, 1) := by decide +kernel
theorem d_Printer_addEscape_87 : decode b_Printer_addEscape 87 = .ok (.bipush 10, 2) := by decide +kernel
theorem d_Printer_addEscape_89 : decode b_Printer_addEscape 89 = .ok (.isub, 1) := by decide +kernel
theorem d_Printer_addEscape_90 : decode b_Printer_addEscape 90 = .ok (.invokevirtual 59, 3) := by decide +kernel
theorem d_Printer_addEscape_93 : decode b_Printer_addEscape 93 = .ok (.iinc 3 (-4), 3) := by decide +kernel
theorem d_Printer_addEscape_96 : decode b_Printer_addEscape 96 = .ok (.goto (-45), 3) := by decide +kernel
theorem d_Printer_addEscape_99 : decode b_Printer_addEscape 99 = .ok (.return_, 1) := by decide +kernel
theorem d_Printer_addLabel_0 : decode b_Printer_addLabel 0 = .ok (.aload_n 0, 1) := by decide +kernel
theorem d_Printer_addLabel_1 : decode b_Printer_addLabel 1 = .ok (.getfield 24, 3) := by decide +kernel
theorem d_Printer_addLabel_4 : decode b_Printer_addLabel 4 = .ok (.bipush 95, 2) := by decide +kernel
theorem d_Printer_addLabel_6 : decode b_Printer_addLabel 6 = .ok (.invokevirtual 59, 3) := by decide +kernel
theorem d_Printer_addLabel_9 : decode b_Printer_addLabel 9 = .ok (.aload_n 0, 1) := by decide +kernel
theorem d_Printer_addLabel_10 : decode b_Printer_addLabel 10 = .ok (.getfield 24, 3) := by decide +kernel
theorem d_Printer_addLabel_13 : decode b_Printer_addLabel 13 = .ok (.bipush 58, 2) := by decide +kernel
theorem d_Printer_addLabel_15 : decode b_Printer_addLabel 15 = .ok (.invokevirtual 59, 3) := by decide +kernel
theorem d_Printer_addLabel_18 : decode b_Printer_addLabel 18 = .ok (.aload_n 0, 1) := by decide +kernel
theorem d_Printer_addLabel_19 : decode b_Printer_addLabel 19 = .ok (.getfield 24, 3) := by decide +kernel
theorem d_Printer_addLabel_22 : decode b_Printer_addLabel 22 = .ok (.bipush 98, 2) := by decide +kernel
theorem d_Printer_addLabel_24 : decode b_Printer_addLabel 24 = .ok (.invokevirtual 59, 3) := by decide +kernel
theorem d_Printer_addLabel_27 : decode b_Printer_addLabel 27 = .ok (.iload_n 1, 1) := by decide +kernel
theorem d_Printer_addLabel_28 : decode b_Printer_addLabel 28 = .ok (.bipush 100, 2) := by decide +kernel
theorem d_Printer_addLabel_30 : decode b_Printer_addLabel 30 = .ok (.if_icmp .lt 17, 3) := by decide +kernel
theorem d_Printer_addLabel_33 : decode b_Printer_addLabel 33 = .ok (.aload_n 0, 1) := by decide +kernel
theorem d_Printer_addLabel_34 : decode b_Printer_addLabel 34 = .ok (.getfield 24, 3) := by decide +kernel
theorem d_Printer_addLabel_37 : decode b_Printer_addLabel 37 = .ok (.bipush 48, 2) := by decide +kernel
theorem d_Printer_addLabel_39 : decode b_Printer_addLabel 39 = .ok (.iload_n 1, 1) := by decide +kernel
theorem d_Printer_addLabel_40 : decode b_Printer_addLabel 40 = .ok (.bipush 100, 2) := by decide +kernel
theorem d_Printer_addLabel_42 : decode b_Printer_addLabel 42 = .ok (.idiv, 1) := by decide +kernel
theorem d_Printer_addLabel_43 : decode b_Printer_addLabel 43 = .ok (.iadd, 1) := by decide +kernel
theorem d_Printer_addLabel_44 : decode b_Printer_addLabel 44 = .ok (.invokevirtual 59, 3) := by decide +kernel
theorem d_Printer_addLabel_47 : decode b_Printer_addLabel 47 = .ok (.iload_n 1, 1) := by decide +kernel
theorem d_Printer_addLabel_48 : decode b_Printer_addLabel 48 = .ok (.bipush 10, 2) := by decide +kernel
theorem d_Printer_addLabel_50 : decode b_Printer_addLabel 50 = .ok (.if_icmp .lt 20, 3) := by decide +kernel
theorem d_Printer_addLabel_53 : decode b_Printer_addLabel 53 = .ok (.aload_n 0, 1) := by decide +kernel
theorem d_Printer_addLabel_54 : decode b_Printer_addLabel 54 = .ok (.getfield 24, 3) := by decide +kernel
theorem d_Printer_addLabel_57 : decode b_Printer_addLabel 57 = .ok (.bipush 48, 2) := by decide +kernel
theorem d_Printer_addLabel_59 : decode b_Printer_addLabel 59 = .ok (.iload_n 1, 1) := by decide +kernel
theorem d_Printer_addLabel_60 : decode b_Printer_addLabel 60 = .ok (.bipush 10, 2) := by decide +kernel
theorem d_Printer_addLabel_62 : decode b_Printer_addLabel 62 = .ok (.idiv, 1) := by decide +kernel
theorem d_Printer_addLabel_63 : decode b_Printer_addLabel 63 = .ok (.bipush 10, 2) := by decide +kernel
theorem d_Printer_addLabel_65 : decode b_Printer_addLabel 65 = .ok (.irem, 1) := by decide +kernel
theorem d_Printer_addLabel_66 : decode b_Printer_addLabel 66 = .ok (.iadd, 1) := by decide +kernel
theorem d_Printer_addLabel_67 : decode b_Printer_addLabel 67 = .ok (.invokevirtual 59, 3) := by decide +kernel
theorem d_Printer_addLabel_70 : decode b_Printer_addLabel 70 = .ok (.aload_n 0, 1) := by decide +kernel
theorem d_Printer_addLabel_71 : decode b_Printer_addLabel 71 = .ok (.getfield 24, 3) := by decide +kernel
theorem d_Printer_addLabel_74 : decode b_Printer_addLabel 74 = .ok (.bipush 48, 2) := by decide +kernel
theorem d_Printer_addLabel_76 : decode b_Printer_addLabel 76 = .ok (.iload_n 1, 1) := by decide +kernel
theorem d_Printer_addLabel_77 : decode b_Printer_addLabel 77 = .ok (.bipush 10, 2) := by decide +kernel
theorem d_Printer_addLabel_79 : decode b_Printer_addLabel 79 = .ok (.irem, 1) := by decide +kernel
theorem d_Printer_addLabel_80 : decode b_Printer_addLabel 80 = .ok (.iadd, 1) := by decide +kernel
theorem d_Printer_addLabel_81 : decode b_Printer_addLabel 81 = .ok (.invokevirtual 59, 3) := by decide +kernel
theorem d_Printer_addLabel_84 : decode b_Printer_addLabel 84 = .ok (.return_, 1) := by decide +kernel
set_option maxHeartbeats 4000000 in
set_option maxRecDepth 100000 in
theorem c_Row_addP (l : Launch) (D : va_G) (cI : ClassId) (h : Nat) (q : Nat) (n : Int) (f : Nat → Int32) (sp : Int) (x : Int) (hn : 0 ≤ n ∧ n ≤ 3000) (hx : -2147483648 ≤ x ∧ x < 2147483648) : CtV l D [(cI, .int)] y_Row_add b_Row_add 2 0 [.ref h, .int (iI x)] [(h, .inr (0, [.ref q, .int (iI n), .int (iI sp)])), (q, .inl (cI, 3000, .inl f))] (S := Int × (Nat → Int32) × Int) (fun u => Pw u.1 u.2.1 u.2.2 n f sp [x]) (fun u => [(h, .inr (0, [.ref q, .int (iI u.1), .int (iI u.2.2)])), (q, .inl (cI, 3000, .inl u.2.1))]) := by
  refine CtV.walk (by decide) (Nat.le_of_ble_eq_true rfl) ?_
  intro xp xe0 xs xm xar xbelow xmeth xc xA0 xQ xe xb xml xo xt xP xK xD xA xret ls xl xS
  have xl : lv_has ls 2 [(0, .ref h), (1, .int (iI x))] := xl
  have xo : xs.vm.findClass R_Row = some xm.cls := xo
  refine lv_aload_n xe xb d_Row_add_0 rfl (lv_at xl 0 rfl) ?_
  refine va_get (D := D) (ci := 0) (v := .int (iI n)) (C := R_Row) (T := F_Row) (N := 3) xe xb xt i_Row xo xK xP 0 rfl rfl 1 (by decide) (xt _ mw_Row_21) (fun _ h9 => h9) rfl d_Row_add_1 ?_
  refine tk_if_lt (tgt := 42) xe xb d_Row_add_4 (by decide) (by omega) (fun c_1 => ?_) (fun c_1 => ?_)
  · refine lv_aload_n xe xb d_Row_add_42 rfl (lv_at xl 0 rfl) ?_
    refine lv_iconst (v := iI (1)) xe xb d_Row_add_43 rfl ?_
    refine va_put (D := D) (ci := 0) (v := .int (iI 1)) (ty := .boolean) (C := R_Row) (T := F_Row) (N := 3) xe xb xt i_Row t_Row t_Row_ok n_Row xo xK xP xD xS 0 rfl rfl 2 (by decide) (xt _ mw_Row_25) (fun _ h9 => h9) rfl (by decide +kernel) (by decide) (by decide) (Nat.le_of_ble_eq_true rfl) d_Row_add_44 ?_
    clear xP xD xS
    intro H locs xP xD xS
    replace xP : va_P D classes [(h, .inr (0, [.ref q, .int (iI n), .int (iI 1)])), (q, .inl (cI, 3000, .inl f))] H := xP
    replace xD : va_D xA0 [(h, .inr (0, [.ref q, .int (iI n), .int (iI 1)])), (q, .inl (cI, 3000, .inl f))] := xD
    exact xret _ _ _ _ (n, f, 1) d_Row_add_47 (by first | exact (by first | exact Pw_one ⟨by omega, by omega⟩ hx | exact Pw_full (by omega) (by omega)) | (dsimp only; exact (by first | exact Pw_one ⟨by omega, by omega⟩ hx | exact Pw_full (by omega) (by omega)))) xP xD xS
  · refine lv_aload_n xe xb d_Row_add_7 rfl (lv_at xl 0 rfl) ?_
    refine va_get (D := D) (ci := 0) (v := .int (iI n)) (C := R_Row) (T := F_Row) (N := 3) xe xb xt i_Row xo xK xP 0 rfl rfl 1 (by decide) (xt _ mw_Row_21) (fun _ h9 => h9) rfl d_Row_add_8 ?_
    refine lv_aload_n xe xb d_Row_add_11 rfl (lv_at xl 0 rfl) ?_
    refine va_get (D := D) (ci := 0) (v := .ref q) (C := R_Row) (T := F_Row) (N := 3) xe xb xt i_Row xo xK xP 0 rfl rfl 0 (by decide) (xt _ mw_Row_15) (fun _ h9 => h9) rfl d_Row_add_12 ?_
    refine tk_alen xe xb xK xP 1 0 rfl rfl d_Row_add_15 ?_
    refine tk_icmp_ge (tgt := 42) xe xb d_Row_add_16 (by decide) (by omega) (fun c_2 => ?_) (fun c_2 => ?_)
    · refine lv_aload_n xe xb d_Row_add_42 rfl (lv_at xl 0 rfl) ?_
      refine lv_iconst (v := iI (1)) xe xb d_Row_add_43 rfl ?_
      refine va_put (D := D) (ci := 0) (v := .int (iI 1)) (ty := .boolean) (C := R_Row) (T := F_Row) (N := 3) xe xb xt i_Row t_Row t_Row_ok n_Row xo xK xP xD xS 0 rfl rfl 2 (by decide) (xt _ mw_Row_25) (fun _ h9 => h9) rfl (by decide +kernel) (by decide) (by decide) (Nat.le_of_ble_eq_true rfl) d_Row_add_44 ?_
      clear xP xD xS
      intro H locs xP xD xS
      replace xP : va_P D classes [(h, .inr (0, [.ref q, .int (iI n), .int (iI 1)])), (q, .inl (cI, 3000, .inl f))] H := xP
      replace xD : va_D xA0 [(h, .inr (0, [.ref q, .int (iI n), .int (iI 1)])), (q, .inl (cI, 3000, .inl f))] := xD
      exact xret _ _ _ _ (n, f, 1) d_Row_add_47 (by first | exact (by first | exact Pw_one ⟨by omega, by omega⟩ hx | exact Pw_full (by omega) (by omega)) | (dsimp only; exact (by first | exact Pw_one ⟨by omega, by omega⟩ hx | exact Pw_full (by omega) (by omega)))) xP xD xS
    · refine lv_aload_n xe xb d_Row_add_19 rfl (lv_at xl 0 rfl) ?_
      refine va_get (D := D) (ci := 0) (v := .ref q) (C := R_Row) (T := F_Row) (N := 3) xe xb xt i_Row xo xK xP 0 rfl rfl 0 (by decide) (xt _ mw_Row_15) (fun _ h9 => h9) rfl d_Row_add_20 ?_
      refine lv_aload_n xe xb d_Row_add_23 rfl (lv_at xl 0 rfl) ?_
      refine va_get (D := D) (ci := 0) (v := .int (iI n)) (C := R_Row) (T := F_Row) (N := 3) xe xb xt i_Row xo xK xP 0 rfl rfl 1 (by decide) (xt _ mw_Row_21) (fun _ h9 => h9) rfl d_Row_add_24 ?_
      refine lv_iload_n xe xb d_Row_add_27 rfl (lv_at xl 1 rfl) ?_
      refine tk_iast xe xb xK xP xD xS 1 0 rfl rfl (by omega) d_Row_add_28 ?_
      clear xP xD xS
      intro H locs xP xD xS
      replace xP : va_P D classes [(h, .inr (0, [.ref q, .int (iI n), .int (iI sp)])), (q, .inl (cI, 3000, .inl (fu f n x)))] H := xP
      replace xD : va_D xA0 [(h, .inr (0, [.ref q, .int (iI n), .int (iI sp)])), (q, .inl (cI, 3000, .inl (fu f n x)))] := xD
      refine lv_aload_n xe xb d_Row_add_29 rfl (lv_at xl 0 rfl) ?_
      refine lv_dup xe xb d_Row_add_30 rfl ?_
      refine va_get (D := D) (ci := 0) (v := .int (iI n)) (C := R_Row) (T := F_Row) (N := 3) xe xb xt i_Row xo xK xP 0 rfl rfl 1 (by decide) (xt _ mw_Row_21) (fun _ h9 => h9) rfl d_Row_add_31 ?_
      refine lv_iconst (v := iI (1)) xe xb d_Row_add_34 rfl ?_
      refine tk_iadd xe xb d_Row_add_35 ?_
      refine va_put (D := D) (ci := 0) (v := .int (iI (n + 1))) (ty := .int) (C := R_Row) (T := F_Row) (N := 3) xe xb xt i_Row t_Row t_Row_ok n_Row xo xK xP xD xS 0 rfl rfl 1 (by decide) (xt _ mw_Row_21) (fun _ h9 => h9) rfl (by decide +kernel) rfl rfl (Nat.le_of_ble_eq_true rfl) d_Row_add_36 ?_
      clear xP xD xS
      intro H locs xP xD xS
      replace xP : va_P D classes [(h, .inr (0, [.ref q, .int (iI (n + 1)), .int (iI sp)])), (q, .inl (cI, 3000, .inl (fu f n x)))] H := xP
      replace xD : va_D xA0 [(h, .inr (0, [.ref q, .int (iI (n + 1)), .int (iI sp)])), (q, .inl (cI, 3000, .inl (fu f n x)))] := xD
      refine lv_goto (tgt := 47) xe xb d_Row_add_39 (by decide) ?_
      exact xret _ _ _ _ ((n + 1), (fu f n x), sp) d_Row_add_47 (by first | exact (by first | exact Pw_one ⟨by omega, by omega⟩ hx | exact Pw_full (by omega) (by omega)) | (dsimp only; exact (by first | exact Pw_one ⟨by omega, by omega⟩ hx | exact Pw_full (by omega) (by omega)))) xP xD xS
set_option maxHeartbeats 4000000 in
set_option maxRecDepth 100000 in
theorem c_Printer_addEscape (l : Launch) (D : va_G) (cI : ClassId) (hpr : Nat) (hT : Nat) (hQ : Nat) (hpd : Nat) (qst : Nat) (qor : Nat) (pz : Int) (qpd : Nat) (n : Int) (f : Nat → Int32) (sp : Int) (c : Int) (hn : 0 ≤ n ∧ n ≤ 3000) (hc0 : -2147483648 ≤ c ∧ c < 2147483648) : CtV l D [(cI, .int)] y_Printer_addEscape b_Printer_addEscape 5 1 [.ref hpr, .int (iI c)] [(hpr, .inr (4, [.ref hT, .ref hQ, .ref hpd, .ref qst, .ref qor, .int (iI pz)])), (hpd, .inr (0, [.ref qpd, .int (iI n), .int (iI sp)])), (qpd, .inl (cI, 3000, .inl f))] (S := Int × (Nat → Int32) × Int) (fun u => Pw u.1 u.2.1 u.2.2 n f sp (esc c)) (fun u => [(hpr, .inr (4, [.ref hT, .ref hQ, .ref hpd, .ref qst, .ref qor, .int (iI pz)])), (hpd, .inr (0, [.ref qpd, .int (iI u.1), .int (iI u.2.2)])), (qpd, .inl (cI, 3000, .inl u.2.1))]) := by
  refine CtV.walk (by decide) (Nat.le_of_ble_eq_true rfl) ?_
  intro xp xe0 xs xm xar xbelow xmeth xc xA0 xQ xe xb xml xo xt xP xK xD xA xret ls xl xS
  have xl : lv_has ls 5 [(0, .ref hpr), (1, .int (iI c))] := xl
  have xo : xs.vm.findClass R_Printer = some xm.cls := xo
  have HC := Pw_nil (s := sp) (f := f) hn
  refine lv_iload_n xe xb d_Printer_addEscape_0 rfl (lv_at xl 1 rfl) ?_
  refine lv_ldc xe xb xo (xt _ mw_Printer_117) d_Printer_addEscape_1 ?_
  refine tk_top (y := iI (65535)) (by decide) ?_
  refine tk_icmp_gt (tgt := 10) xe xb d_Printer_addEscape_3 (by decide) (by omega) (fun C3 => ?_) (fun C3 => ?_)
  · refine lv_iconst (v := iI (0)) xe xb d_Printer_addEscape_10 rfl ?_
    refine lv_istore_n (lv' := [(2, .int (iI 0)), (0, .ref hpr), (1, .int (iI c))]) xe xb d_Printer_addEscape_11 rfl xl (by decide) rfl ?_
    clear xl
    intro ls xl
    refine lv_aload_n xe xb d_Printer_addEscape_12 rfl (lv_at xl 1 rfl) ?_
    refine va_get (D := D) (ci := 4) (v := .ref hpd) (C := R_Printer) (T := F_Printer) (N := 6) xe xb xt i_Printer xo xK xP 0 rfl rfl 2 (by decide) (xt _ mw_Printer_24) (fun _ h9 => h9) rfl d_Printer_addEscape_13 ?_
    refine lv_bipush (v := iI (92)) xe xb d_Printer_addEscape_16 (by decide) ?_
    refine tk_callVv (As := [.int (iI 92)]) (rest := []) (wr := [(hpr, .inr (4, [.ref hT, .ref hQ, .ref hpd, .ref qst, .ref qor, .int (iI pz)]))]) (wn := fun u => [(hpr, .inr (4, [.ref hT, .ref hQ, .ref hpd, .ref qst, .ref qor, .int (iI pz)])), (hpd, .inr (0, [.ref qpd, .int (iI u.1), .int (iI u.2.2)])), (qpd, .inl (cI, 3000, .inl u.2.1))]) ⟨xe, xb, xml, xo, xt⟩ (c_Row_addP l D cI hpd qpd n f sp 92 (by first | assumption | omega) (by first | assumption | omega)) k_Row_add mw_Printer_59 ⟨Nat.le_of_ble_eq_true rfl, Nat.le_of_ble_eq_true rfl⟩ xK xP xD xS xA rfl xl.1 rfl (Nat.le_of_ble_eq_true rfl) d_Printer_addEscape_18 ⟨Nat.zero_le _, Nat.zero_le _⟩ [1, 2] [0] [0, 1, 2] rfl rfl (by decide) (by decide) (by decide) (by decide) (fun _ => rfl) rfl rfl rfl ?_
    clear xP xD xS
    intro u H locs hw_4 xP xD xS
    obtain ⟨n2_1, f2_2, sp2_3⟩ := u
    try dsimp only at hw_4
    replace xP : va_P D classes [(hpr, .inr (4, [.ref hT, .ref hQ, .ref hpd, .ref qst, .ref qor, .int (iI pz)])), (hpd, .inr (0, [.ref qpd, .int (iI n2_1), .int (iI sp2_3)])), (qpd, .inl (cI, 3000, .inl f2_2))] H := xP
    replace xD : va_D xA0 [(hpr, .inr (4, [.ref hT, .ref hQ, .ref hpd, .ref qst, .ref qor, .int (iI pz)])), (hpd, .inr (0, [.ref qpd, .int (iI n2_1), .int (iI sp2_3)])), (qpd, .inl (cI, 3000, .inl f2_2))] := xD
    replace HC := Pw_trans hn.1 HC hw_4
    have hgr := Pw_rg HC
    clear hw_4
    refine lv_aload_n xe xb d_Printer_addEscape_21 rfl (lv_at xl 1 rfl) ?_
    refine va_get (D := D) (ci := 4) (v := .ref hpd) (C := R_Printer) (T := F_Printer) (N := 6) xe xb xt i_Printer xo xK xP 0 rfl rfl 2 (by decide) (xt _ mw_Printer_24) (fun _ h9 => h9) rfl d_Printer_addEscape_22 ?_
    refine lv_iload_n xe xb d_Printer_addEscape_25 rfl (lv_at xl 0 rfl) ?_
    refine tk_if_eq (tgt := 34) xe xb d_Printer_addEscape_26 (by decide) (by omega) (fun c_6 => ?_) (fun c_6 => absurd c_6 (by omega))
    refine lv_bipush (v := iI (85)) xe xb d_Printer_addEscape_34 (by decide) ?_
    refine tk_callVv (As := [.int (iI 85)]) (rest := []) (wr := [(hpr, .inr (4, [.ref hT, .ref hQ, .ref hpd, .ref qst, .ref qor, .int (iI pz)]))]) (wn := fun u => [(hpr, .inr (4, [.ref hT, .ref hQ, .ref hpd, .ref qst, .ref qor, .int (iI pz)])), (hpd, .inr (0, [.ref qpd, .int (iI u.1), .int (iI u.2.2)])), (qpd, .inl (cI, 3000, .inl u.2.1))]) ⟨xe, xb, xml, xo, xt⟩ (c_Row_addP l D cI hpd qpd n2_1 f2_2 sp2_3 85 (by first | assumption | omega) (by first | assumption | omega)) k_Row_add mw_Printer_59 ⟨Nat.le_of_ble_eq_true rfl, Nat.le_of_ble_eq_true rfl⟩ xK xP xD xS xA rfl xl.1 rfl (Nat.le_of_ble_eq_true rfl) d_Printer_addEscape_36 ⟨Nat.zero_le _, Nat.zero_le _⟩ [1, 2] [0] [0, 1, 2] rfl rfl (by decide) (by decide) (by decide) (by decide) (fun _ => rfl) rfl rfl rfl ?_
    clear xP xD xS
    intro u H locs hw_10 xP xD xS
    obtain ⟨n2_7, f2_8, sp2_9⟩ := u
    try dsimp only at hw_10
    replace xP : va_P D classes [(hpr, .inr (4, [.ref hT, .ref hQ, .ref hpd, .ref qst, .ref qor, .int (iI pz)])), (hpd, .inr (0, [.ref qpd, .int (iI n2_7), .int (iI sp2_9)])), (qpd, .inl (cI, 3000, .inl f2_8))] H := xP
    replace xD : va_D xA0 [(hpr, .inr (4, [.ref hT, .ref hQ, .ref hpd, .ref qst, .ref qor, .int (iI pz)])), (hpd, .inr (0, [.ref qpd, .int (iI n2_7), .int (iI sp2_9)])), (qpd, .inl (cI, 3000, .inl f2_8))] := xD
    replace HC := Pw_trans hn.1 HC hw_10
    have hgr := Pw_rg HC
    clear hw_10
    refine lv_iload_n xe xb d_Printer_addEscape_39 rfl (lv_at xl 0 rfl) ?_
    refine tk_if_eq (tgt := 48) xe xb d_Printer_addEscape_40 (by decide) (by omega) (fun c_12 => ?_) (fun c_12 => absurd c_12 (by omega))
    refine lv_bipush (v := iI (28)) xe xb d_Printer_addEscape_48 (by decide) ?_
    refine lv_istore_n (lv' := [(3, .int (iI 28)), (2, .int (iI 0)), (0, .ref hpr), (1, .int (iI c))]) xe xb d_Printer_addEscape_50 rfl xl (by decide) rfl ?_
    clear xl
    intro ls xl
    have loop_51 : ∀ (n9 : Nat) (kk : Nat) (X0 : List Int) (s : Int) (nv : Int) (fv : Nat → Int32) (sv : Int), kk < n9 → (s = 4 * (kk : Int) - 4 ∧ kk ≤ 8) → (Pw nv fv sv n f sp X0) → (X0 ++ ex c kk = esc c) → ∀ (H : Heap) (locs : List Loc), va_P D classes [(hpr, .inr (4, [.ref hT, .ref hQ, .ref hpd, .ref qst, .ref qor, .int (iI pz)])), (hpd, .inr (0, [.ref qpd, .int (iI nv), .int (iI sv)])), (qpd, .inl (cI, 3000, .inl fv))] H → va_D xA0 [(hpr, .inr (4, [.ref hT, .ref hQ, .ref hpd, .ref qst, .ref qor, .int (iI pz)])), (hpd, .inr (0, [.ref qpd, .int (iI nv), .int (iI sv)])), (qpd, .inl (cI, 3000, .inl fv))] → va_S xA0 xs.heap H locs → ∀ ls : Array Slot, lv_has ls 5 [(0, .ref hpr), (1, .int (iI c)), (3, .int (iI s))] → W xp l xe0 (tk_rm 1) xs xm xar xbelow xmeth xc H locs 0 0 xQ (F0 xm 51 ls []) := by
      intro n9
      induction n9 with
      | zero => intro kk X0 s nv fv sv h9; exact absurd h9 (Nat.not_lt_zero _)
      | succ n9 ih9 =>
        intro kk X0 s nv fv sv hm9 hk hP hX H locs xP xD xS ls xl
        have ih_51 := ih9
        have hm_51 := hm9
        have HC := hP
        have hgr := Pw_rg HC
        refine lv_iload_n xe xb d_Printer_addEscape_51 rfl (lv_at xl 2 rfl) ?_
        refine tk_if_lt (tgt := 99) xe xb d_Printer_addEscape_52 (by decide) (by omega) (fun C52 => ?_) (fun C52 => ?_)
        · exact xret _ _ _ _ (nv, fv, sv) d_Printer_addEscape_99 (by first | exact (Pw_cast HC (ex_end hk.1 C52 hX)) | (dsimp only; exact (Pw_cast HC (ex_end hk.1 C52 hX)))) xP xD xS
        · refine lv_iload_n xe xb d_Printer_addEscape_55 rfl (lv_at xl 1 rfl) ?_
          refine lv_iload_n xe xb d_Printer_addEscape_56 rfl (lv_at xl 2 rfl) ?_
          refine tk_ishr xe xb d_Printer_addEscape_57 ?_
          refine lv_bipush (v := iI (15)) xe xb d_Printer_addEscape_58 (by decide) ?_
          refine tk_iand xe xb d_Printer_addEscape_60 ?_
          have hd := anI_15 (shI c s)
          refine lv_istore (lv' := [(4, .int (iI (anI (shI c s) 15))), (0, .ref hpr), (1, .int (iI c)), (3, .int (iI s))]) xe xb d_Printer_addEscape_61 xl (by decide) rfl ?_
          clear xl
          intro ls xl
          refine lv_aload_n xe xb d_Printer_addEscape_63 rfl (lv_at xl 1 rfl) ?_
          refine va_get (D := D) (ci := 4) (v := .ref hpd) (C := R_Printer) (T := F_Printer) (N := 6) xe xb xt i_Printer xo xK xP 0 rfl rfl 2 (by decide) (xt _ mw_Printer_24) (fun _ h9 => h9) rfl d_Printer_addEscape_64 ?_
          refine lv_iload xe xb d_Printer_addEscape_67 (lv_at xl 0 rfl) ?_
          refine lv_bipush (v := iI (10)) xe xb d_Printer_addEscape_69 (by decide) ?_
          refine tk_icmp_ge (tgt := 82) xe xb d_Printer_addEscape_71 (by decide) (by omega) (fun C71 => ?_) (fun C71 => ?_)
          · refine lv_bipush (v := iI (65)) xe xb d_Printer_addEscape_82 (by decide) ?_
            refine lv_iload xe xb d_Printer_addEscape_84 (lv_at xl 0 rfl) ?_
            refine tk_iadd xe xb d_Printer_addEscape_86 ?_
            refine lv_bipush (v := iI (10)) xe xb d_Printer_addEscape_87 (by decide) ?_
            refine tk_isub xe xb d_Printer_addEscape_89 ?_
            refine tk_callVv (As := [.int (iI ((65 + (anI (shI c s) 15)) - 10))]) (rest := []) (wr := [(hpr, .inr (4, [.ref hT, .ref hQ, .ref hpd, .ref qst, .ref qor, .int (iI pz)]))]) (wn := fun u => [(hpr, .inr (4, [.ref hT, .ref hQ, .ref hpd, .ref qst, .ref qor, .int (iI pz)])), (hpd, .inr (0, [.ref qpd, .int (iI u.1), .int (iI u.2.2)])), (qpd, .inl (cI, 3000, .inl u.2.1))]) ⟨xe, xb, xml, xo, xt⟩ (c_Row_addP l D cI hpd qpd nv fv sv ((65 + (anI (shI c s) 15)) - 10) (by first | assumption | omega) (by first | assumption | omega)) k_Row_add mw_Printer_59 ⟨Nat.le_of_ble_eq_true rfl, Nat.le_of_ble_eq_true rfl⟩ xK xP xD xS xA rfl xl.1 rfl (Nat.le_of_ble_eq_true rfl) d_Printer_addEscape_90 ⟨Nat.zero_le _, Nat.zero_le _⟩ [1, 2] [0] [0, 1, 2] rfl rfl (by decide) (by decide) (by decide) (by decide) (fun _ => rfl) rfl rfl rfl ?_
            clear xP xD xS
            intro u H locs hw_16 xP xD xS
            obtain ⟨n2_13, f2_14, sp2_15⟩ := u
            try dsimp only at hw_16
            replace xP : va_P D classes [(hpr, .inr (4, [.ref hT, .ref hQ, .ref hpd, .ref qst, .ref qor, .int (iI pz)])), (hpd, .inr (0, [.ref qpd, .int (iI n2_13), .int (iI sp2_15)])), (qpd, .inl (cI, 3000, .inl f2_14))] H := xP
            replace xD : va_D xA0 [(hpr, .inr (4, [.ref hT, .ref hQ, .ref hpd, .ref qst, .ref qor, .int (iI pz)])), (hpd, .inr (0, [.ref qpd, .int (iI n2_13), .int (iI sp2_15)])), (qpd, .inl (cI, 3000, .inl f2_14))] := xD
            replace HC := Pw_trans hn.1 HC hw_16
            have hgr := Pw_rg HC
            clear hw_16
            refine tk_iinc (v := (s + (-4))) (lv' := [(3, .int (iI (s + (-4)))), (4, .int (iI (anI (shI c s) 15))), (0, .ref hpr), (1, .int (iI c))]) xe xb d_Printer_addEscape_93 xl (k := 3) rfl rfl (by decide) rfl ?_
            clear xl
            intro ls xl
            refine lv_goto (tgt := 51) xe xb d_Printer_addEscape_96 (by decide) ?_
            exact ih_51 (kk - 1) (X0 ++ [hc (hx c s)]) (s + (-4)) n2_13 f2_14 sp2_15 (by omega) (by omega) (Pw_cast HC (congrArg (fun y => X0 ++ [y]) (if_neg (Int.not_lt.mpr C71) : hc (hx c s) = _).symm)) (ex_app hk.1 C52 hX) _ _ xP xD xS ls (lv_sub xl [2, 3, 0] rfl)
          · refine lv_bipush (v := iI (48)) xe xb d_Printer_addEscape_74 (by decide) ?_
            refine lv_iload xe xb d_Printer_addEscape_76 (lv_at xl 0 rfl) ?_
            refine tk_iadd xe xb d_Printer_addEscape_78 ?_
            refine lv_goto (tgt := 90) xe xb d_Printer_addEscape_79 (by decide) ?_
            refine tk_callVv (As := [.int (iI (48 + (anI (shI c s) 15)))]) (rest := []) (wr := [(hpr, .inr (4, [.ref hT, .ref hQ, .ref hpd, .ref qst, .ref qor, .int (iI pz)]))]) (wn := fun u => [(hpr, .inr (4, [.ref hT, .ref hQ, .ref hpd, .ref qst, .ref qor, .int (iI pz)])), (hpd, .inr (0, [.ref qpd, .int (iI u.1), .int (iI u.2.2)])), (qpd, .inl (cI, 3000, .inl u.2.1))]) ⟨xe, xb, xml, xo, xt⟩ (c_Row_addP l D cI hpd qpd nv fv sv (48 + (anI (shI c s) 15)) (by first | assumption | omega) (by first | assumption | omega)) k_Row_add mw_Printer_59 ⟨Nat.le_of_ble_eq_true rfl, Nat.le_of_ble_eq_true rfl⟩ xK xP xD xS xA rfl xl.1 rfl (Nat.le_of_ble_eq_true rfl) d_Printer_addEscape_90 ⟨Nat.zero_le _, Nat.zero_le _⟩ [1, 2] [0] [0, 1, 2] rfl rfl (by decide) (by decide) (by decide) (by decide) (fun _ => rfl) rfl rfl rfl ?_
            clear xP xD xS
            intro u H locs hw_21 xP xD xS
            obtain ⟨n2_18, f2_19, sp2_20⟩ := u
            try dsimp only at hw_21
            replace xP : va_P D classes [(hpr, .inr (4, [.ref hT, .ref hQ, .ref hpd, .ref qst, .ref qor, .int (iI pz)])), (hpd, .inr (0, [.ref qpd, .int (iI n2_18), .int (iI sp2_20)])), (qpd, .inl (cI, 3000, .inl f2_19))] H := xP
            replace xD : va_D xA0 [(hpr, .inr (4, [.ref hT, .ref hQ, .ref hpd, .ref qst, .ref qor, .int (iI pz)])), (hpd, .inr (0, [.ref qpd, .int (iI n2_18), .int (iI sp2_20)])), (qpd, .inl (cI, 3000, .inl f2_19))] := xD
            replace HC := Pw_trans hn.1 HC hw_21
            have hgr := Pw_rg HC
            clear hw_21
            refine tk_iinc (v := (s + (-4))) (lv' := [(3, .int (iI (s + (-4)))), (4, .int (iI (anI (shI c s) 15))), (0, .ref hpr), (1, .int (iI c))]) xe xb d_Printer_addEscape_93 xl (k := 3) rfl rfl (by decide) rfl ?_
            clear xl
            intro ls xl
            refine lv_goto (tgt := 51) xe xb d_Printer_addEscape_96 (by decide) ?_
            exact ih_51 (kk - 1) (X0 ++ [hc (hx c s)]) (s + (-4)) n2_18 f2_19 sp2_20 (by omega) (by omega) (Pw_cast HC (congrArg (fun y => X0 ++ [y]) (if_pos C71 : hc (hx c s) = _).symm)) (ex_app hk.1 C52 hX) _ _ xP xD xS ls (lv_sub xl [2, 3, 0] rfl)
    exact loop_51 _ 8 ([92, 85]) 28 n2_7 f2_8 sp2_9 (Nat.lt_succ_self _) (by first | assumption | omega) HC (if_neg (by omega)).symm _ _ xP xD xS ls (lv_sub xl [2, 3, 0] rfl)
  · refine lv_iconst (v := iI (1)) xe xb d_Printer_addEscape_6 rfl ?_
    refine lv_goto (tgt := 11) xe xb d_Printer_addEscape_7 (by decide) ?_
    refine lv_istore_n (lv' := [(2, .int (iI 1)), (0, .ref hpr), (1, .int (iI c))]) xe xb d_Printer_addEscape_11 rfl xl (by decide) rfl ?_
    clear xl
    intro ls xl
    refine lv_aload_n xe xb d_Printer_addEscape_12 rfl (lv_at xl 1 rfl) ?_
    refine va_get (D := D) (ci := 4) (v := .ref hpd) (C := R_Printer) (T := F_Printer) (N := 6) xe xb xt i_Printer xo xK xP 0 rfl rfl 2 (by decide) (xt _ mw_Printer_24) (fun _ h9 => h9) rfl d_Printer_addEscape_13 ?_
    refine lv_bipush (v := iI (92)) xe xb d_Printer_addEscape_16 (by decide) ?_
    refine tk_callVv (As := [.int (iI 92)]) (rest := []) (wr := [(hpr, .inr (4, [.ref hT, .ref hQ, .ref hpd, .ref qst, .ref qor, .int (iI pz)]))]) (wn := fun u => [(hpr, .inr (4, [.ref hT, .ref hQ, .ref hpd, .ref qst, .ref qor, .int (iI pz)])), (hpd, .inr (0, [.ref qpd, .int (iI u.1), .int (iI u.2.2)])), (qpd, .inl (cI, 3000, .inl u.2.1))]) ⟨xe, xb, xml, xo, xt⟩ (c_Row_addP l D cI hpd qpd n f sp 92 (by first | assumption | omega) (by first | assumption | omega)) k_Row_add mw_Printer_59 ⟨Nat.le_of_ble_eq_true rfl, Nat.le_of_ble_eq_true rfl⟩ xK xP xD xS xA rfl xl.1 rfl (Nat.le_of_ble_eq_true rfl) d_Printer_addEscape_18 ⟨Nat.zero_le _, Nat.zero_le _⟩ [1, 2] [0] [0, 1, 2] rfl rfl (by decide) (by decide) (by decide) (by decide) (fun _ => rfl) rfl rfl rfl ?_
    clear xP xD xS
    intro u H locs hw_26 xP xD xS
    obtain ⟨n2_23, f2_24, sp2_25⟩ := u
    try dsimp only at hw_26
    replace xP : va_P D classes [(hpr, .inr (4, [.ref hT, .ref hQ, .ref hpd, .ref qst, .ref qor, .int (iI pz)])), (hpd, .inr (0, [.ref qpd, .int (iI n2_23), .int (iI sp2_25)])), (qpd, .inl (cI, 3000, .inl f2_24))] H := xP
    replace xD : va_D xA0 [(hpr, .inr (4, [.ref hT, .ref hQ, .ref hpd, .ref qst, .ref qor, .int (iI pz)])), (hpd, .inr (0, [.ref qpd, .int (iI n2_23), .int (iI sp2_25)])), (qpd, .inl (cI, 3000, .inl f2_24))] := xD
    replace HC := Pw_trans hn.1 HC hw_26
    have hgr := Pw_rg HC
    clear hw_26
    refine lv_aload_n xe xb d_Printer_addEscape_21 rfl (lv_at xl 1 rfl) ?_
    refine va_get (D := D) (ci := 4) (v := .ref hpd) (C := R_Printer) (T := F_Printer) (N := 6) xe xb xt i_Printer xo xK xP 0 rfl rfl 2 (by decide) (xt _ mw_Printer_24) (fun _ h9 => h9) rfl d_Printer_addEscape_22 ?_
    refine lv_iload_n xe xb d_Printer_addEscape_25 rfl (lv_at xl 0 rfl) ?_
    refine tk_if_eq (tgt := 34) xe xb d_Printer_addEscape_26 (by decide) (by omega) (fun c_28 => absurd c_28 (by omega)) (fun c_28 => ?_)
    refine lv_bipush (v := iI (117)) xe xb d_Printer_addEscape_29 (by decide) ?_
    refine lv_goto (tgt := 36) xe xb d_Printer_addEscape_31 (by decide) ?_
    refine tk_callVv (As := [.int (iI 117)]) (rest := []) (wr := [(hpr, .inr (4, [.ref hT, .ref hQ, .ref hpd, .ref qst, .ref qor, .int (iI pz)]))]) (wn := fun u => [(hpr, .inr (4, [.ref hT, .ref hQ, .ref hpd, .ref qst, .ref qor, .int (iI pz)])), (hpd, .inr (0, [.ref qpd, .int (iI u.1), .int (iI u.2.2)])), (qpd, .inl (cI, 3000, .inl u.2.1))]) ⟨xe, xb, xml, xo, xt⟩ (c_Row_addP l D cI hpd qpd n2_23 f2_24 sp2_25 117 (by first | assumption | omega) (by first | assumption | omega)) k_Row_add mw_Printer_59 ⟨Nat.le_of_ble_eq_true rfl, Nat.le_of_ble_eq_true rfl⟩ xK xP xD xS xA rfl xl.1 rfl (Nat.le_of_ble_eq_true rfl) d_Printer_addEscape_36 ⟨Nat.zero_le _, Nat.zero_le _⟩ [1, 2] [0] [0, 1, 2] rfl rfl (by decide) (by decide) (by decide) (by decide) (fun _ => rfl) rfl rfl rfl ?_
    clear xP xD xS
    intro u H locs hw_32 xP xD xS
    obtain ⟨n2_29, f2_30, sp2_31⟩ := u
    try dsimp only at hw_32
    replace xP : va_P D classes [(hpr, .inr (4, [.ref hT, .ref hQ, .ref hpd, .ref qst, .ref qor, .int (iI pz)])), (hpd, .inr (0, [.ref qpd, .int (iI n2_29), .int (iI sp2_31)])), (qpd, .inl (cI, 3000, .inl f2_30))] H := xP
    replace xD : va_D xA0 [(hpr, .inr (4, [.ref hT, .ref hQ, .ref hpd, .ref qst, .ref qor, .int (iI pz)])), (hpd, .inr (0, [.ref qpd, .int (iI n2_29), .int (iI sp2_31)])), (qpd, .inl (cI, 3000, .inl f2_30))] := xD
    replace HC := Pw_trans hn.1 HC hw_32
    have hgr := Pw_rg HC
    clear hw_32
    refine lv_iload_n xe xb d_Printer_addEscape_39 rfl (lv_at xl 0 rfl) ?_
    refine tk_if_eq (tgt := 48) xe xb d_Printer_addEscape_40 (by decide) (by omega) (fun c_34 => absurd c_34 (by omega)) (fun c_34 => ?_)
    refine lv_bipush (v := iI (12)) xe xb d_Printer_addEscape_43 (by decide) ?_
    refine lv_goto (tgt := 50) xe xb d_Printer_addEscape_45 (by decide) ?_
    refine lv_istore_n (lv' := [(3, .int (iI 12)), (2, .int (iI 1)), (0, .ref hpr), (1, .int (iI c))]) xe xb d_Printer_addEscape_50 rfl xl (by decide) rfl ?_
    clear xl
    intro ls xl
    have loop_51 : ∀ (n9 : Nat) (kk : Nat) (X0 : List Int) (s : Int) (nv : Int) (fv : Nat → Int32) (sv : Int), kk < n9 → (s = 4 * (kk : Int) - 4 ∧ kk ≤ 8) → (Pw nv fv sv n f sp X0) → (X0 ++ ex c kk = esc c) → ∀ (H : Heap) (locs : List Loc), va_P D classes [(hpr, .inr (4, [.ref hT, .ref hQ, .ref hpd, .ref qst, .ref qor, .int (iI pz)])), (hpd, .inr (0, [.ref qpd, .int (iI nv), .int (iI sv)])), (qpd, .inl (cI, 3000, .inl fv))] H → va_D xA0 [(hpr, .inr (4, [.ref hT, .ref hQ, .ref hpd, .ref qst, .ref qor, .int (iI pz)])), (hpd, .inr (0, [.ref qpd, .int (iI nv), .int (iI sv)])), (qpd, .inl (cI, 3000, .inl fv))] → va_S xA0 xs.heap H locs → ∀ ls : Array Slot, lv_has ls 5 [(0, .ref hpr), (1, .int (iI c)), (3, .int (iI s))] → W xp l xe0 (tk_rm 1) xs xm xar xbelow xmeth xc H locs 0 0 xQ (F0 xm 51 ls []) := by
      intro n9
      induction n9 with
      | zero => intro kk X0 s nv fv sv h9; exact absurd h9 (Nat.not_lt_zero _)
      | succ n9 ih9 =>
        intro kk X0 s nv fv sv hm9 hk hP hX H locs xP xD xS ls xl
        have ih_51 := ih9
        have hm_51 := hm9
        have HC := hP
        have hgr := Pw_rg HC
        refine lv_iload_n xe xb d_Printer_addEscape_51 rfl (lv_at xl 2 rfl) ?_
        refine tk_if_lt (tgt := 99) xe xb d_Printer_addEscape_52 (by decide) (by omega) (fun C52 => ?_) (fun C52 => ?_)
        · exact xret _ _ _ _ (nv, fv, sv) d_Printer_addEscape_99 (by first | exact (Pw_cast HC (ex_end hk.1 C52 hX)) | (dsimp only; exact (Pw_cast HC (ex_end hk.1 C52 hX)))) xP xD xS
        · refine lv_iload_n xe xb d_Printer_addEscape_55 rfl (lv_at xl 1 rfl) ?_
          refine lv_iload_n xe xb d_Printer_addEscape_56 rfl (lv_at xl 2 rfl) ?_
          refine tk_ishr xe xb d_Printer_addEscape_57 ?_
          refine lv_bipush (v := iI (15)) xe xb d_Printer_addEscape_58 (by decide) ?_
          refine tk_iand xe xb d_Printer_addEscape_60 ?_
          have hd := anI_15 (shI c s)
          refine lv_istore (lv' := [(4, .int (iI (anI (shI c s) 15))), (0, .ref hpr), (1, .int (iI c)), (3, .int (iI s))]) xe xb d_Printer_addEscape_61 xl (by decide) rfl ?_
          clear xl
          intro ls xl
          refine lv_aload_n xe xb d_Printer_addEscape_63 rfl (lv_at xl 1 rfl) ?_
          refine va_get (D := D) (ci := 4) (v := .ref hpd) (C := R_Printer) (T := F_Printer) (N := 6) xe xb xt i_Printer xo xK xP 0 rfl rfl 2 (by decide) (xt _ mw_Printer_24) (fun _ h9 => h9) rfl d_Printer_addEscape_64 ?_
          refine lv_iload xe xb d_Printer_addEscape_67 (lv_at xl 0 rfl) ?_
          refine lv_bipush (v := iI (10)) xe xb d_Printer_addEscape_69 (by decide) ?_
          refine tk_icmp_ge (tgt := 82) xe xb d_Printer_addEscape_71 (by decide) (by omega) (fun C71 => ?_) (fun C71 => ?_)
          · refine lv_bipush (v := iI (65)) xe xb d_Printer_addEscape_82 (by decide) ?_
            refine lv_iload xe xb d_Printer_addEscape_84 (lv_at xl 0 rfl) ?_
            refine tk_iadd xe xb d_Printer_addEscape_86 ?_
            refine lv_bipush (v := iI (10)) xe xb d_Printer_addEscape_87 (by decide) ?_
            refine tk_isub xe xb d_Printer_addEscape_89 ?_
            refine tk_callVv (As := [.int (iI ((65 + (anI (shI c s) 15)) - 10))]) (rest := []) (wr := [(hpr, .inr (4, [.ref hT, .ref hQ, .ref hpd, .ref qst, .ref qor, .int (iI pz)]))]) (wn := fun u => [(hpr, .inr (4, [.ref hT, .ref hQ, .ref hpd, .ref qst, .ref qor, .int (iI pz)])), (hpd, .inr (0, [.ref qpd, .int (iI u.1), .int (iI u.2.2)])), (qpd, .inl (cI, 3000, .inl u.2.1))]) ⟨xe, xb, xml, xo, xt⟩ (c_Row_addP l D cI hpd qpd nv fv sv ((65 + (anI (shI c s) 15)) - 10) (by first | assumption | omega) (by first | assumption | omega)) k_Row_add mw_Printer_59 ⟨Nat.le_of_ble_eq_true rfl, Nat.le_of_ble_eq_true rfl⟩ xK xP xD xS xA rfl xl.1 rfl (Nat.le_of_ble_eq_true rfl) d_Printer_addEscape_90 ⟨Nat.zero_le _, Nat.zero_le _⟩ [1, 2] [0] [0, 1, 2] rfl rfl (by decide) (by decide) (by decide) (by decide) (fun _ => rfl) rfl rfl rfl ?_
            clear xP xD xS
            intro u H locs hw_38 xP xD xS
            obtain ⟨n2_35, f2_36, sp2_37⟩ := u
            try dsimp only at hw_38
            replace xP : va_P D classes [(hpr, .inr (4, [.ref hT, .ref hQ, .ref hpd, .ref qst, .ref qor, .int (iI pz)])), (hpd, .inr (0, [.ref qpd, .int (iI n2_35), .int (iI sp2_37)])), (qpd, .inl (cI, 3000, .inl f2_36))] H := xP
            replace xD : va_D xA0 [(hpr, .inr (4, [.ref hT, .ref hQ, .ref hpd, .ref qst, .ref qor, .int (iI pz)])), (hpd, .inr (0, [.ref qpd, .int (iI n2_35), .int (iI sp2_37)])), (qpd, .inl (cI, 3000, .inl f2_36))] := xD
            replace HC := Pw_trans hn.1 HC hw_38
            have hgr := Pw_rg HC
            clear hw_38
            refine tk_iinc (v := (s + (-4))) (lv' := [(3, .int (iI (s + (-4)))), (4, .int (iI (anI (shI c s) 15))), (0, .ref hpr), (1, .int (iI c))]) xe xb d_Printer_addEscape_93 xl (k := 3) rfl rfl (by decide) rfl ?_
            clear xl
            intro ls xl
            refine lv_goto (tgt := 51) xe xb d_Printer_addEscape_96 (by decide) ?_
            exact ih_51 (kk - 1) (X0 ++ [hc (hx c s)]) (s + (-4)) n2_35 f2_36 sp2_37 (by omega) (by omega) (Pw_cast HC (congrArg (fun y => X0 ++ [y]) (if_neg (Int.not_lt.mpr C71) : hc (hx c s) = _).symm)) (ex_app hk.1 C52 hX) _ _ xP xD xS ls (lv_sub xl [2, 3, 0] rfl)
          · refine lv_bipush (v := iI (48)) xe xb d_Printer_addEscape_74 (by decide) ?_
            refine lv_iload xe xb d_Printer_addEscape_76 (lv_at xl 0 rfl) ?_
            refine tk_iadd xe xb d_Printer_addEscape_78 ?_
            refine lv_goto (tgt := 90) xe xb d_Printer_addEscape_79 (by decide) ?_
            refine tk_callVv (As := [.int (iI (48 + (anI (shI c s) 15)))]) (rest := []) (wr := [(hpr, .inr (4, [.ref hT, .ref hQ, .ref hpd, .ref qst, .ref qor, .int (iI pz)]))]) (wn := fun u => [(hpr, .inr (4, [.ref hT, .ref hQ, .ref hpd, .ref qst, .ref qor, .int (iI pz)])), (hpd, .inr (0, [.ref qpd, .int (iI u.1), .int (iI u.2.2)])), (qpd, .inl (cI, 3000, .inl u.2.1))]) ⟨xe, xb, xml, xo, xt⟩ (c_Row_addP l D cI hpd qpd nv fv sv (48 + (anI (shI c s) 15)) (by first | assumption | omega) (by first | assumption | omega)) k_Row_add mw_Printer_59 ⟨Nat.le_of_ble_eq_true rfl, Nat.le_of_ble_eq_true rfl⟩ xK xP xD xS xA rfl xl.1 rfl (Nat.le_of_ble_eq_true rfl) d_Printer_addEscape_90 ⟨Nat.zero_le _, Nat.zero_le _⟩ [1, 2] [0] [0, 1, 2] rfl rfl (by decide) (by decide) (by decide) (by decide) (fun _ => rfl) rfl rfl rfl ?_
            clear xP xD xS
            intro u H locs hw_43 xP xD xS
            obtain ⟨n2_40, f2_41, sp2_42⟩ := u
            try dsimp only at hw_43
            replace xP : va_P D classes [(hpr, .inr (4, [.ref hT, .ref hQ, .ref hpd, .ref qst, .ref qor, .int (iI pz)])), (hpd, .inr (0, [.ref qpd, .int (iI n2_40), .int (iI sp2_42)])), (qpd, .inl (cI, 3000, .inl f2_41))] H := xP
            replace xD : va_D xA0 [(hpr, .inr (4, [.ref hT, .ref hQ, .ref hpd, .ref qst, .ref qor, .int (iI pz)])), (hpd, .inr (0, [.ref qpd, .int (iI n2_40), .int (iI sp2_42)])), (qpd, .inl (cI, 3000, .inl f2_41))] := xD
            replace HC := Pw_trans hn.1 HC hw_43
            have hgr := Pw_rg HC
            clear hw_43
            refine tk_iinc (v := (s + (-4))) (lv' := [(3, .int (iI (s + (-4)))), (4, .int (iI (anI (shI c s) 15))), (0, .ref hpr), (1, .int (iI c))]) xe xb d_Printer_addEscape_93 xl (k := 3) rfl rfl (by decide) rfl ?_
            clear xl
            intro ls xl
            refine lv_goto (tgt := 51) xe xb d_Printer_addEscape_96 (by decide) ?_
            exact ih_51 (kk - 1) (X0 ++ [hc (hx c s)]) (s + (-4)) n2_40 f2_41 sp2_42 (by omega) (by omega) (Pw_cast HC (congrArg (fun y => X0 ++ [y]) (if_pos C71 : hc (hx c s) = _).symm)) (ex_app hk.1 C52 hX) _ _ xP xD xS ls (lv_sub xl [2, 3, 0] rfl)
    exact loop_51 _ 4 ([92, 117]) 12 n2_29 f2_30 sp2_31 (Nat.lt_succ_self _) (by first | assumption | omega) HC (if_pos C3).symm _ _ xP xD xS ls (lv_sub xl [2, 3, 0] rfl)
set_option maxHeartbeats 4000000 in
set_option maxRecDepth 100000 in
theorem c_Printer_addLabel (l : Launch) (D : va_G) (cI : ClassId) (hpr : Nat) (hT : Nat) (hQ : Nat) (hpd : Nat) (qst : Nat) (qor : Nat) (pz : Int) (qpd : Nat) (n : Int) (f : Nat → Int32) (sp : Int) (t : Int) (hn : 0 ≤ n ∧ n ≤ 3000) (ht : 0 ≤ t ∧ t < 120) : CtV l D [(cI, .int)] y_Printer_addLabel b_Printer_addLabel 2 1 [.ref hpr, .int (iI t)] [(hpr, .inr (4, [.ref hT, .ref hQ, .ref hpd, .ref qst, .ref qor, .int (iI pz)])), (hpd, .inr (0, [.ref qpd, .int (iI n), .int (iI sp)])), (qpd, .inl (cI, 3000, .inl f))] (S := Int × (Nat → Int32) × Int) (fun u => Pw u.1 u.2.1 u.2.2 n f sp (lbl t)) (fun u => [(hpr, .inr (4, [.ref hT, .ref hQ, .ref hpd, .ref qst, .ref qor, .int (iI pz)])), (hpd, .inr (0, [.ref qpd, .int (iI u.1), .int (iI u.2.2)])), (qpd, .inl (cI, 3000, .inl u.2.1))]) := by
  refine CtV.walk (by decide) (Nat.le_of_ble_eq_true rfl) ?_
  intro xp xe0 xs xm xar xbelow xmeth xc xA0 xQ xe xb xml xo xt xP xK xD xA xret ls xl xS
  have xl : lv_has ls 2 [(0, .ref hpr), (1, .int (iI t))] := xl
  have xo : xs.vm.findClass R_Printer = some xm.cls := xo
  have HC := Pw_nil (s := sp) (f := f) hn
  refine lv_aload_n xe xb d_Printer_addLabel_0 rfl (lv_at xl 0 rfl) ?_
  refine va_get (D := D) (ci := 4) (v := .ref hpd) (C := R_Printer) (T := F_Printer) (N := 6) xe xb xt i_Printer xo xK xP 0 rfl rfl 2 (by decide) (xt _ mw_Printer_24) (fun _ h9 => h9) rfl d_Printer_addLabel_1 ?_
  refine lv_bipush (v := iI (95)) xe xb d_Printer_addLabel_4 (by decide) ?_
  refine tk_callVv (As := [.int (iI 95)]) (rest := []) (wr := [(hpr, .inr (4, [.ref hT, .ref hQ, .ref hpd, .ref qst, .ref qor, .int (iI pz)]))]) (wn := fun u => [(hpr, .inr (4, [.ref hT, .ref hQ, .ref hpd, .ref qst, .ref qor, .int (iI pz)])), (hpd, .inr (0, [.ref qpd, .int (iI u.1), .int (iI u.2.2)])), (qpd, .inl (cI, 3000, .inl u.2.1))]) ⟨xe, xb, xml, xo, xt⟩ (c_Row_addP l D cI hpd qpd n f sp 95 (by first | assumption | omega) (by first | assumption | omega)) k_Row_add mw_Printer_59 ⟨Nat.le_of_ble_eq_true rfl, Nat.le_of_ble_eq_true rfl⟩ xK xP xD xS xA rfl xl.1 rfl (Nat.le_of_ble_eq_true rfl) d_Printer_addLabel_6 ⟨Nat.zero_le _, Nat.zero_le _⟩ [1, 2] [0] [0, 1, 2] rfl rfl (by decide) (by decide) (by decide) (by decide) (fun _ => rfl) rfl rfl rfl ?_
  clear xP xD xS
  intro u H locs hw_4 xP xD xS
  obtain ⟨n2_1, f2_2, sp2_3⟩ := u
  try dsimp only at hw_4
  replace xP : va_P D classes [(hpr, .inr (4, [.ref hT, .ref hQ, .ref hpd, .ref qst, .ref qor, .int (iI pz)])), (hpd, .inr (0, [.ref qpd, .int (iI n2_1), .int (iI sp2_3)])), (qpd, .inl (cI, 3000, .inl f2_2))] H := xP
  replace xD : va_D xA0 [(hpr, .inr (4, [.ref hT, .ref hQ, .ref hpd, .ref qst, .ref qor, .int (iI pz)])), (hpd, .inr (0, [.ref qpd, .int (iI n2_1), .int (iI sp2_3)])), (qpd, .inl (cI, 3000, .inl f2_2))] := xD
  replace HC := Pw_trans hn.1 HC hw_4
  have hgr := Pw_rg HC
  clear hw_4
  refine lv_aload_n xe xb d_Printer_addLabel_9 rfl (lv_at xl 0 rfl) ?_
  refine va_get (D := D) (ci := 4) (v := .ref hpd) (C := R_Printer) (T := F_Printer) (N := 6) xe xb xt i_Printer xo xK xP 0 rfl rfl 2 (by decide) (xt _ mw_Printer_24) (fun _ h9 => h9) rfl d_Printer_addLabel_10 ?_
  refine lv_bipush (v := iI (58)) xe xb d_Printer_addLabel_13 (by decide) ?_
  refine tk_callVv (As := [.int (iI 58)]) (rest := []) (wr := [(hpr, .inr (4, [.ref hT, .ref hQ, .ref hpd, .ref qst, .ref qor, .int (iI pz)]))]) (wn := fun u => [(hpr, .inr (4, [.ref hT, .ref hQ, .ref hpd, .ref qst, .ref qor, .int (iI pz)])), (hpd, .inr (0, [.ref qpd, .int (iI u.1), .int (iI u.2.2)])), (qpd, .inl (cI, 3000, .inl u.2.1))]) ⟨xe, xb, xml, xo, xt⟩ (c_Row_addP l D cI hpd qpd n2_1 f2_2 sp2_3 58 (by first | assumption | omega) (by first | assumption | omega)) k_Row_add mw_Printer_59 ⟨Nat.le_of_ble_eq_true rfl, Nat.le_of_ble_eq_true rfl⟩ xK xP xD xS xA rfl xl.1 rfl (Nat.le_of_ble_eq_true rfl) d_Printer_addLabel_15 ⟨Nat.zero_le _, Nat.zero_le _⟩ [1, 2] [0] [0, 1, 2] rfl rfl (by decide) (by decide) (by decide) (by decide) (fun _ => rfl) rfl rfl rfl ?_
  clear xP xD xS
  intro u H locs hw_9 xP xD xS
  obtain ⟨n2_6, f2_7, sp2_8⟩ := u
  try dsimp only at hw_9
  replace xP : va_P D classes [(hpr, .inr (4, [.ref hT, .ref hQ, .ref hpd, .ref qst, .ref qor, .int (iI pz)])), (hpd, .inr (0, [.ref qpd, .int (iI n2_6), .int (iI sp2_8)])), (qpd, .inl (cI, 3000, .inl f2_7))] H := xP
  replace xD : va_D xA0 [(hpr, .inr (4, [.ref hT, .ref hQ, .ref hpd, .ref qst, .ref qor, .int (iI pz)])), (hpd, .inr (0, [.ref qpd, .int (iI n2_6), .int (iI sp2_8)])), (qpd, .inl (cI, 3000, .inl f2_7))] := xD
  replace HC := Pw_trans hn.1 HC hw_9
  have hgr := Pw_rg HC
  clear hw_9
  refine lv_aload_n xe xb d_Printer_addLabel_18 rfl (lv_at xl 0 rfl) ?_
  refine va_get (D := D) (ci := 4) (v := .ref hpd) (C := R_Printer) (T := F_Printer) (N := 6) xe xb xt i_Printer xo xK xP 0 rfl rfl 2 (by decide) (xt _ mw_Printer_24) (fun _ h9 => h9) rfl d_Printer_addLabel_19 ?_
  refine lv_bipush (v := iI (98)) xe xb d_Printer_addLabel_22 (by decide) ?_
  refine tk_callVv (As := [.int (iI 98)]) (rest := []) (wr := [(hpr, .inr (4, [.ref hT, .ref hQ, .ref hpd, .ref qst, .ref qor, .int (iI pz)]))]) (wn := fun u => [(hpr, .inr (4, [.ref hT, .ref hQ, .ref hpd, .ref qst, .ref qor, .int (iI pz)])), (hpd, .inr (0, [.ref qpd, .int (iI u.1), .int (iI u.2.2)])), (qpd, .inl (cI, 3000, .inl u.2.1))]) ⟨xe, xb, xml, xo, xt⟩ (c_Row_addP l D cI hpd qpd n2_6 f2_7 sp2_8 98 (by first | assumption | omega) (by first | assumption | omega)) k_Row_add mw_Printer_59 ⟨Nat.le_of_ble_eq_true rfl, Nat.le_of_ble_eq_true rfl⟩ xK xP xD xS xA rfl xl.1 rfl (Nat.le_of_ble_eq_true rfl) d_Printer_addLabel_24 ⟨Nat.zero_le _, Nat.zero_le _⟩ [1, 2] [0] [0, 1, 2] rfl rfl (by decide) (by decide) (by decide) (by decide) (fun _ => rfl) rfl rfl rfl ?_
  clear xP xD xS
  intro u H locs hw_14 xP xD xS
  obtain ⟨n2_11, f2_12, sp2_13⟩ := u
  try dsimp only at hw_14
  replace xP : va_P D classes [(hpr, .inr (4, [.ref hT, .ref hQ, .ref hpd, .ref qst, .ref qor, .int (iI pz)])), (hpd, .inr (0, [.ref qpd, .int (iI n2_11), .int (iI sp2_13)])), (qpd, .inl (cI, 3000, .inl f2_12))] H := xP
  replace xD : va_D xA0 [(hpr, .inr (4, [.ref hT, .ref hQ, .ref hpd, .ref qst, .ref qor, .int (iI pz)])), (hpd, .inr (0, [.ref qpd, .int (iI n2_11), .int (iI sp2_13)])), (qpd, .inl (cI, 3000, .inl f2_12))] := xD
  replace HC := Pw_trans hn.1 HC hw_14
  have hgr := Pw_rg HC
  clear hw_14
  refine lv_iload_n xe xb d_Printer_addLabel_27 rfl (lv_at xl 1 rfl) ?_
  refine lv_bipush (v := iI (100)) xe xb d_Printer_addLabel_28 (by decide) ?_
  refine tk_icmp_lt (tgt := 47) xe xb d_Printer_addLabel_30 (by decide) (by omega) (fun c_16 => ?_) (fun c_16 => ?_)
  · refine lv_iload_n xe xb d_Printer_addLabel_47 rfl (lv_at xl 1 rfl) ?_
    refine lv_bipush (v := iI (10)) xe xb d_Printer_addLabel_48 (by decide) ?_
    refine tk_icmp_lt (tgt := 70) xe xb d_Printer_addLabel_50 (by decide) (by omega) (fun c_17 => ?_) (fun c_17 => ?_)
    · refine lv_aload_n xe xb d_Printer_addLabel_70 rfl (lv_at xl 0 rfl) ?_
      refine va_get (D := D) (ci := 4) (v := .ref hpd) (C := R_Printer) (T := F_Printer) (N := 6) xe xb xt i_Printer xo xK xP 0 rfl rfl 2 (by decide) (xt _ mw_Printer_24) (fun _ h9 => h9) rfl d_Printer_addLabel_71 ?_
      refine lv_bipush (v := iI (48)) xe xb d_Printer_addLabel_74 (by decide) ?_
      refine lv_iload_n xe xb d_Printer_addLabel_76 rfl (lv_at xl 1 rfl) ?_
      refine lv_bipush (v := iI (10)) xe xb d_Printer_addLabel_77 (by decide) ?_
      refine tk_irem xe xb d_Printer_addLabel_79 (by omega) ?_
      refine tk_iadd xe xb d_Printer_addLabel_80 ?_
      refine tk_callVv (As := [.int (iI (48 + (t % 10)))]) (rest := []) (wr := [(hpr, .inr (4, [.ref hT, .ref hQ, .ref hpd, .ref qst, .ref qor, .int (iI pz)]))]) (wn := fun u => [(hpr, .inr (4, [.ref hT, .ref hQ, .ref hpd, .ref qst, .ref qor, .int (iI pz)])), (hpd, .inr (0, [.ref qpd, .int (iI u.1), .int (iI u.2.2)])), (qpd, .inl (cI, 3000, .inl u.2.1))]) ⟨xe, xb, xml, xo, xt⟩ (c_Row_addP l D cI hpd qpd n2_11 f2_12 sp2_13 (48 + (t % 10)) (by first | assumption | omega) (by first | assumption | omega)) k_Row_add mw_Printer_59 ⟨Nat.le_of_ble_eq_true rfl, Nat.le_of_ble_eq_true rfl⟩ xK xP xD xS xA rfl xl.1 rfl (Nat.le_of_ble_eq_true rfl) d_Printer_addLabel_81 ⟨Nat.zero_le _, Nat.zero_le _⟩ [1, 2] [0] [0, 1, 2] rfl rfl (by decide) (by decide) (by decide) (by decide) (fun _ => rfl) rfl rfl rfl ?_
      clear xP xD xS
      intro u H locs hw_21 xP xD xS
      obtain ⟨n2_18, f2_19, sp2_20⟩ := u
      try dsimp only at hw_21
      replace xP : va_P D classes [(hpr, .inr (4, [.ref hT, .ref hQ, .ref hpd, .ref qst, .ref qor, .int (iI pz)])), (hpd, .inr (0, [.ref qpd, .int (iI n2_18), .int (iI sp2_20)])), (qpd, .inl (cI, 3000, .inl f2_19))] H := xP
      replace xD : va_D xA0 [(hpr, .inr (4, [.ref hT, .ref hQ, .ref hpd, .ref qst, .ref qor, .int (iI pz)])), (hpd, .inr (0, [.ref qpd, .int (iI n2_18), .int (iI sp2_20)])), (qpd, .inl (cI, 3000, .inl f2_19))] := xD
      replace HC := Pw_trans hn.1 HC hw_21
      have hgr := Pw_rg HC
      clear hw_21
      exact xret _ _ _ _ (n2_18, f2_19, sp2_20) d_Printer_addLabel_84 (by first | exact (Pw_cast HC (by unfold lbl num; (repeat' split) <;> first | (exfalso; omega) | rfl)) | (dsimp only; exact (Pw_cast HC (by unfold lbl num; (repeat' split) <;> first | (exfalso; omega) | rfl)))) xP xD xS
    · refine lv_aload_n xe xb d_Printer_addLabel_53 rfl (lv_at xl 0 rfl) ?_
      refine va_get (D := D) (ci := 4) (v := .ref hpd) (C := R_Printer) (T := F_Printer) (N := 6) xe xb xt i_Printer xo xK xP 0 rfl rfl 2 (by decide) (xt _ mw_Printer_24) (fun _ h9 => h9) rfl d_Printer_addLabel_54 ?_
      refine lv_bipush (v := iI (48)) xe xb d_Printer_addLabel_57 (by decide) ?_
      refine lv_iload_n xe xb d_Printer_addLabel_59 rfl (lv_at xl 1 rfl) ?_
      refine lv_bipush (v := iI (10)) xe xb d_Printer_addLabel_60 (by decide) ?_
      refine tk_idiv xe xb d_Printer_addLabel_62 (by omega) ?_
      refine lv_bipush (v := iI (10)) xe xb d_Printer_addLabel_63 (by decide) ?_
      refine tk_irem xe xb d_Printer_addLabel_65 (by omega) ?_
      refine tk_iadd xe xb d_Printer_addLabel_66 ?_
      refine tk_callVv (As := [.int (iI (48 + ((t / 10) % 10)))]) (rest := []) (wr := [(hpr, .inr (4, [.ref hT, .ref hQ, .ref hpd, .ref qst, .ref qor, .int (iI pz)]))]) (wn := fun u => [(hpr, .inr (4, [.ref hT, .ref hQ, .ref hpd, .ref qst, .ref qor, .int (iI pz)])), (hpd, .inr (0, [.ref qpd, .int (iI u.1), .int (iI u.2.2)])), (qpd, .inl (cI, 3000, .inl u.2.1))]) ⟨xe, xb, xml, xo, xt⟩ (c_Row_addP l D cI hpd qpd n2_11 f2_12 sp2_13 (48 + ((t / 10) % 10)) (by first | assumption | omega) (by first | assumption | omega)) k_Row_add mw_Printer_59 ⟨Nat.le_of_ble_eq_true rfl, Nat.le_of_ble_eq_true rfl⟩ xK xP xD xS xA rfl xl.1 rfl (Nat.le_of_ble_eq_true rfl) d_Printer_addLabel_67 ⟨Nat.zero_le _, Nat.zero_le _⟩ [1, 2] [0] [0, 1, 2] rfl rfl (by decide) (by decide) (by decide) (by decide) (fun _ => rfl) rfl rfl rfl ?_
      clear xP xD xS
      intro u H locs hw_26 xP xD xS
      obtain ⟨n2_23, f2_24, sp2_25⟩ := u
      try dsimp only at hw_26
      replace xP : va_P D classes [(hpr, .inr (4, [.ref hT, .ref hQ, .ref hpd, .ref qst, .ref qor, .int (iI pz)])), (hpd, .inr (0, [.ref qpd, .int (iI n2_23), .int (iI sp2_25)])), (qpd, .inl (cI, 3000, .inl f2_24))] H := xP
      replace xD : va_D xA0 [(hpr, .inr (4, [.ref hT, .ref hQ, .ref hpd, .ref qst, .ref qor, .int (iI pz)])), (hpd, .inr (0, [.ref qpd, .int (iI n2_23), .int (iI sp2_25)])), (qpd, .inl (cI, 3000, .inl f2_24))] := xD
      replace HC := Pw_trans hn.1 HC hw_26
      have hgr := Pw_rg HC
      clear hw_26
      refine lv_aload_n xe xb d_Printer_addLabel_70 rfl (lv_at xl 0 rfl) ?_
      refine va_get (D := D) (ci := 4) (v := .ref hpd) (C := R_Printer) (T := F_Printer) (N := 6) xe xb xt i_Printer xo xK xP 0 rfl rfl 2 (by decide) (xt _ mw_Printer_24) (fun _ h9 => h9) rfl d_Printer_addLabel_71 ?_
      refine lv_bipush (v := iI (48)) xe xb d_Printer_addLabel_74 (by decide) ?_
      refine lv_iload_n xe xb d_Printer_addLabel_76 rfl (lv_at xl 1 rfl) ?_
      refine lv_bipush (v := iI (10)) xe xb d_Printer_addLabel_77 (by decide) ?_
      refine tk_irem xe xb d_Printer_addLabel_79 (by omega) ?_
      refine tk_iadd xe xb d_Printer_addLabel_80 ?_
      refine tk_callVv (As := [.int (iI (48 + (t % 10)))]) (rest := []) (wr := [(hpr, .inr (4, [.ref hT, .ref hQ, .ref hpd, .ref qst, .ref qor, .int (iI pz)]))]) (wn := fun u => [(hpr, .inr (4, [.ref hT, .ref hQ, .ref hpd, .ref qst, .ref qor, .int (iI pz)])), (hpd, .inr (0, [.ref qpd, .int (iI u.1), .int (iI u.2.2)])), (qpd, .inl (cI, 3000, .inl u.2.1))]) ⟨xe, xb, xml, xo, xt⟩ (c_Row_addP l D cI hpd qpd n2_23 f2_24 sp2_25 (48 + (t % 10)) (by first | assumption | omega) (by first | assumption | omega)) k_Row_add mw_Printer_59 ⟨Nat.le_of_ble_eq_true rfl, Nat.le_of_ble_eq_true rfl⟩ xK xP xD xS xA rfl xl.1 rfl (Nat.le_of_ble_eq_true rfl) d_Printer_addLabel_81 ⟨Nat.zero_le _, Nat.zero_le _⟩ [1, 2] [0] [0, 1, 2] rfl rfl (by decide) (by decide) (by decide) (by decide) (fun _ => rfl) rfl rfl rfl ?_
      clear xP xD xS
      intro u H locs hw_31 xP xD xS
      obtain ⟨n2_28, f2_29, sp2_30⟩ := u
      try dsimp only at hw_31
      replace xP : va_P D classes [(hpr, .inr (4, [.ref hT, .ref hQ, .ref hpd, .ref qst, .ref qor, .int (iI pz)])), (hpd, .inr (0, [.ref qpd, .int (iI n2_28), .int (iI sp2_30)])), (qpd, .inl (cI, 3000, .inl f2_29))] H := xP
      replace xD : va_D xA0 [(hpr, .inr (4, [.ref hT, .ref hQ, .ref hpd, .ref qst, .ref qor, .int (iI pz)])), (hpd, .inr (0, [.ref qpd, .int (iI n2_28), .int (iI sp2_30)])), (qpd, .inl (cI, 3000, .inl f2_29))] := xD
      replace HC := Pw_trans hn.1 HC hw_31
      have hgr := Pw_rg HC
      clear hw_31
      exact xret _ _ _ _ (n2_28, f2_29, sp2_30) d_Printer_addLabel_84 (by first | exact (Pw_cast HC (by unfold lbl num; (repeat' split) <;> first | (exfalso; omega) | rfl)) | (dsimp only; exact (Pw_cast HC (by unfold lbl num; (repeat' split) <;> first | (exfalso; omega) | rfl)))) xP xD xS
  · refine lv_aload_n xe xb d_Printer_addLabel_33 rfl (lv_at xl 0 rfl) ?_
    refine va_get (D := D) (ci := 4) (v := .ref hpd) (C := R_Printer) (T := F_Printer) (N := 6) xe xb xt i_Printer xo xK xP 0 rfl rfl 2 (by decide) (xt _ mw_Printer_24) (fun _ h9 => h9) rfl d_Printer_addLabel_34 ?_
    refine lv_bipush (v := iI (48)) xe xb d_Printer_addLabel_37 (by decide) ?_
    refine lv_iload_n xe xb d_Printer_addLabel_39 rfl (lv_at xl 1 rfl) ?_
    refine lv_bipush (v := iI (100)) xe xb d_Printer_addLabel_40 (by decide) ?_
    refine tk_idiv xe xb d_Printer_addLabel_42 (by omega) ?_
    refine tk_iadd xe xb d_Printer_addLabel_43 ?_
    refine tk_callVv (As := [.int (iI (48 + (t / 100)))]) (rest := []) (wr := [(hpr, .inr (4, [.ref hT, .ref hQ, .ref hpd, .ref qst, .ref qor, .int (iI pz)]))]) (wn := fun u => [(hpr, .inr (4, [.ref hT, .ref hQ, .ref hpd, .ref qst, .ref qor, .int (iI pz)])), (hpd, .inr (0, [.ref qpd, .int (iI u.1), .int (iI u.2.2)])), (qpd, .inl (cI, 3000, .inl u.2.1))]) ⟨xe, xb, xml, xo, xt⟩ (c_Row_addP l D cI hpd qpd n2_11 f2_12 sp2_13 (48 + (t / 100)) (by first | assumption | omega) (by first | assumption | omega)) k_Row_add mw_Printer_59 ⟨Nat.le_of_ble_eq_true rfl, Nat.le_of_ble_eq_true rfl⟩ xK xP xD xS xA rfl xl.1 rfl (Nat.le_of_ble_eq_true rfl) d_Printer_addLabel_44 ⟨Nat.zero_le _, Nat.zero_le _⟩ [1, 2] [0] [0, 1, 2] rfl rfl (by decide) (by decide) (by decide) (by decide) (fun _ => rfl) rfl rfl rfl ?_
    clear xP xD xS
    intro u H locs hw_36 xP xD xS
    obtain ⟨n2_33, f2_34, sp2_35⟩ := u
    try dsimp only at hw_36
    replace xP : va_P D classes [(hpr, .inr (4, [.ref hT, .ref hQ, .ref hpd, .ref qst, .ref qor, .int (iI pz)])), (hpd, .inr (0, [.ref qpd, .int (iI n2_33), .int (iI sp2_35)])), (qpd, .inl (cI, 3000, .inl f2_34))] H := xP
    replace xD : va_D xA0 [(hpr, .inr (4, [.ref hT, .ref hQ, .ref hpd, .ref qst, .ref qor, .int (iI pz)])), (hpd, .inr (0, [.ref qpd, .int (iI n2_33), .int (iI sp2_35)])), (qpd, .inl (cI, 3000, .inl f2_34))] := xD
    replace HC := Pw_trans hn.1 HC hw_36
    have hgr := Pw_rg HC
    clear hw_36
    refine lv_iload_n xe xb d_Printer_addLabel_47 rfl (lv_at xl 1 rfl) ?_
    refine lv_bipush (v := iI (10)) xe xb d_Printer_addLabel_48 (by decide) ?_
    refine tk_icmp_lt (tgt := 70) xe xb d_Printer_addLabel_50 (by decide) (by omega) (fun c_38 => ?_) (fun c_38 => ?_)
    · refine lv_aload_n xe xb d_Printer_addLabel_70 rfl (lv_at xl 0 rfl) ?_
      refine va_get (D := D) (ci := 4) (v := .ref hpd) (C := R_Printer) (T := F_Printer) (N := 6) xe xb xt i_Printer xo xK xP 0 rfl rfl 2 (by decide) (xt _ mw_Printer_24) (fun _ h9 => h9) rfl d_Printer_addLabel_71 ?_
      refine lv_bipush (v := iI (48)) xe xb d_Printer_addLabel_74 (by decide) ?_
      refine lv_iload_n xe xb d_Printer_addLabel_76 rfl (lv_at xl 1 rfl) ?_
      refine lv_bipush (v := iI (10)) xe xb d_Printer_addLabel_77 (by decide) ?_
      refine tk_irem xe xb d_Printer_addLabel_79 (by omega) ?_
      refine tk_iadd xe xb d_Printer_addLabel_80 ?_
      refine tk_callVv (As := [.int (iI (48 + (t % 10)))]) (rest := []) (wr := [(hpr, .inr (4, [.ref hT, .ref hQ, .ref hpd, .ref qst, .ref qor, .int (iI pz)]))]) (wn := fun u => [(hpr, .inr (4, [.ref hT, .ref hQ, .ref hpd, .ref qst, .ref qor, .int (iI pz)])), (hpd, .inr (0, [.ref qpd, .int (iI u.1), .int (iI u.2.2)])), (qpd, .inl (cI, 3000, .inl u.2.1))]) ⟨xe, xb, xml, xo, xt⟩ (c_Row_addP l D cI hpd qpd n2_33 f2_34 sp2_35 (48 + (t % 10)) (by first | assumption | omega) (by first | assumption | omega)) k_Row_add mw_Printer_59 ⟨Nat.le_of_ble_eq_true rfl, Nat.le_of_ble_eq_true rfl⟩ xK xP xD xS xA rfl xl.1 rfl (Nat.le_of_ble_eq_true rfl) d_Printer_addLabel_81 ⟨Nat.zero_le _, Nat.zero_le _⟩ [1, 2] [0] [0, 1, 2] rfl rfl (by decide) (by decide) (by decide) (by decide) (fun _ => rfl) rfl rfl rfl ?_
      clear xP xD xS
      intro u H locs hw_42 xP xD xS
      obtain ⟨n2_39, f2_40, sp2_41⟩ := u
      try dsimp only at hw_42
      replace xP : va_P D classes [(hpr, .inr (4, [.ref hT, .ref hQ, .ref hpd, .ref qst, .ref qor, .int (iI pz)])), (hpd, .inr (0, [.ref qpd, .int (iI n2_39), .int (iI sp2_41)])), (qpd, .inl (cI, 3000, .inl f2_40))] H := xP
      replace xD : va_D xA0 [(hpr, .inr (4, [.ref hT, .ref hQ, .ref hpd, .ref qst, .ref qor, .int (iI pz)])), (hpd, .inr (0, [.ref qpd, .int (iI n2_39), .int (iI sp2_41)])), (qpd, .inl (cI, 3000, .inl f2_40))] := xD
      replace HC := Pw_trans hn.1 HC hw_42
      have hgr := Pw_rg HC
      clear hw_42
      exact xret _ _ _ _ (n2_39, f2_40, sp2_41) d_Printer_addLabel_84 (by first | exact (Pw_cast HC (by unfold lbl num; (repeat' split) <;> first | (exfalso; omega) | rfl)) | (dsimp only; exact (Pw_cast HC (by unfold lbl num; (repeat' split) <;> first | (exfalso; omega) | rfl)))) xP xD xS
    · refine lv_aload_n xe xb d_Printer_addLabel_53 rfl (lv_at xl 0 rfl) ?_
      refine va_get (D := D) (ci := 4) (v := .ref hpd) (C := R_Printer) (T := F_Printer) (N := 6) xe xb xt i_Printer xo xK xP 0 rfl rfl 2 (by decide) (xt _ mw_Printer_24) (fun _ h9 => h9) rfl d_Printer_addLabel_54 ?_
      refine lv_bipush (v := iI (48)) xe xb d_Printer_addLabel_57 (by decide) ?_
      refine lv_iload_n xe xb d_Printer_addLabel_59 rfl (lv_at xl 1 rfl) ?_
      refine lv_bipush (v := iI (10)) xe xb d_Printer_addLabel_60 (by decide) ?_
      refine tk_idiv xe xb d_Printer_addLabel_62 (by omega) ?_
      refine lv_bipush (v := iI (10)) xe xb d_Printer_addLabel_63 (by decide) ?_
      refine tk_irem xe xb d_Printer_addLabel_65 (by omega) ?_
      refine tk_iadd xe xb d_Printer_addLabel_66 ?_
      refine tk_callVv (As := [.int (iI (48 + ((t / 10) % 10)))]) (rest := []) (wr := [(hpr, .inr (4, [.ref hT, .ref hQ, .ref hpd, .ref qst, .ref qor, .int (iI pz)]))]) (wn := fun u => [(hpr, .inr (4, [.ref hT, .ref hQ, .ref hpd, .ref qst, .ref qor, .int (iI pz)])), (hpd, .inr (0, [.ref qpd, .int (iI u.1), .int (iI u.2.2)])), (qpd, .inl (cI, 3000, .inl u.2.1))]) ⟨xe, xb, xml, xo, xt⟩ (c_Row_addP l D cI hpd qpd n2_33 f2_34 sp2_35 (48 + ((t / 10) % 10)) (by first | assumption | omega) (by first | assumption | omega)) k_Row_add mw_Printer_59 ⟨Nat.le_of_ble_eq_true rfl, Nat.le_of_ble_eq_true rfl⟩ xK xP xD xS xA rfl xl.1 rfl (Nat.le_of_ble_eq_true rfl) d_Printer_addLabel_67 ⟨Nat.zero_le _, Nat.zero_le _⟩ [1, 2] [0] [0, 1, 2] rfl rfl (by decide) (by decide) (by decide) (by decide) (fun _ => rfl) rfl rfl rfl ?_
      clear xP xD xS
      intro u H locs hw_47 xP xD xS
      obtain ⟨n2_44, f2_45, sp2_46⟩ := u
      try dsimp only at hw_47
      replace xP : va_P D classes [(hpr, .inr (4, [.ref hT, .ref hQ, .ref hpd, .ref qst, .ref qor, .int (iI pz)])), (hpd, .inr (0, [.ref qpd, .int (iI n2_44), .int (iI sp2_46)])), (qpd, .inl (cI, 3000, .inl f2_45))] H := xP
      replace xD : va_D xA0 [(hpr, .inr (4, [.ref hT, .ref hQ, .ref hpd, .ref qst, .ref qor, .int (iI pz)])), (hpd, .inr (0, [.ref qpd, .int (iI n2_44), .int (iI sp2_46)])), (qpd, .inl (cI, 3000, .inl f2_45))] := xD
      replace HC := Pw_trans hn.1 HC hw_47
      have hgr := Pw_rg HC
      clear hw_47
      refine lv_aload_n xe xb d_Printer_addLabel_70 rfl (lv_at xl 0 rfl) ?_
      refine va_get (D := D) (ci := 4) (v := .ref hpd) (C := R_Printer) (T := F_Printer) (N := 6) xe xb xt i_Printer xo xK xP 0 rfl rfl 2 (by decide) (xt _ mw_Printer_24) (fun _ h9 => h9) rfl d_Printer_addLabel_71 ?_
      refine lv_bipush (v := iI (48)) xe xb d_Printer_addLabel_74 (by decide) ?_
      refine lv_iload_n xe xb d_Printer_addLabel_76 rfl (lv_at xl 1 rfl) ?_
      refine lv_bipush (v := iI (10)) xe xb d_Printer_addLabel_77 (by decide) ?_
      refine tk_irem xe xb d_Printer_addLabel_79 (by omega) ?_
      refine tk_iadd xe xb d_Printer_addLabel_80 ?_
      refine tk_callVv (As := [.int (iI (48 + (t % 10)))]) (rest := []) (wr := [(hpr, .inr (4, [.ref hT, .ref hQ, .ref hpd, .ref qst, .ref qor, .int (iI pz)]))]) (wn := fun u => [(hpr, .inr (4, [.ref hT, .ref hQ, .ref hpd, .ref qst, .ref qor, .int (iI pz)])), (hpd, .inr (0, [.ref qpd, .int (iI u.1), .int (iI u.2.2)])), (qpd, .inl (cI, 3000, .inl u.2.1))]) ⟨xe, xb, xml, xo, xt⟩ (c_Row_addP l D cI hpd qpd n2_44 f2_45 sp2_46 (48 + (t % 10)) (by first | assumption | omega) (by first | assumption | omega)) k_Row_add mw_Printer_59 ⟨Nat.le_of_ble_eq_true rfl, Nat.le_of_ble_eq_true rfl⟩ xK xP xD xS xA rfl xl.1 rfl (Nat.le_of_ble_eq_true rfl) d_Printer_addLabel_81 ⟨Nat.zero_le _, Nat.zero_le _⟩ [1, 2] [0] [0, 1, 2] rfl rfl (by decide) (by decide) (by decide) (by decide) (fun _ => rfl) rfl rfl rfl ?_
      clear xP xD xS
      intro u H locs hw_52 xP xD xS
      obtain ⟨n2_49, f2_50, sp2_51⟩ := u
      try dsimp only at hw_52
      replace xP : va_P D classes [(hpr, .inr (4, [.ref hT, .ref hQ, .ref hpd, .ref qst, .ref qor, .int (iI pz)])), (hpd, .inr (0, [.ref qpd, .int (iI n2_49), .int (iI sp2_51)])), (qpd, .inl (cI, 3000, .inl f2_50))] H := xP
      replace xD : va_D xA0 [(hpr, .inr (4, [.ref hT, .ref hQ, .ref hpd, .ref qst, .ref qor, .int (iI pz)])), (hpd, .inr (0, [.ref qpd, .int (iI n2_49), .int (iI sp2_51)])), (qpd, .inl (cI, 3000, .inl f2_50))] := xD
      replace HC := Pw_trans hn.1 HC hw_52
      have hgr := Pw_rg HC
      clear hw_52
      exact xret _ _ _ _ (n2_49, f2_50, sp2_51) d_Printer_addLabel_84 (by first | exact (Pw_cast HC (by unfold lbl num; (repeat' split) <;> first | (exfalso; omega) | rfl)) | (dsimp only; exact (Pw_cast HC (by unfold lbl num; (repeat' split) <;> first | (exfalso; omega) | rfl)))) xP xD xS
