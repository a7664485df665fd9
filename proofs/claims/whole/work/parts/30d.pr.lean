theorem d_Printer_startOf_0 : decode b_Printer_startOf 0 = .ok (.iload_n 1, 1) := by decide +kernel
theorem d_Printer_startOf_1 : decode b_Printer_startOf 1 = .ok (.ifCond .lt 21, 3) := by decide +kernel
theorem d_Printer_startOf_4 : decode b_Printer_startOf 4 = .ok (.iload_n 1, 1) := by decide +kernel
theorem d_Printer_startOf_5 : decode b_Printer_startOf 5 = .ok (.aload_n 0, 1) := by decide +kernel
theorem d_Printer_startOf_6 : decode b_Printer_startOf 6 = .ok (.getfield 28, 3) := by decide +kernel
theorem d_Printer_startOf_9 : decode b_Printer_startOf 9 = .ok (.arraylength, 1) := by decide +kernel
theorem d_Printer_startOf_10 : decode b_Printer_startOf 10 = .ok (.if_icmp .ge 12, 3) := by decide +kernel
theorem d_Printer_startOf_13 : decode b_Printer_startOf 13 = .ok (.aload_n 0, 1) := by decide +kernel
theorem d_Printer_startOf_14 : decode b_Printer_startOf 14 = .ok (.getfield 28, 3) := by decide +kernel
theorem d_Printer_startOf_17 : decode b_Printer_startOf 17 = .ok (.iload_n 1, 1) := by decide +kernel
theorem d_Printer_startOf_18 : decode b_Printer_startOf 18 = .ok (.iaload, 1) := by decide +kernel
theorem d_Printer_startOf_19 : decode b_Printer_startOf 19 = .ok (.goto 10, 3) := by decide +kernel
theorem d_Printer_startOf_22 : decode b_Printer_startOf 22 = .ok (.aload_n 0, 1) := by decide +kernel
theorem d_Printer_startOf_23 : decode b_Printer_startOf 23 = .ok (.getfield 24, 3) := by decide +kernel
theorem d_Printer_startOf_26 : decode b_Printer_startOf 26 = .ok (.getfield 49, 3) := by decide +kernel
theorem d_Printer_startOf_29 : decode b_Printer_startOf 29 = .ok (.ireturn, 1) := by decide +kernel
theorem d_Printer_comesBefore_0 : decode b_Printer_comesBefore 0 = .ok (.aload_n 0, 1) := by decide +kernel
theorem d_Printer_comesBefore_1 : decode b_Printer_comesBefore 1 = .ok (.iload_n 1, 1) := by decide +kernel
theorem d_Printer_comesBefore_2 : decode b_Printer_comesBefore 2 = .ok (.invokevirtual 66, 3) := by decide +kernel
theorem d_Printer_comesBefore_5 : decode b_Printer_comesBefore 5 = .ok (.istore_n 3, 1) := by decide +kernel
theorem d_Printer_comesBefore_6 : decode b_Printer_comesBefore 6 = .ok (.aload_n 0, 1) := by decide +kernel
theorem d_Printer_comesBefore_7 : decode b_Printer_comesBefore 7 = .ok (.iload_n 2, 1) := by decide +kernel
theorem d_Printer_comesBefore_8 : decode b_Printer_comesBefore 8 = .ok (.invokevirtual 66, 3) := by decide +kernel
theorem d_Printer_comesBefore_11 : decode b_Printer_comesBefore 11 = .ok (.istore 4, 2) := by decide +kernel
theorem d_Printer_comesBefore_13 : decode b_Printer_comesBefore 13 = .ok (.aload_n 0, 1) := by decide +kernel
theorem d_Printer_comesBefore_14 : decode b_Printer_comesBefore 14 = .ok (.iload_n 1, 1) := by decide +kernel
theorem d_Printer_comesBefore_15 : decode b_Printer_comesBefore 15 = .ok (.iconst 1, 1) := by decide +kernel
theorem d_Printer_comesBefore_16 : decode b_Printer_comesBefore 16 = .ok (.iadd, 1) := by decide +kernel
theorem d_Printer_comesBefore_17 : decode b_Printer_comesBefore 17 = .ok (.invokevirtual 66, 3) := by decide +kernel
theorem d_Printer_comesBefore_20 : decode b_Printer_comesBefore 20 = .ok (.iload_n 3, 1) := by decide +kernel
theorem d_Printer_comesBefore_21 : decode b_Printer_comesBefore 21 = .ok (.isub, 1) := by decide +kernel
theorem d_Printer_comesBefore_22 : decode b_Printer_comesBefore 22 = .ok (.aload_n 0, 1) := by decide +kernel
theorem d_Printer_comesBefore_23 : decode b_Printer_comesBefore 23 = .ok (.iload_n 2, 1) := by decide +kernel
theorem d_Printer_comesBefore_24 : decode b_Printer_comesBefore 24 = .ok (.iconst 1, 1) := by decide +kernel
theorem d_Printer_comesBefore_25 : decode b_Printer_comesBefore 25 = .ok (.iadd, 1) := by decide +kernel
theorem d_Printer_comesBefore_26 : decode b_Printer_comesBefore 26 = .ok (.invokevirtual 66, 3) := by decide +kernel
theorem d_Printer_comesBefore_29 : decode b_Printer_comesBefore 29 = .ok (.iload 4, 2) := by decide +kernel
theorem d_Printer_comesBefore_31 : decode b_Printer_comesBefore 31 = .ok (.isub, 1) := by decide +kernel
theorem d_Printer_comesBefore_32 : decode b_Printer_comesBefore 32 = .ok (.invokestatic 73, 3) := by decide +kernel
theorem d_Printer_comesBefore_35 : decode b_Printer_comesBefore 35 = .ok (.istore 5, 2) := by decide +kernel
theorem d_Printer_comesBefore_37 : decode b_Printer_comesBefore 37 = .ok (.iconst 0, 1) := by decide +kernel
theorem d_Printer_comesBefore_38 : decode b_Printer_comesBefore 38 = .ok (.istore 6, 2) := by decide +kernel
theorem d_Printer_comesBefore_40 : decode b_Printer_comesBefore 40 = .ok (.iload 6, 2) := by decide +kernel
theorem d_Printer_comesBefore_42 : decode b_Printer_comesBefore 42 = .ok (.iload 5, 2) := by decide +kernel
theorem d_Printer_comesBefore_44 : decode b_Printer_comesBefore 44 = .ok (.if_icmp .ge 56, 3) := by decide +kernel
theorem d_Printer_comesBefore_47 : decode b_Printer_comesBefore 47 = .ok (.aload_n 0, 1) := by decide +kernel
theorem d_Printer_comesBefore_48 : decode b_Printer_comesBefore 48 = .ok (.getfield 24, 3) := by decide +kernel
theorem d_Printer_comesBefore_51 : decode b_Printer_comesBefore 51 = .ok (.iload_n 3, 1) := by decide +kernel
theorem d_Printer_comesBefore_52 : decode b_Printer_comesBefore 52 = .ok (.iload 6, 2) := by decide +kernel
theorem d_Printer_comesBefore_54 : decode b_Printer_comesBefore 54 = .ok (.iadd, 1) := by decide +kernel
theorem d_Printer_comesBefore_55 : decode b_Printer_comesBefore 55 = .ok (.invokevirtual 70, 3) := by decide +kernel
theorem d_Printer_comesBefore_58 : decode b_Printer_comesBefore 58 = .ok (.istore 7, 2) := by decide +kernel
theorem d_Printer_comesBefore_60 : decode b_Printer_comesBefore 60 = .ok (.aload_n 0, 1) := by decide +kernel
theorem d_Printer_comesBefore_61 : decode b_Printer_comesBefore 61 = .ok (.getfield 24, 3) := by decide +kernel
theorem d_Printer_comesBefore_64 : decode b_Printer_comesBefore 64 = .ok (.iload 4, 2) := by decide +kernel
theorem d_Printer_comesBefore_66 : decode b_Printer_comesBefore 66 = .ok (.iload 6, 2) := by decide +kernel
theorem d_Printer_comesBefore_68 : decode b_Printer_comesBefore 68 = .ok (.iadd, 1) := by decide +kernel
theorem d_Printer_comesBefore_69 : decode b_Printer_comesBefore 69 = .ok (.invokevirtual 70, 3) := by decide +kernel
theorem d_Printer_comesBefore_72 : decode b_Printer_comesBefore 72 = .ok (.istore 8, 2) := by decide +kernel
theorem d_Printer_comesBefore_74 : decode b_Printer_comesBefore 74 = .ok (.iload 7, 2) := by decide +kernel
theorem d_Printer_comesBefore_76 : decode b_Printer_comesBefore 76 = .ok (.iload 8, 2) := by decide +kernel
theorem d_Printer_comesBefore_78 : decode b_Printer_comesBefore 78 = .ok (.if_icmp .eq 16, 3) := by decide +kernel
theorem d_Printer_comesBefore_81 : decode b_Printer_comesBefore 81 = .ok (.iload 7, 2) := by decide +kernel
theorem d_Printer_comesBefore_83 : decode b_Printer_comesBefore 83 = .ok (.iload 8, 2) := by decide +kernel
theorem d_Printer_comesBefore_85 : decode b_Printer_comesBefore 85 = .ok (.if_icmp .ge 7, 3) := by decide +kernel
theorem d_Printer_comesBefore_88 : decode b_Printer_comesBefore 88 = .ok (.iconst 1, 1) := by decide +kernel
theorem d_Printer_comesBefore_89 : decode b_Printer_comesBefore 89 = .ok (.goto 4, 3) := by decide +kernel
theorem d_Printer_comesBefore_92 : decode b_Printer_comesBefore 92 = .ok (.iconst 0, 1) := by decide +kernel
theorem d_Printer_comesBefore_93 : decode b_Printer_comesBefore 93 = .ok (.ireturn, 1) := by decide +kernel
theorem d_Printer_comesBefore_94 : decode b_Printer_comesBefore 94 = .ok (.iinc 6 1, 3) := by decide +kernel
theorem d_Printer_comesBefore_97 : decode b_Printer_comesBefore 97 = .ok (.goto (-57), 3) := by decide +kernel
theorem d_Printer_comesBefore_100 : decode b_Printer_comesBefore 100 = .ok (.iconst 0, 1) := by decide +kernel
theorem d_Printer_comesBefore_101 : decode b_Printer_comesBefore 101 = .ok (.ireturn, 1) := by decide +kernel
set_option maxHeartbeats 4000000 in
set_option maxRecDepth 100000 in
theorem c_Printer_startOf (l : Launch) (D : va_G) (cI : ClassId) (hpr : Nat) (hT : Nat) (hQ : Nat) (hpd : Nat) (qst : Nat) (qor : Nat) (pz : Int) (Sf : Nat → Int32) (Of : Nat → Int32) (qpd : Nat) (n : Int) (f : Nat → Int32) (sp : Int) (i : Int) (hn : 0 ≤ n ∧ n ≤ 3000) (hi : -2147483648 ≤ i ∧ i < 2147483648) : CtI l D [(cI, .int)] y_Printer_startOf b_Printer_startOf 2 (some .int) 0 [.ref hpr, .int (iI i)] [(hpr, .inr (4, [.ref hT, .ref hQ, .ref hpd, .ref qst, .ref qor, .int (iI pz)])), (qst, .inl (cI, 81, .inl Sf)), (qor, .inl (cI, 80, .inl Of)), (hpd, .inr (0, [.ref qpd, .int (iI n), .int (iI sp)])), (qpd, .inl (cI, 3000, .inl f))] (S := Unit) (fun z u => z = if 0 ≤ i ∧ i < 81 then tI Sf i else n) (fun u => [(hpr, .inr (4, [.ref hT, .ref hQ, .ref hpd, .ref qst, .ref qor, .int (iI pz)])), (qst, .inl (cI, 81, .inl Sf)), (qor, .inl (cI, 80, .inl Of)), (hpd, .inr (0, [.ref qpd, .int (iI n), .int (iI sp)])), (qpd, .inl (cI, 3000, .inl f))]) := by
  refine CtI.walk (fun _ => True) (fun z _ => vp_nar_int _) (by decide) (Nat.le_of_ble_eq_true rfl) ?_
  intro xp xe0 xs xm xar xbelow xmeth xc xA0 xQ xe xb xml xo xt xP xK xD xA xret ls xl xS
  have xl : lv_has ls 2 [(0, .ref hpr), (1, .int (iI i))] := xl
  have xo : xs.vm.findClass R_Printer = some xm.cls := xo
  refine lv_iload_n xe xb d_Printer_startOf_0 rfl (lv_at xl 1 rfl) ?_
  refine tk_if_lt (tgt := 22) xe xb d_Printer_startOf_1 (by decide) (by omega) (fun c_1 => ?_) (fun c_1 => ?_)
  · refine lv_aload_n xe xb d_Printer_startOf_22 rfl (lv_at xl 0 rfl) ?_
    refine va_get (D := D) (ci := 4) (v := .ref hpd) (C := R_Printer) (T := F_Printer) (N := 6) xe xb xt i_Printer xo xK xP 0 rfl rfl 2 (by decide) (xt _ mw_Printer_24) (fun _ h9 => h9) rfl d_Printer_startOf_23 ?_
    refine va_get (D := D) (ci := 0) (v := .int (iI n)) (C := R_Row) (T := F_Row) (N := 3) xe xb xt i_Row xo xK xP 3 rfl rfl 1 (by decide) (xt _ mw_Printer_49) (fun _ h9 => h9) rfl d_Printer_startOf_26 ?_
    exact xret _ _ _ _ n () d_Printer_startOf_29 trivial (by omega) (by first | (rw [if_pos (by omega)]) | (rw [if_neg (by omega)])) xP xD xS
  · refine lv_iload_n xe xb d_Printer_startOf_4 rfl (lv_at xl 1 rfl) ?_
    refine lv_aload_n xe xb d_Printer_startOf_5 rfl (lv_at xl 0 rfl) ?_
    refine va_get (D := D) (ci := 4) (v := .ref qst) (C := R_Printer) (T := F_Printer) (N := 6) xe xb xt i_Printer xo xK xP 0 rfl rfl 3 (by decide) (xt _ mw_Printer_28) (fun _ h9 => h9) rfl d_Printer_startOf_6 ?_
    refine tk_alen xe xb xK xP 1 0 rfl rfl d_Printer_startOf_9 ?_
    refine tk_icmp_ge (tgt := 22) xe xb d_Printer_startOf_10 (by decide) (by omega) (fun c_2 => ?_) (fun c_2 => ?_)
    · refine lv_aload_n xe xb d_Printer_startOf_22 rfl (lv_at xl 0 rfl) ?_
      refine va_get (D := D) (ci := 4) (v := .ref hpd) (C := R_Printer) (T := F_Printer) (N := 6) xe xb xt i_Printer xo xK xP 0 rfl rfl 2 (by decide) (xt _ mw_Printer_24) (fun _ h9 => h9) rfl d_Printer_startOf_23 ?_
      refine va_get (D := D) (ci := 0) (v := .int (iI n)) (C := R_Row) (T := F_Row) (N := 3) xe xb xt i_Row xo xK xP 3 rfl rfl 1 (by decide) (xt _ mw_Printer_49) (fun _ h9 => h9) rfl d_Printer_startOf_26 ?_
      exact xret _ _ _ _ n () d_Printer_startOf_29 trivial (by omega) (by first | (rw [if_pos (by omega)]) | (rw [if_neg (by omega)])) xP xD xS
    · refine lv_aload_n xe xb d_Printer_startOf_13 rfl (lv_at xl 0 rfl) ?_
      refine va_get (D := D) (ci := 4) (v := .ref qst) (C := R_Printer) (T := F_Printer) (N := 6) xe xb xt i_Printer xo xK xP 0 rfl rfl 3 (by decide) (xt _ mw_Printer_28) (fun _ h9 => h9) rfl d_Printer_startOf_14 ?_
      refine lv_iload_n xe xb d_Printer_startOf_17 rfl (lv_at xl 1 rfl) ?_
      refine tk_iald xe xb xK xP 1 0 rfl rfl (by omega) d_Printer_startOf_18 ?_
      have hr_3 := tI_rg Sf i
      refine lv_goto (tgt := 29) xe xb d_Printer_startOf_19 (by decide) ?_
      exact xret _ _ _ _ (tI Sf i) () d_Printer_startOf_29 trivial (by omega) (by first | (rw [if_pos (by omega)]) | (rw [if_neg (by omega)])) xP xD xS
set_option maxHeartbeats 4000000 in
set_option maxRecDepth 100000 in
theorem c_Printer_comesBefore (l : Launch) (D : va_G) (cI : ClassId) (hpr : Nat) (hT : Nat) (hQ : Nat) (hpd : Nat) (qst : Nat) (qor : Nat) (pz : Int) (Sf : Nat → Int32) (Of : Nat → Int32) (qpd : Nat) (n : Int) (f : Nat → Int32) (sp : Int) (a : Int) (b : Int) (hn : 0 ≤ n ∧ n ≤ 3000) (hso : sOk Sf pz n) (ha : 0 ≤ a ∧ a < pz) (hb : 0 ≤ b ∧ b < pz) : CtI l D [(cI, .int)] y_Printer_comesBefore b_Printer_comesBefore 9 (some .boolean) 1 [.ref hpr, .int (iI a), .int (iI b)] [(hpr, .inr (4, [.ref hT, .ref hQ, .ref hpd, .ref qst, .ref qor, .int (iI pz)])), (qst, .inl (cI, 81, .inl Sf)), (qor, .inl (cI, 80, .inl Of)), (hpd, .inr (0, [.ref qpd, .int (iI n), .int (iI sp)])), (qpd, .inl (cI, 3000, .inl f))] (S := Unit) (fun z u => (z = 1 ∧ (llt (Lp f Sf a) (Lp f Sf b) = true)) ∨ (z = 0 ∧ ¬ (llt (Lp f Sf a) (Lp f Sf b) = true))) (fun u => [(hpr, .inr (4, [.ref hT, .ref hQ, .ref hpd, .ref qst, .ref qor, .int (iI pz)])), (qst, .inl (cI, 81, .inl Sf)), (qor, .inl (cI, 80, .inl Of)), (hpd, .inr (0, [.ref qpd, .int (iI n), .int (iI sp)])), (qpd, .inl (cI, 3000, .inl f))]) := by
  refine CtI.walk (fun z => z = 0 ∨ z = 1) (fun z hz => by rcases hz with rfl | rfl <;> decide) (by decide) (Nat.le_of_ble_eq_true rfl) ?_
  intro xp xe0 xs xm xar xbelow xmeth xc xA0 xQ xe xb xml xo xt xP xK xD xA xret ls xl xS
  have xl : lv_has ls 9 [(0, .ref hpr), (1, .int (iI a)), (2, .int (iI b))] := xl
  have xo : xs.vm.findClass R_Printer = some xm.cls := xo
  have hsz := hso.2.1
  have ha2 := hso.2.2 a ha.1 ha.2
  have hb2 := hso.2.2 b hb.1 hb.2
  have hmn := mnI_rg (tI Sf (a + 1) - tI Sf a) (tI Sf (b + 1) - tI Sf b)
  refine lv_aload_n xe xb d_Printer_comesBefore_0 rfl (lv_at xl 0 rfl) ?_
  refine lv_iload_n xe xb d_Printer_comesBefore_1 rfl (lv_at xl 1 rfl) ?_
  refine tk_callVi (As := [.int (iI a)]) (rest := []) (wr := []) (wn := fun u => [(hpr, .inr (4, [.ref hT, .ref hQ, .ref hpd, .ref qst, .ref qor, .int (iI pz)])), (qst, .inl (cI, 81, .inl Sf)), (qor, .inl (cI, 80, .inl Of)), (hpd, .inr (0, [.ref qpd, .int (iI n), .int (iI sp)])), (qpd, .inl (cI, 3000, .inl f))]) ⟨xe, xb, xml, xo, xt⟩ (c_Printer_startOf l D cI hpr hT hQ hpd qst qor pz Sf Of qpd n f sp a (by first | assumption | omega) (by first | assumption | omega)) k_Printer_startOf mw_Printer_66 ⟨Nat.le_of_ble_eq_true rfl, Nat.le_of_ble_eq_true rfl⟩ xK xP xD xS xA rfl xl.1 rfl (Nat.le_of_ble_eq_true rfl) d_Printer_comesBefore_2 ⟨Nat.zero_le _, Nat.zero_le _⟩ [0, 1, 2, 3, 4] [] [0, 1, 2, 3, 4] rfl rfl (by decide) (by decide) (by decide) (by decide) (fun _ => rfl) rfl rfl rfl ?_
  clear xP xD xS
  intro z_2 u H locs hr_3 hw_1 xP xD xS
  try dsimp only at hw_1
  replace xP : va_P D classes [(hpr, .inr (4, [.ref hT, .ref hQ, .ref hpd, .ref qst, .ref qor, .int (iI pz)])), (qst, .inl (cI, 81, .inl Sf)), (qor, .inl (cI, 80, .inl Of)), (hpd, .inr (0, [.ref qpd, .int (iI n), .int (iI sp)])), (qpd, .inl (cI, 3000, .inl f))] H := xP
  replace xD : va_D xA0 [(hpr, .inr (4, [.ref hT, .ref hQ, .ref hpd, .ref qst, .ref qor, .int (iI pz)])), (qst, .inl (cI, 81, .inl Sf)), (qor, .inl (cI, 80, .inl Of)), (hpd, .inr (0, [.ref qpd, .int (iI n), .int (iI sp)])), (qpd, .inl (cI, 3000, .inl f))] := xD
  have HA := hw_1
  rw [if_pos (by omega)] at HA
  refine tk_top (y := iI (tI Sf a)) (congrArg iI HA) ?_
  refine lv_istore_n (lv' := [(3, .int (iI (tI Sf a))), (0, .ref hpr), (1, .int (iI a)), (2, .int (iI b))]) xe xb d_Printer_comesBefore_5 rfl xl (by decide) rfl ?_
  clear xl
  intro ls xl
  refine lv_aload_n xe xb d_Printer_comesBefore_6 rfl (lv_at xl 1 rfl) ?_
  refine lv_iload_n xe xb d_Printer_comesBefore_7 rfl (lv_at xl 3 rfl) ?_
  refine tk_callVi (As := [.int (iI b)]) (rest := []) (wr := []) (wn := fun u => [(hpr, .inr (4, [.ref hT, .ref hQ, .ref hpd, .ref qst, .ref qor, .int (iI pz)])), (qst, .inl (cI, 81, .inl Sf)), (qor, .inl (cI, 80, .inl Of)), (hpd, .inr (0, [.ref qpd, .int (iI n), .int (iI sp)])), (qpd, .inl (cI, 3000, .inl f))]) ⟨xe, xb, xml, xo, xt⟩ (c_Printer_startOf l D cI hpr hT hQ hpd qst qor pz Sf Of qpd n f sp b (by first | assumption | omega) (by first | assumption | omega)) k_Printer_startOf mw_Printer_66 ⟨Nat.le_of_ble_eq_true rfl, Nat.le_of_ble_eq_true rfl⟩ xK xP xD xS xA rfl xl.1 rfl (Nat.le_of_ble_eq_true rfl) d_Printer_comesBefore_8 ⟨Nat.zero_le _, Nat.zero_le _⟩ [0, 1, 2, 3, 4] [] [0, 1, 2, 3, 4] rfl rfl (by decide) (by decide) (by decide) (by decide) (fun _ => rfl) rfl rfl rfl ?_
  clear xP xD xS
  intro z_5 u H locs hr_6 hw_4 xP xD xS
  try dsimp only at hw_4
  replace xP : va_P D classes [(hpr, .inr (4, [.ref hT, .ref hQ, .ref hpd, .ref qst, .ref qor, .int (iI pz)])), (qst, .inl (cI, 81, .inl Sf)), (qor, .inl (cI, 80, .inl Of)), (hpd, .inr (0, [.ref qpd, .int (iI n), .int (iI sp)])), (qpd, .inl (cI, 3000, .inl f))] H := xP
  replace xD : va_D xA0 [(hpr, .inr (4, [.ref hT, .ref hQ, .ref hpd, .ref qst, .ref qor, .int (iI pz)])), (qst, .inl (cI, 81, .inl Sf)), (qor, .inl (cI, 80, .inl Of)), (hpd, .inr (0, [.ref qpd, .int (iI n), .int (iI sp)])), (qpd, .inl (cI, 3000, .inl f))] := xD
  have HB := hw_4
  rw [if_pos (by omega)] at HB
  refine tk_top (y := iI (tI Sf b)) (congrArg iI HB) ?_
  refine lv_istore (lv' := [(4, .int (iI (tI Sf b))), (3, .int (iI (tI Sf a))), (0, .ref hpr), (1, .int (iI a)), (2, .int (iI b))]) xe xb d_Printer_comesBefore_11 xl (by decide) rfl ?_
  clear xl
  intro ls xl
  refine lv_aload_n xe xb d_Printer_comesBefore_13 rfl (lv_at xl 2 rfl) ?_
  refine lv_iload_n xe xb d_Printer_comesBefore_14 rfl (lv_at xl 3 rfl) ?_
  refine lv_iconst (v := iI (1)) xe xb d_Printer_comesBefore_15 rfl ?_
  refine tk_iadd xe xb d_Printer_comesBefore_16 ?_
  refine tk_callVi (As := [.int (iI (a + 1))]) (rest := []) (wr := []) (wn := fun u => [(hpr, .inr (4, [.ref hT, .ref hQ, .ref hpd, .ref qst, .ref qor, .int (iI pz)])), (qst, .inl (cI, 81, .inl Sf)), (qor, .inl (cI, 80, .inl Of)), (hpd, .inr (0, [.ref qpd, .int (iI n), .int (iI sp)])), (qpd, .inl (cI, 3000, .inl f))]) ⟨xe, xb, xml, xo, xt⟩ (c_Printer_startOf l D cI hpr hT hQ hpd qst qor pz Sf Of qpd n f sp (a + 1) (by first | assumption | omega) (by first | assumption | omega)) k_Printer_startOf mw_Printer_66 ⟨Nat.le_of_ble_eq_true rfl, Nat.le_of_ble_eq_true rfl⟩ xK xP xD xS xA rfl xl.1 rfl (Nat.le_of_ble_eq_true rfl) d_Printer_comesBefore_17 ⟨Nat.zero_le _, Nat.zero_le _⟩ [0, 1, 2, 3, 4] [] [0, 1, 2, 3, 4] rfl rfl (by decide) (by decide) (by decide) (by decide) (fun _ => rfl) rfl rfl rfl ?_
  clear xP xD xS
  intro z_8 u H locs hr_9 hw_7 xP xD xS
  try dsimp only at hw_7
  replace xP : va_P D classes [(hpr, .inr (4, [.ref hT, .ref hQ, .ref hpd, .ref qst, .ref qor, .int (iI pz)])), (qst, .inl (cI, 81, .inl Sf)), (qor, .inl (cI, 80, .inl Of)), (hpd, .inr (0, [.ref qpd, .int (iI n), .int (iI sp)])), (qpd, .inl (cI, 3000, .inl f))] H := xP
  replace xD : va_D xA0 [(hpr, .inr (4, [.ref hT, .ref hQ, .ref hpd, .ref qst, .ref qor, .int (iI pz)])), (qst, .inl (cI, 81, .inl Sf)), (qor, .inl (cI, 80, .inl Of)), (hpd, .inr (0, [.ref qpd, .int (iI n), .int (iI sp)])), (qpd, .inl (cI, 3000, .inl f))] := xD
  have HA1 := hw_7
  rw [if_pos (by omega)] at HA1
  refine tk_top (y := iI (tI Sf (a + 1))) (congrArg iI HA1) ?_
  refine lv_iload_n xe xb d_Printer_comesBefore_20 rfl (lv_at xl 1 rfl) ?_
  refine tk_isub xe xb d_Printer_comesBefore_21 ?_
  refine lv_aload_n xe xb d_Printer_comesBefore_22 rfl (lv_at xl 2 rfl) ?_
  refine lv_iload_n xe xb d_Printer_comesBefore_23 rfl (lv_at xl 4 rfl) ?_
  refine lv_iconst (v := iI (1)) xe xb d_Printer_comesBefore_24 rfl ?_
  refine tk_iadd xe xb d_Printer_comesBefore_25 ?_
  refine tk_callVi (As := [.int (iI (b + 1))]) (rest := [.int (iI ((tI Sf (a + 1)) - (tI Sf a)))]) (wr := []) (wn := fun u => [(hpr, .inr (4, [.ref hT, .ref hQ, .ref hpd, .ref qst, .ref qor, .int (iI pz)])), (qst, .inl (cI, 81, .inl Sf)), (qor, .inl (cI, 80, .inl Of)), (hpd, .inr (0, [.ref qpd, .int (iI n), .int (iI sp)])), (qpd, .inl (cI, 3000, .inl f))]) ⟨xe, xb, xml, xo, xt⟩ (c_Printer_startOf l D cI hpr hT hQ hpd qst qor pz Sf Of qpd n f sp (b + 1) (by first | assumption | omega) (by first | assumption | omega)) k_Printer_startOf mw_Printer_66 ⟨Nat.le_of_ble_eq_true rfl, Nat.le_of_ble_eq_true rfl⟩ xK xP xD xS xA rfl xl.1 rfl (Nat.le_of_ble_eq_true rfl) d_Printer_comesBefore_26 ⟨Nat.zero_le _, Nat.zero_le _⟩ [0, 1, 2, 3, 4] [] [0, 1, 2, 3, 4] rfl rfl (by decide) (by decide) (by decide) (by decide) (fun _ => rfl) rfl rfl rfl ?_
  clear xP xD xS
  intro z_11 u H locs hr_12 hw_10 xP xD xS
  try dsimp only at hw_10
  replace xP : va_P D classes [(hpr, .inr (4, [.ref hT, .ref hQ, .ref hpd, .ref qst, .ref qor, .int (iI pz)])), (qst, .inl (cI, 81, .inl Sf)), (qor, .inl (cI, 80, .inl Of)), (hpd, .inr (0, [.ref qpd, .int (iI n), .int (iI sp)])), (qpd, .inl (cI, 3000, .inl f))] H := xP
  replace xD : va_D xA0 [(hpr, .inr (4, [.ref hT, .ref hQ, .ref hpd, .ref qst, .ref qor, .int (iI pz)])), (qst, .inl (cI, 81, .inl Sf)), (qor, .inl (cI, 80, .inl Of)), (hpd, .inr (0, [.ref qpd, .int (iI n), .int (iI sp)])), (qpd, .inl (cI, 3000, .inl f))] := xD
  have HB1 := hw_10
  rw [if_pos (by omega)] at HB1
  refine tk_top (y := iI (tI Sf (b + 1))) (congrArg iI HB1) ?_
  refine lv_iload xe xb d_Printer_comesBefore_29 (lv_at xl 0 rfl) ?_
  refine tk_isub xe xb d_Printer_comesBefore_31 ?_
  refine va_mmin xe xb (xml.trans xl.1.symm) xo (xt _ mw_Printer_73) (xt _ mw_min_s) (xt _ mw_math_i) (xt _ mw_min_c) (Nat.le_of_ble_eq_true rfl) (Nat.le_of_ble_eq_true rfl) (Nat.zero_le _) (Nat.zero_le _) d_Printer_comesBefore_32 ?_
  refine tk_top (y := iI (if ((tI Sf (b + 1)) - (tI Sf b)) < ((tI Sf (a + 1)) - (tI Sf a)) then ((tI Sf (b + 1)) - (tI Sf b)) else ((tI Sf (a + 1)) - (tI Sf a)))) (iI_min (by omega)) ?_
  refine tk_top (y := iI (mnI (tI Sf (a + 1) - tI Sf a) (tI Sf (b + 1) - tI Sf b))) (congrArg iI rfl) ?_
  refine lv_istore (lv' := [(5, .int (iI (mnI (tI Sf (a + 1) - tI Sf a) (tI Sf (b + 1) - tI Sf b)))), (4, .int (iI (tI Sf b))), (3, .int (iI (tI Sf a))), (0, .ref hpr), (1, .int (iI a)), (2, .int (iI b))]) xe xb d_Printer_comesBefore_35 xl (by decide) rfl ?_
  clear xl
  intro ls xl
  refine lv_iconst (v := iI (0)) xe xb d_Printer_comesBefore_37 rfl ?_
  refine lv_istore (lv' := [(6, .int (iI 0)), (5, .int (iI (mnI (tI Sf (a + 1) - tI Sf a) (tI Sf (b + 1) - tI Sf b)))), (4, .int (iI (tI Sf b))), (3, .int (iI (tI Sf a))), (0, .ref hpr), (1, .int (iI a)), (2, .int (iI b))]) xe xb d_Printer_comesBefore_38 xl (by decide) rfl ?_
  clear xl
  intro ls xl
  have loop_40 : ∀ (n9 : Nat) (i : Int), ((mnI (tI Sf (a + 1) - tI Sf a) (tI Sf (b + 1) - tI Sf b)) - i).toNat < n9 → (0 ≤ i ∧ i ≤ 3000) → (llt ((Lp f Sf a).drop i.toNat) ((Lp f Sf b).drop i.toNat) = llt (Lp f Sf a) (Lp f Sf b)) → ∀ (H : Heap) (locs : List Loc), va_P D classes [(hpr, .inr (4, [.ref hT, .ref hQ, .ref hpd, .ref qst, .ref qor, .int (iI pz)])), (qst, .inl (cI, 81, .inl Sf)), (qor, .inl (cI, 80, .inl Of)), (hpd, .inr (0, [.ref qpd, .int (iI n), .int (iI sp)])), (qpd, .inl (cI, 3000, .inl f))] H → va_D xA0 [(hpr, .inr (4, [.ref hT, .ref hQ, .ref hpd, .ref qst, .ref qor, .int (iI pz)])), (qst, .inl (cI, 81, .inl Sf)), (qor, .inl (cI, 80, .inl Of)), (hpd, .inr (0, [.ref qpd, .int (iI n), .int (iI sp)])), (qpd, .inl (cI, 3000, .inl f))] → va_S xA0 xs.heap H locs → ∀ ls : Array Slot, lv_has ls 9 [(0, .ref hpr), (3, .int (iI (tI Sf a))), (4, .int (iI (tI Sf b))), (5, .int (iI (mnI (tI Sf (a + 1) - tI Sf a) (tI Sf (b + 1) - tI Sf b)))), (6, .int (iI i))] → W xp l xe0 (tk_rm 1) xs xm xar xbelow xmeth xc H locs 0 0 xQ (F0 xm 40 ls []) := by
    intro n9
    induction n9 with
    | zero => intro i h9; exact absurd h9 (Nat.not_lt_zero _)
    | succ n9 ih9 =>
      intro i hm9 hi hl H locs xP xD xS ls xl
      have ih_40 := ih9
      have hm_40 := hm9
      refine lv_iload xe xb d_Printer_comesBefore_40 (lv_at xl 4 rfl) ?_
      refine lv_iload xe xb d_Printer_comesBefore_42 (lv_at xl 3 rfl) ?_
      refine tk_icmp_ge (tgt := 100) xe xb d_Printer_comesBefore_44 (by decide) (by omega) (fun C44 => ?_) (fun C44 => ?_)
      · refine lv_iconst (v := iI (0)) xe xb d_Printer_comesBefore_100 rfl ?_
        exact xret _ _ _ _ 0 () d_Printer_comesBefore_101 (by omega) (by omega) (Or.inr ⟨rfl, by rw [lltP_end C44 hl]; decide⟩) xP xD xS
      · refine lv_aload_n xe xb d_Printer_comesBefore_47 rfl (lv_at xl 0 rfl) ?_
        refine va_get (D := D) (ci := 4) (v := .ref hpd) (C := R_Printer) (T := F_Printer) (N := 6) xe xb xt i_Printer xo xK xP 0 rfl rfl 2 (by decide) (xt _ mw_Printer_24) (fun _ h9 => h9) rfl d_Printer_comesBefore_48 ?_
        refine lv_iload_n xe xb d_Printer_comesBefore_51 rfl (lv_at xl 1 rfl) ?_
        refine lv_iload xe xb d_Printer_comesBefore_52 (lv_at xl 4 rfl) ?_
        refine tk_iadd xe xb d_Printer_comesBefore_54 ?_
        refine tk_callVi (As := [.int (iI ((tI Sf a) + i))]) (rest := []) (wr := [(hpr, .inr (4, [.ref hT, .ref hQ, .ref hpd, .ref qst, .ref qor, .int (iI pz)])), (qst, .inl (cI, 81, .inl Sf)), (qor, .inl (cI, 80, .inl Of))]) (wn := fun u => [(hpr, .inr (4, [.ref hT, .ref hQ, .ref hpd, .ref qst, .ref qor, .int (iI pz)])), (qst, .inl (cI, 81, .inl Sf)), (qor, .inl (cI, 80, .inl Of)), (hpd, .inr (0, [.ref qpd, .int (iI n), .int (iI sp)])), (qpd, .inl (cI, 3000, .inl f))]) ⟨xe, xb, xml, xo, xt⟩ (c_Row_get l D cI hpd qpd 3000 n f sp ((tI Sf a) + i) (by first | assumption | omega) (by first | assumption | omega)) k_Row_get mw_Printer_70 ⟨Nat.le_of_ble_eq_true rfl, Nat.le_of_ble_eq_true rfl⟩ xK xP xD xS xA rfl xl.1 rfl (Nat.le_of_ble_eq_true rfl) d_Printer_comesBefore_55 ⟨Nat.zero_le _, Nat.zero_le _⟩ [3, 4] [0, 1, 2] [0, 1, 2, 3, 4] rfl rfl (by decide) (by decide) (by decide) (by decide) (fun _ => rfl) rfl rfl rfl ?_
        clear xP xD xS
        intro z_14 u H locs hr_15 hw_13 xP xD xS
        try dsimp only at hw_13
        replace xP : va_P D classes [(hpr, .inr (4, [.ref hT, .ref hQ, .ref hpd, .ref qst, .ref qor, .int (iI pz)])), (qst, .inl (cI, 81, .inl Sf)), (qor, .inl (cI, 80, .inl Of)), (hpd, .inr (0, [.ref qpd, .int (iI n), .int (iI sp)])), (qpd, .inl (cI, 3000, .inl f))] H := xP
        replace xD : va_D xA0 [(hpr, .inr (4, [.ref hT, .ref hQ, .ref hpd, .ref qst, .ref qor, .int (iI pz)])), (qst, .inl (cI, 81, .inl Sf)), (qor, .inl (cI, 80, .inl Of)), (hpd, .inr (0, [.ref qpd, .int (iI n), .int (iI sp)])), (qpd, .inl (cI, 3000, .inl f))] := xD
        have HG := hw_13
        rw [rd_in (by omega)] at HG
        refine lv_istore (lv' := [(7, .int (iI z_14)), (0, .ref hpr), (3, .int (iI (tI Sf a))), (4, .int (iI (tI Sf b))), (5, .int (iI (mnI (tI Sf (a + 1) - tI Sf a) (tI Sf (b + 1) - tI Sf b)))), (6, .int (iI i))]) xe xb d_Printer_comesBefore_58 xl (by decide) rfl ?_
        clear xl
        intro ls xl
        refine lv_aload_n xe xb d_Printer_comesBefore_60 rfl (lv_at xl 1 rfl) ?_
        refine va_get (D := D) (ci := 4) (v := .ref hpd) (C := R_Printer) (T := F_Printer) (N := 6) xe xb xt i_Printer xo xK xP 0 rfl rfl 2 (by decide) (xt _ mw_Printer_24) (fun _ h9 => h9) rfl d_Printer_comesBefore_61 ?_
        refine lv_iload xe xb d_Printer_comesBefore_64 (lv_at xl 3 rfl) ?_
        refine lv_iload xe xb d_Printer_comesBefore_66 (lv_at xl 5 rfl) ?_
        refine tk_iadd xe xb d_Printer_comesBefore_68 ?_
        refine tk_callVi (As := [.int (iI ((tI Sf b) + i))]) (rest := []) (wr := [(hpr, .inr (4, [.ref hT, .ref hQ, .ref hpd, .ref qst, .ref qor, .int (iI pz)])), (qst, .inl (cI, 81, .inl Sf)), (qor, .inl (cI, 80, .inl Of))]) (wn := fun u => [(hpr, .inr (4, [.ref hT, .ref hQ, .ref hpd, .ref qst, .ref qor, .int (iI pz)])), (qst, .inl (cI, 81, .inl Sf)), (qor, .inl (cI, 80, .inl Of)), (hpd, .inr (0, [.ref qpd, .int (iI n), .int (iI sp)])), (qpd, .inl (cI, 3000, .inl f))]) ⟨xe, xb, xml, xo, xt⟩ (c_Row_get l D cI hpd qpd 3000 n f sp ((tI Sf b) + i) (by first | assumption | omega) (by first | assumption | omega)) k_Row_get mw_Printer_70 ⟨Nat.le_of_ble_eq_true rfl, Nat.le_of_ble_eq_true rfl⟩ xK xP xD xS xA rfl xl.1 rfl (Nat.le_of_ble_eq_true rfl) d_Printer_comesBefore_69 ⟨Nat.zero_le _, Nat.zero_le _⟩ [3, 4] [0, 1, 2] [0, 1, 2, 3, 4] rfl rfl (by decide) (by decide) (by decide) (by decide) (fun _ => rfl) rfl rfl rfl ?_
        clear xP xD xS
        intro z_17 u H locs hr_18 hw_16 xP xD xS
        try dsimp only at hw_16
        replace xP : va_P D classes [(hpr, .inr (4, [.ref hT, .ref hQ, .ref hpd, .ref qst, .ref qor, .int (iI pz)])), (qst, .inl (cI, 81, .inl Sf)), (qor, .inl (cI, 80, .inl Of)), (hpd, .inr (0, [.ref qpd, .int (iI n), .int (iI sp)])), (qpd, .inl (cI, 3000, .inl f))] H := xP
        replace xD : va_D xA0 [(hpr, .inr (4, [.ref hT, .ref hQ, .ref hpd, .ref qst, .ref qor, .int (iI pz)])), (qst, .inl (cI, 81, .inl Sf)), (qor, .inl (cI, 80, .inl Of)), (hpd, .inr (0, [.ref qpd, .int (iI n), .int (iI sp)])), (qpd, .inl (cI, 3000, .inl f))] := xD
        have HG2 := hw_16
        rw [rd_in (by omega)] at HG2
        refine lv_istore (lv' := [(8, .int (iI z_17)), (7, .int (iI z_14)), (0, .ref hpr), (3, .int (iI (tI Sf a))), (4, .int (iI (tI Sf b))), (5, .int (iI (mnI (tI Sf (a + 1) - tI Sf a) (tI Sf (b + 1) - tI Sf b)))), (6, .int (iI i))]) xe xb d_Printer_comesBefore_72 xl (by decide) rfl ?_
        clear xl
        intro ls xl
        refine lv_iload xe xb d_Printer_comesBefore_74 (lv_at xl 1 rfl) ?_
        refine lv_iload xe xb d_Printer_comesBefore_76 (lv_at xl 0 rfl) ?_
        refine tk_icmp_eq (tgt := 94) xe xb d_Printer_comesBefore_78 (by decide) (by omega) (fun C78 => ?_) (fun C78 => ?_)
        · refine tk_iinc (v := (i + 1)) (lv' := [(6, .int (iI (i + 1))), (8, .int (iI z_17)), (7, .int (iI z_14)), (0, .ref hpr), (3, .int (iI (tI Sf a))), (4, .int (iI (tI Sf b))), (5, .int (iI (mnI (tI Sf (a + 1) - tI Sf a) (tI Sf (b + 1) - tI Sf b))))]) xe xb d_Printer_comesBefore_94 xl (k := 6) rfl rfl (by decide) rfl ?_
          clear xl
          intro ls xl
          refine lv_goto (tgt := 40) xe xb d_Printer_comesBefore_97 (by decide) ?_
          exact ih_40 (i + 1) (by omega) (by first | assumption | omega) (lltP_eq hi.1 C44 hl (by rw [← HG, ← HG2]; exact C78)) _ _ xP xD xS ls (lv_sub xl [3, 4, 5, 6, 0] rfl)
        · refine lv_iload xe xb d_Printer_comesBefore_81 (lv_at xl 1 rfl) ?_
          refine lv_iload xe xb d_Printer_comesBefore_83 (lv_at xl 0 rfl) ?_
          refine tk_icmp_ge (tgt := 92) xe xb d_Printer_comesBefore_85 (by decide) (by omega) (fun C85 => ?_) (fun C85 => ?_)
          · refine lv_iconst (v := iI (0)) xe xb d_Printer_comesBefore_92 rfl ?_
            exact xret _ _ _ _ 0 () d_Printer_comesBefore_93 (by omega) (by omega) (Or.inr ⟨rfl, by rw [lltP_ne hi.1 C44 hl (by rw [← HG, ← HG2]; exact C78), ← HG, ← HG2]; intro h9; have h8 := of_decide_eq_true h9; omega⟩) xP xD xS
          · refine lv_iconst (v := iI (1)) xe xb d_Printer_comesBefore_88 rfl ?_
            refine lv_goto (tgt := 93) xe xb d_Printer_comesBefore_89 (by decide) ?_
            exact xret _ _ _ _ 1 () d_Printer_comesBefore_93 (by omega) (by omega) (Or.inl ⟨rfl, (lltP_ne hi.1 C44 hl (by rw [← HG, ← HG2]; exact C78)).trans (decide_eq_true (by rw [← HG, ← HG2]; exact C85))⟩) xP xD xS
  exact loop_40 _ 0 (Nat.lt_succ_self _) (by first | assumption | omega) rfl _ _ xP xD xS ls (lv_sub xl [4, 3, 2, 1, 0] rfl)
