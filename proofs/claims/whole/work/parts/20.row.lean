theorem d_Row_room_0 : decode b_Row_room 0 = .ok (.aload_n 0, 1) := by decide +kernel
theorem d_Row_room_1 : decode b_Row_room 1 = .ok (.getfield 15, 3) := by decide +kernel
theorem d_Row_room_4 : decode b_Row_room 4 = .ok (.arraylength, 1) := by decide +kernel
theorem d_Row_room_5 : decode b_Row_room 5 = .ok (.aload_n 0, 1) := by decide +kernel
theorem d_Row_room_6 : decode b_Row_room 6 = .ok (.getfield 21, 3) := by decide +kernel
theorem d_Row_room_9 : decode b_Row_room 9 = .ok (.isub, 1) := by decide +kernel
theorem d_Row_room_10 : decode b_Row_room 10 = .ok (.ireturn, 1) := by decide +kernel
theorem d_Row_clear_0 : decode b_Row_clear 0 = .ok (.aload_n 0, 1) := by decide +kernel
theorem d_Row_clear_1 : decode b_Row_clear 1 = .ok (.iconst 0, 1) := by decide +kernel
theorem d_Row_clear_2 : decode b_Row_clear 2 = .ok (.putfield 21, 3) := by decide +kernel
theorem d_Row_clear_5 : decode b_Row_clear 5 = .ok (.aload_n 0, 1) := by decide +kernel
theorem d_Row_clear_6 : decode b_Row_clear 6 = .ok (.iconst 0, 1) := by decide +kernel
theorem d_Row_clear_7 : decode b_Row_clear 7 = .ok (.putfield 25, 3) := by decide +kernel
theorem d_Row_clear_10 : decode b_Row_clear 10 = .ok (.return_, 1) := by decide +kernel
theorem d_Row_add_0 : decode b_Row_add 0 = .ok (.aload_n 0, 1) := by decide +kernel
theorem d_Row_add_1 : decode b_Row_add 1 = .ok (.getfield 21, 3) := by decide +kernel
theorem d_Row_add_4 : decode b_Row_add 4 = .ok (.ifCond .lt 38, 3) := by decide +kernel
theorem d_Row_add_7 : decode b_Row_add 7 = .ok (.aload_n 0, 1) := by decide +kernel
theorem d_Row_add_8 : decode b_Row_add 8 = .ok (.getfield 21, 3) := by decide +kernel
theorem d_Row_add_11 : decode b_Row_add 11 = .ok (.aload_n 0, 1) := by decide +kernel
theorem d_Row_add_12 : decode b_Row_add 12 = .ok (.getfield 15, 3) := by decide +kernel
theorem d_Row_add_15 : decode b_Row_add 15 = .ok (.arraylength, 1) := by decide +kernel
theorem d_Row_add_16 : decode b_Row_add 16 = .ok (.if_icmp .ge 26, 3) := by decide +kernel
theorem d_Row_add_19 : decode b_Row_add 19 = .ok (.aload_n 0, 1) := by decide +kernel
theorem d_Row_add_20 : decode b_Row_add 20 = .ok (.getfield 15, 3) := by decide +kernel
theorem d_Row_add_23 : decode b_Row_add 23 = .ok (.aload_n 0, 1) := by decide +kernel
theorem d_Row_add_24 : decode b_Row_add 24 = .ok (.getfield 21, 3) := by decide +kernel
theorem d_Row_add_27 : decode b_Row_add 27 = .ok (.iload_n 1, 1) := by decide +kernel
theorem d_Row_add_28 : decode b_Row_add 28 = .ok (.iastore, 1) := by decide +kernel
theorem d_Row_add_29 : decode b_Row_add 29 = .ok (.aload_n 0, 1) := by decide +kernel
theorem d_Row_add_30 : decode b_Row_add 30 = .ok (.dup, 1) := by decide +kernel
theorem d_Row_add_31 : decode b_Row_add 31 = .ok (.getfield 21, 3) := by decide +kernel
theorem d_Row_add_34 : decode b_Row_add 34 = .ok (.iconst 1, 1) := by decide +kernel
theorem d_Row_add_35 : decode b_Row_add 35 = .ok (.iadd, 1) := by decide +kernel
theorem d_Row_add_36 : decode b_Row_add 36 = .ok (.putfield 21, 3) := by decide +kernel
theorem d_Row_add_39 : decode b_Row_add 39 = .ok (.goto 8, 3) := by decide +kernel
theorem d_Row_add_42 : decode b_Row_add 42 = .ok (.aload_n 0, 1) := by decide +kernel
theorem d_Row_add_43 : decode b_Row_add 43 = .ok (.iconst 1, 1) := by decide +kernel
theorem d_Row_add_44 : decode b_Row_add 44 = .ok (.putfield 25, 3) := by decide +kernel
theorem d_Row_add_47 : decode b_Row_add 47 = .ok (.return_, 1) := by decide +kernel
theorem d_Row_get_0 : decode b_Row_get 0 = .ok (.iload_n 1, 1) := by decide +kernel
theorem d_Row_get_1 : decode b_Row_get 1 = .ok (.ifCond .lt 29, 3) := by decide +kernel
theorem d_Row_get_4 : decode b_Row_get 4 = .ok (.iload_n 1, 1) := by decide +kernel
theorem d_Row_get_5 : decode b_Row_get 5 = .ok (.aload_n 0, 1) := by decide +kernel
theorem d_Row_get_6 : decode b_Row_get 6 = .ok (.getfield 21, 3) := by decide +kernel
theorem d_Row_get_9 : decode b_Row_get 9 = .ok (.if_icmp .ge 21, 3) := by decide +kernel
theorem d_Row_get_12 : decode b_Row_get 12 = .ok (.iload_n 1, 1) := by decide +kernel
theorem d_Row_get_13 : decode b_Row_get 13 = .ok (.aload_n 0, 1) := by decide +kernel
theorem d_Row_get_14 : decode b_Row_get 14 = .ok (.getfield 15, 3) := by decide +kernel
theorem d_Row_get_17 : decode b_Row_get 17 = .ok (.arraylength, 1) := by decide +kernel
theorem d_Row_get_18 : decode b_Row_get 18 = .ok (.if_icmp .ge 12, 3) := by decide +kernel
theorem d_Row_get_21 : decode b_Row_get 21 = .ok (.aload_n 0, 1) := by decide +kernel
theorem d_Row_get_22 : decode b_Row_get 22 = .ok (.getfield 15, 3) := by decide +kernel
theorem d_Row_get_25 : decode b_Row_get 25 = .ok (.iload_n 1, 1) := by decide +kernel
theorem d_Row_get_26 : decode b_Row_get 26 = .ok (.iaload, 1) := by decide +kernel
theorem d_Row_get_27 : decode b_Row_get 27 = .ok (.goto 4, 3) := by decide +kernel
theorem d_Row_get_30 : decode b_Row_get 30 = .ok (.iconst (-1), 1) := by decide +kernel
theorem d_Row_get_31 : decode b_Row_get 31 = .ok (.ireturn, 1) := by decide +kernel
theorem d_Row_lineEndsBefore_0 : decode b_Row_lineEndsBefore 0 = .ok (.iconst 0, 1) := by decide +kernel
theorem d_Row_lineEndsBefore_1 : decode b_Row_lineEndsBefore 1 = .ok (.istore_n 2, 1) := by decide +kernel
theorem d_Row_lineEndsBefore_2 : decode b_Row_lineEndsBefore 2 = .ok (.iconst 0, 1) := by decide +kernel
theorem d_Row_lineEndsBefore_3 : decode b_Row_lineEndsBefore 3 = .ok (.istore_n 3, 1) := by decide +kernel
theorem d_Row_lineEndsBefore_4 : decode b_Row_lineEndsBefore 4 = .ok (.iload_n 3, 1) := by decide +kernel
theorem d_Row_lineEndsBefore_5 : decode b_Row_lineEndsBefore 5 = .ok (.iload_n 1, 1) := by decide +kernel
theorem d_Row_lineEndsBefore_6 : decode b_Row_lineEndsBefore 6 = .ok (.if_icmp .ge 30, 3) := by decide +kernel
theorem d_Row_lineEndsBefore_9 : decode b_Row_lineEndsBefore 9 = .ok (.iload_n 3, 1) := by decide +kernel
theorem d_Row_lineEndsBefore_10 : decode b_Row_lineEndsBefore 10 = .ok (.aload_n 0, 1) := by decide +kernel
theorem d_Row_lineEndsBefore_11 : decode b_Row_lineEndsBefore 11 = .ok (.getfield 21, 3) := by decide +kernel
theorem d_Row_lineEndsBefore_14 : decode b_Row_lineEndsBefore 14 = .ok (.if_icmp .ge 22, 3) := by decide +kernel
theorem d_Row_lineEndsBefore_17 : decode b_Row_lineEndsBefore 17 = .ok (.aload_n 0, 1) := by decide +kernel
theorem d_Row_lineEndsBefore_18 : decode b_Row_lineEndsBefore 18 = .ok (.iload_n 3, 1) := by decide +kernel
theorem d_Row_lineEndsBefore_19 : decode b_Row_lineEndsBefore 19 = .ok (.invokevirtual 29, 3) := by decide +kernel
theorem d_Row_lineEndsBefore_22 : decode b_Row_lineEndsBefore 22 = .ok (.bipush 10, 2) := by decide +kernel
theorem d_Row_lineEndsBefore_24 : decode b_Row_lineEndsBefore 24 = .ok (.if_icmp .ne 6, 3) := by decide +kernel
theorem d_Row_lineEndsBefore_27 : decode b_Row_lineEndsBefore 27 = .ok (.iinc 2 1, 3) := by decide +kernel
theorem d_Row_lineEndsBefore_30 : decode b_Row_lineEndsBefore 30 = .ok (.iinc 3 1, 3) := by decide +kernel
theorem d_Row_lineEndsBefore_33 : decode b_Row_lineEndsBefore 33 = .ok (.goto (-29), 3) := by decide +kernel
theorem d_Row_lineEndsBefore_36 : decode b_Row_lineEndsBefore 36 = .ok (.iload_n 2, 1) := by decide +kernel
theorem d_Row_lineEndsBefore_37 : decode b_Row_lineEndsBefore 37 = .ok (.ireturn, 1) := by decide +kernel
set_option maxHeartbeats 4000000 in
set_option maxRecDepth 100000 in
theorem c_Row_room (l : Launch) (D : va_G) (cI : ClassId) (h : Nat) (q : Nat) (cap : Nat) (n : Int) (f : Nat → Int32) (sp : Int) (hn : 0 ≤ n ∧ n ≤ cap ∧ cap < 1000000) : CtI l D [(cI, .int)] y_Row_room b_Row_room 1 (some .int) 0 [.ref h] [(h, .inr (0, [.ref q, .int (iI n), .int (iI sp)])), (q, .inl (cI, cap, .inl f))] (S := Unit) (fun z u => z = (cap : Int) - n) (fun u => [(h, .inr (0, [.ref q, .int (iI n), .int (iI sp)])), (q, .inl (cI, cap, .inl f))]) := by
  refine CtI.walk (fun _ => True) (fun z _ => vp_nar_int _) (by decide) (Nat.le_of_ble_eq_true rfl) ?_
  intro xp xe0 xs xm xar xbelow xmeth xc xA0 xQ xe xb xml xo xt xP xK xD xA xret ls xl xS
  have xl : lv_has ls 1 [(0, .ref h)] := xl
  have xo : xs.vm.findClass R_Row = some xm.cls := xo
  refine lv_aload_n xe xb d_Row_room_0 rfl (lv_at xl 0 rfl) ?_
  refine va_get (D := D) (ci := 0) (v := .ref q) (C := R_Row) (T := F_Row) (N := 3) xe xb xt i_Row xo xK xP 0 rfl rfl 0 (by decide) (xt _ mw_Row_15) (fun _ h9 => h9) rfl d_Row_room_1 ?_
  refine tk_alen xe xb xK xP 1 0 rfl rfl d_Row_room_4 ?_
  refine lv_aload_n xe xb d_Row_room_5 rfl (lv_at xl 0 rfl) ?_
  refine va_get (D := D) (ci := 0) (v := .int (iI n)) (C := R_Row) (T := F_Row) (N := 3) xe xb xt i_Row xo xK xP 0 rfl rfl 1 (by decide) (xt _ mw_Row_21) (fun _ h9 => h9) rfl d_Row_room_6 ?_
  refine tk_isub xe xb d_Row_room_9 ?_
  exact xret _ _ _ _ (((cap : Nat) : Int) - n) () d_Row_room_10 trivial (by omega) rfl xP xD xS
set_option maxHeartbeats 4000000 in
set_option maxRecDepth 100000 in
theorem c_Row_clear (l : Launch) (D : va_G) (cI : ClassId) (h : Nat) (q : Nat) (cap : Nat) (n : Int) (f : Nat → Int32) (sp : Int)  : CtV l D [(cI, .int)] y_Row_clear b_Row_clear 1 0 [.ref h] [(h, .inr (0, [.ref q, .int (iI n), .int (iI sp)])), (q, .inl (cI, cap, .inl f))] (S := Int × Int) (fun u => u.1 = 0 ∧ u.2 = 0) (fun u => [(h, .inr (0, [.ref q, .int (iI u.1), .int (iI u.2)])), (q, .inl (cI, cap, .inl f))]) := by
  refine CtV.walk (by decide) (Nat.le_of_ble_eq_true rfl) ?_
  intro xp xe0 xs xm xar xbelow xmeth xc xA0 xQ xe xb xml xo xt xP xK xD xA xret ls xl xS
  have xl : lv_has ls 1 [(0, .ref h)] := xl
  have xo : xs.vm.findClass R_Row = some xm.cls := xo
  refine lv_aload_n xe xb d_Row_clear_0 rfl (lv_at xl 0 rfl) ?_
  refine lv_iconst (v := iI (0)) xe xb d_Row_clear_1 rfl ?_
  refine va_put (D := D) (ci := 0) (v := .int (iI 0)) (ty := .int) (C := R_Row) (T := F_Row) (N := 3) xe xb xt i_Row t_Row t_Row_ok n_Row xo xK xP xD xS 0 rfl rfl 1 (by decide) (xt _ mw_Row_21) (fun _ h9 => h9) rfl (by decide +kernel) rfl rfl (Nat.le_of_ble_eq_true rfl) d_Row_clear_2 ?_
  clear xP xD xS
  intro H locs xP xD xS
  replace xP : va_P D classes [(h, .inr (0, [.ref q, .int (iI 0), .int (iI sp)])), (q, .inl (cI, cap, .inl f))] H := xP
  replace xD : va_D xA0 [(h, .inr (0, [.ref q, .int (iI 0), .int (iI sp)])), (q, .inl (cI, cap, .inl f))] := xD
  refine lv_aload_n xe xb d_Row_clear_5 rfl (lv_at xl 0 rfl) ?_
  refine lv_iconst (v := iI (0)) xe xb d_Row_clear_6 rfl ?_
  refine va_put (D := D) (ci := 0) (v := .int (iI 0)) (ty := .boolean) (C := R_Row) (T := F_Row) (N := 3) xe xb xt i_Row t_Row t_Row_ok n_Row xo xK xP xD xS 0 rfl rfl 2 (by decide) (xt _ mw_Row_25) (fun _ h9 => h9) rfl (by decide +kernel) (by decide) (by decide) (Nat.le_of_ble_eq_true rfl) d_Row_clear_7 ?_
  clear xP xD xS
  intro H locs xP xD xS
  replace xP : va_P D classes [(h, .inr (0, [.ref q, .int (iI 0), .int (iI 0)])), (q, .inl (cI, cap, .inl f))] H := xP
  replace xD : va_D xA0 [(h, .inr (0, [.ref q, .int (iI 0), .int (iI 0)])), (q, .inl (cI, cap, .inl f))] := xD
  exact xret _ _ _ _ (0, 0) d_Row_clear_10 (by first | exact ⟨rfl, rfl⟩ | (dsimp only; exact ⟨rfl, rfl⟩)) xP xD xS
set_option maxHeartbeats 4000000 in
set_option maxRecDepth 100000 in
theorem c_Row_add (l : Launch) (D : va_G) (cI : ClassId) (h : Nat) (q : Nat) (cap : Nat) (n : Int) (f : Nat → Int32) (sp : Int) (x : Int) (hn : 0 ≤ n ∧ n ≤ cap ∧ cap < 1000000) : CtV l D [(cI, .int)] y_Row_add b_Row_add 2 0 [.ref h, .int (iI x)] [(h, .inr (0, [.ref q, .int (iI n), .int (iI sp)])), (q, .inl (cI, cap, .inl f))] (S := Int × (Nat → Int32) × Int) (fun u => (n < cap ∧ u.1 = n + 1 ∧ u.2.1 = fu f n x ∧ u.2.2 = sp) ∨ ((cap : Int) ≤ n ∧ u.1 = n ∧ u.2.1 = f ∧ u.2.2 = 1)) (fun u => [(h, .inr (0, [.ref q, .int (iI u.1), .int (iI u.2.2)])), (q, .inl (cI, cap, .inl u.2.1))]) := by
  refine CtV.walk (by decide) (Nat.le_of_ble_eq_true rfl) ?_
  intro xp xe0 xs xm xar xbelow xmeth xc xA0 xQ xe xb xml xo xt xP xK xD xA xret ls xl xS
  have xl : lv_has ls 2 [(0, .ref h), (1, .int (iI x))] := xl
  have xo : xs.vm.findClass R_Row = some xm.cls := xo
  refine lv_aload_n xe xb d_Row_add_0 rfl (lv_at xl 0 rfl) ?_
  refine va_get (D := D) (ci := 0) (v := .int (iI n)) (C := R_Row) (T := F_Row) (N := 3) xe xb xt i_Row xo xK xP 0 rfl rfl 1 (by decide) (xt _ mw_Row_21) (fun _ h9 => h9) rfl d_Row_add_1 ?_
  refine tk_if_lt (tgt := 42) xe xb d_Row_add_4 (by decide) (by omega) (fun c_1 => ?_) (fun c_1 => ?_)
  · refine lv_aload_n xe xb d_Row_add_42 rfl (lv_at xl 0 rfl) ?_
    refine lv_iconst (v := iI (1)) xe xb d_Row_add_43 rfl ?_
    refine va_put (D := D) (ci := 0) (v := .int (iI 1)) (ty := .boolean) (C := R_Row) (T := F_Row) (N := 3) xe xb xt i_Row t_Row t_Row_ok n_Row xo xK xP xD xS 0 rfl rfl 2 (by decide) (xt _ mw_Row_25) (fun _ h9 => h9) rfl (by decide +kernel) (by decide) (by decide) (Nat.le_of_ble_eq_true rfl) d_Row_add_44 ?_
    clear xP xD xS
    intro H locs xP xD xS
    replace xP : va_P D classes [(h, .inr (0, [.ref q, .int (iI n), .int (iI 1)])), (q, .inl (cI, cap, .inl f))] H := xP
    replace xD : va_D xA0 [(h, .inr (0, [.ref q, .int (iI n), .int (iI 1)])), (q, .inl (cI, cap, .inl f))] := xD
    exact xret _ _ _ _ (n, f, 1) d_Row_add_47 (by first | exact (by first | exact Or.inl ⟨by omega, rfl, rfl, rfl⟩ | exact Or.inr ⟨by omega, rfl, rfl, rfl⟩) | (dsimp only; exact (by first | exact Or.inl ⟨by omega, rfl, rfl, rfl⟩ | exact Or.inr ⟨by omega, rfl, rfl, rfl⟩))) xP xD xS
  · refine lv_aload_n xe xb d_Row_add_7 rfl (lv_at xl 0 rfl) ?_
    refine va_get (D := D) (ci := 0) (v := .int (iI n)) (C := R_Row) (T := F_Row) (N := 3) xe xb xt i_Row xo xK xP 0 rfl rfl 1 (by decide) (xt _ mw_Row_21) (fun _ h9 => h9) rfl d_Row_add_8 ?_
    refine lv_aload_n xe xb d_Row_add_11 rfl (lv_at xl 0 rfl) ?_
    refine va_get (D := D) (ci := 0) (v := .ref q) (C := R_Row) (T := F_Row) (N := 3) xe xb xt i_Row xo xK xP 0 rfl rfl 0 (by decide) (xt _ mw_Row_15) (fun _ h9 => h9) rfl d_Row_add_12 ?_
    refine tk_alen xe xb xK xP 1 0 rfl rfl d_Row_add_15 ?_
    refine tk_icmp_ge (tgt := 42) xe xb d_Row_add_16 (by decide) (by omega) (fun c_2 => ?_) (fun c_2 => ?_)
    · refine lv_aload_n xe xb d_Row_add_42 rfl (lv_at xl 0 rfl) ?_
      refine lv_iconst (v := iI (1)) xe xb d_Row_add_43 rfl ?_
      refine va_put (D := D) (ci := 0) (v := .int (iI 1)) (ty := .boolean) (C := R_Row) (T := F_Row) (N := 3) xe xb xt i_Row t_Row t_Row_ok n_Row xo xK xP xD xS 0 rfl rfl 2 (by decide) (xt _ mw_Row_25) (fun _ h9 => h9) rfl (by decide +kernel) (by decide) (by decide) (Nat.le_of_ble_eq_true rfl) d_Row_add_44 ?_
      clear xP xD xS
      intro H locs xP xD xS
      replace xP : va_P D classes [(h, .inr (0, [.ref q, .int (iI n), .int (iI 1)])), (q, .inl (cI, cap, .inl f))] H := xP
      replace xD : va_D xA0 [(h, .inr (0, [.ref q, .int (iI n), .int (iI 1)])), (q, .inl (cI, cap, .inl f))] := xD
      exact xret _ _ _ _ (n, f, 1) d_Row_add_47 (by first | exact (by first | exact Or.inl ⟨by omega, rfl, rfl, rfl⟩ | exact Or.inr ⟨by omega, rfl, rfl, rfl⟩) | (dsimp only; exact (by first | exact Or.inl ⟨by omega, rfl, rfl, rfl⟩ | exact Or.inr ⟨by omega, rfl, rfl, rfl⟩))) xP xD xS
    · refine lv_aload_n xe xb d_Row_add_19 rfl (lv_at xl 0 rfl) ?_
      refine va_get (D := D) (ci := 0) (v := .ref q) (C := R_Row) (T := F_Row) (N := 3) xe xb xt i_Row xo xK xP 0 rfl rfl 0 (by decide) (xt _ mw_Row_15) (fun _ h9 => h9) rfl d_Row_add_20 ?_
      refine lv_aload_n xe xb d_Row_add_23 rfl (lv_at xl 0 rfl) ?_
      refine va_get (D := D) (ci := 0) (v := .int (iI n)) (C := R_Row) (T := F_Row) (N := 3) xe xb xt i_Row xo xK xP 0 rfl rfl 1 (by decide) (xt _ mw_Row_21) (fun _ h9 => h9) rfl d_Row_add_24 ?_
      refine lv_iload_n xe xb d_Row_add_27 rfl (lv_at xl 1 rfl) ?_
      refine tk_iast xe xb xK xP xD xS 1 0 rfl rfl (by omega) d_Row_add_28 ?_
      clear xP xD xS
      intro H locs xP xD xS
      replace xP : va_P D classes [(h, .inr (0, [.ref q, .int (iI n), .int (iI sp)])), (q, .inl (cI, cap, .inl (fu f n x)))] H := xP
      replace xD : va_D xA0 [(h, .inr (0, [.ref q, .int (iI n), .int (iI sp)])), (q, .inl (cI, cap, .inl (fu f n x)))] := xD
      refine lv_aload_n xe xb d_Row_add_29 rfl (lv_at xl 0 rfl) ?_
      refine lv_dup xe xb d_Row_add_30 rfl ?_
      refine va_get (D := D) (ci := 0) (v := .int (iI n)) (C := R_Row) (T := F_Row) (N := 3) xe xb xt i_Row xo xK xP 0 rfl rfl 1 (by decide) (xt _ mw_Row_21) (fun _ h9 => h9) rfl d_Row_add_31 ?_
      refine lv_iconst (v := iI (1)) xe xb d_Row_add_34 rfl ?_
      refine tk_iadd xe xb d_Row_add_35 ?_
      refine va_put (D := D) (ci := 0) (v := .int (iI (n + 1))) (ty := .int) (C := R_Row) (T := F_Row) (N := 3) xe xb xt i_Row t_Row t_Row_ok n_Row xo xK xP xD xS 0 rfl rfl 1 (by decide) (xt _ mw_Row_21) (fun _ h9 => h9) rfl (by decide +kernel) rfl rfl (Nat.le_of_ble_eq_true rfl) d_Row_add_36 ?_
      clear xP xD xS
      intro H locs xP xD xS
      replace xP : va_P D classes [(h, .inr (0, [.ref q, .int (iI (n + 1)), .int (iI sp)])), (q, .inl (cI, cap, .inl (fu f n x)))] H := xP
      replace xD : va_D xA0 [(h, .inr (0, [.ref q, .int (iI (n + 1)), .int (iI sp)])), (q, .inl (cI, cap, .inl (fu f n x)))] := xD
      refine lv_goto (tgt := 47) xe xb d_Row_add_39 (by decide) ?_
      exact xret _ _ _ _ ((n + 1), (fu f n x), sp) d_Row_add_47 (by first | exact (by first | exact Or.inl ⟨by omega, rfl, rfl, rfl⟩ | exact Or.inr ⟨by omega, rfl, rfl, rfl⟩) | (dsimp only; exact (by first | exact Or.inl ⟨by omega, rfl, rfl, rfl⟩ | exact Or.inr ⟨by omega, rfl, rfl, rfl⟩))) xP xD xS
set_option maxHeartbeats 4000000 in
set_option maxRecDepth 100000 in
theorem c_Row_get (l : Launch) (D : va_G) (cI : ClassId) (h : Nat) (q : Nat) (cap : Nat) (n : Int) (f : Nat → Int32) (sp : Int) (i : Int) (hn : 0 ≤ n ∧ n ≤ cap ∧ cap < 1000000) (hi : -2147483648 ≤ i ∧ i < 2147483648) : CtI l D [(cI, .int)] y_Row_get b_Row_get 2 (some .int) 0 [.ref h, .int (iI i)] [(h, .inr (0, [.ref q, .int (iI n), .int (iI sp)])), (q, .inl (cI, cap, .inl f))] (S := Unit) (fun z u => z = rd (lst (tI f) n) i) (fun u => [(h, .inr (0, [.ref q, .int (iI n), .int (iI sp)])), (q, .inl (cI, cap, .inl f))]) := by
  refine CtI.walk (fun _ => True) (fun z _ => vp_nar_int _) (by decide) (Nat.le_of_ble_eq_true rfl) ?_
  intro xp xe0 xs xm xar xbelow xmeth xc xA0 xQ xe xb xml xo xt xP xK xD xA xret ls xl xS
  have xl : lv_has ls 2 [(0, .ref h), (1, .int (iI i))] := xl
  have xo : xs.vm.findClass R_Row = some xm.cls := xo
  refine lv_iload_n xe xb d_Row_get_0 rfl (lv_at xl 1 rfl) ?_
  refine tk_if_lt (tgt := 30) xe xb d_Row_get_1 (by decide) (by omega) (fun c_1 => ?_) (fun c_1 => ?_)
  · refine lv_iconst (v := iI (-1)) xe xb d_Row_get_30 rfl ?_
    exact xret _ _ _ _ (-1) () d_Row_get_31 trivial (by omega) (by first | exact (rd_in (by omega)).symm | exact (rd_out (by omega)).symm) xP xD xS
  · refine lv_iload_n xe xb d_Row_get_4 rfl (lv_at xl 1 rfl) ?_
    refine lv_aload_n xe xb d_Row_get_5 rfl (lv_at xl 0 rfl) ?_
    refine va_get (D := D) (ci := 0) (v := .int (iI n)) (C := R_Row) (T := F_Row) (N := 3) xe xb xt i_Row xo xK xP 0 rfl rfl 1 (by decide) (xt _ mw_Row_21) (fun _ h9 => h9) rfl d_Row_get_6 ?_
    refine tk_icmp_ge (tgt := 30) xe xb d_Row_get_9 (by decide) (by omega) (fun c_2 => ?_) (fun c_2 => ?_)
    · refine lv_iconst (v := iI (-1)) xe xb d_Row_get_30 rfl ?_
      exact xret _ _ _ _ (-1) () d_Row_get_31 trivial (by omega) (by first | exact (rd_in (by omega)).symm | exact (rd_out (by omega)).symm) xP xD xS
    · refine lv_iload_n xe xb d_Row_get_12 rfl (lv_at xl 1 rfl) ?_
      refine lv_aload_n xe xb d_Row_get_13 rfl (lv_at xl 0 rfl) ?_
      refine va_get (D := D) (ci := 0) (v := .ref q) (C := R_Row) (T := F_Row) (N := 3) xe xb xt i_Row xo xK xP 0 rfl rfl 0 (by decide) (xt _ mw_Row_15) (fun _ h9 => h9) rfl d_Row_get_14 ?_
      refine tk_alen xe xb xK xP 1 0 rfl rfl d_Row_get_17 ?_
      refine tk_icmp_ge (tgt := 30) xe xb d_Row_get_18 (by decide) (by omega) (fun c_3 => ?_) (fun c_3 => ?_)
      · refine lv_iconst (v := iI (-1)) xe xb d_Row_get_30 rfl ?_
        exact xret _ _ _ _ (-1) () d_Row_get_31 trivial (by omega) (by first | exact (rd_in (by omega)).symm | exact (rd_out (by omega)).symm) xP xD xS
      · refine lv_aload_n xe xb d_Row_get_21 rfl (lv_at xl 0 rfl) ?_
        refine va_get (D := D) (ci := 0) (v := .ref q) (C := R_Row) (T := F_Row) (N := 3) xe xb xt i_Row xo xK xP 0 rfl rfl 0 (by decide) (xt _ mw_Row_15) (fun _ h9 => h9) rfl d_Row_get_22 ?_
        refine lv_iload_n xe xb d_Row_get_25 rfl (lv_at xl 1 rfl) ?_
        refine tk_iald xe xb xK xP 1 0 rfl rfl (by omega) d_Row_get_26 ?_
        have hr_4 := tI_rg f i
        refine lv_goto (tgt := 31) xe xb d_Row_get_27 (by decide) ?_
        exact xret _ _ _ _ (tI f i) () d_Row_get_31 trivial (by omega) (by first | exact (rd_in (by omega)).symm | exact (rd_out (by omega)).symm) xP xD xS
set_option maxHeartbeats 4000000 in
set_option maxRecDepth 100000 in
theorem c_Row_lineEndsBefore (l : Launch) (D : va_G) (cI : ClassId) (h : Nat) (q : Nat) (cap : Nat) (n : Int) (f : Nat → Int32) (sp : Int) (e0 : Int) (hn : 0 ≤ n ∧ n ≤ cap ∧ cap < 1000000) (he : 0 ≤ e0 ∧ e0 < 2147483648) : CtI l D [(cI, .int)] y_Row_lineEndsBefore b_Row_lineEndsBefore 4 (some .int) 1 [.ref h, .int (iI e0)] [(h, .inr (0, [.ref q, .int (iI n), .int (iI sp)])), (q, .inl (cI, cap, .inl f))] (S := Unit) (fun z u => z = cnt (tI f) (if e0 ≤ n then e0 else n)) (fun u => [(h, .inr (0, [.ref q, .int (iI n), .int (iI sp)])), (q, .inl (cI, cap, .inl f))]) := by
  refine CtI.walk (fun _ => True) (fun z _ => vp_nar_int _) (by decide) (Nat.le_of_ble_eq_true rfl) ?_
  intro xp xe0 xs xm xar xbelow xmeth xc xA0 xQ xe xb xml xo xt xP xK xD xA xret ls xl xS
  have xl : lv_has ls 4 [(0, .ref h), (1, .int (iI e0))] := xl
  have xo : xs.vm.findClass R_Row = some xm.cls := xo
  refine lv_iconst (v := iI (0)) xe xb d_Row_lineEndsBefore_0 rfl ?_
  refine lv_istore_n (lv' := [(2, .int (iI 0)), (0, .ref h), (1, .int (iI e0))]) xe xb d_Row_lineEndsBefore_1 rfl xl (by decide) rfl ?_
  clear xl
  intro ls xl
  refine lv_iconst (v := iI (0)) xe xb d_Row_lineEndsBefore_2 rfl ?_
  refine lv_istore_n (lv' := [(3, .int (iI 0)), (2, .int (iI 0)), (0, .ref h), (1, .int (iI e0))]) xe xb d_Row_lineEndsBefore_3 rfl xl (by decide) rfl ?_
  clear xl
  intro ls xl
  have loop_4 : ∀ (n9 : Nat) (k : Int) (i : Int), (n - i).toNat < n9 → (k = cnt (tI f) i) → (0 ≤ i ∧ i ≤ n ∧ i ≤ e0) → ∀ (H : Heap) (locs : List Loc), va_P D classes [(h, .inr (0, [.ref q, .int (iI n), .int (iI sp)])), (q, .inl (cI, cap, .inl f))] H → va_D xA0 [(h, .inr (0, [.ref q, .int (iI n), .int (iI sp)])), (q, .inl (cI, cap, .inl f))] → va_S xA0 xs.heap H locs → ∀ ls : Array Slot, lv_has ls 4 [(0, .ref h), (1, .int (iI e0)), (2, .int (iI k)), (3, .int (iI i))] → W xp l xe0 (tk_rm 1) xs xm xar xbelow xmeth xc H locs 0 0 xQ (F0 xm 4 ls []) := by
    intro n9
    induction n9 with
    | zero => intro k i h9; exact absurd h9 (Nat.not_lt_zero _)
    | succ n9 ih9 =>
      intro k i hm9 hk hi H locs xP xD xS ls xl
      have ih_4 := ih9
      have hm_4 := hm9
      have hc := cnt_le (tI f) hi.1
      refine lv_iload_n xe xb d_Row_lineEndsBefore_4 rfl (lv_at xl 3 rfl) ?_
      refine lv_iload_n xe xb d_Row_lineEndsBefore_5 rfl (lv_at xl 1 rfl) ?_
      refine tk_icmp_ge (tgt := 36) xe xb d_Row_lineEndsBefore_6 (by decide) (by omega) (fun c_1 => ?_) (fun c_1 => ?_)
      · refine lv_iload_n xe xb d_Row_lineEndsBefore_36 rfl (lv_at xl 2 rfl) ?_
        exact xret _ _ _ _ k () d_Row_lineEndsBefore_37 trivial (by omega) (by rw [hk]; split <;> (congr 1; omega)) xP xD xS
      · refine lv_iload_n xe xb d_Row_lineEndsBefore_9 rfl (lv_at xl 3 rfl) ?_
        refine lv_aload_n xe xb d_Row_lineEndsBefore_10 rfl (lv_at xl 0 rfl) ?_
        refine va_get (D := D) (ci := 0) (v := .int (iI n)) (C := R_Row) (T := F_Row) (N := 3) xe xb xt i_Row xo xK xP 0 rfl rfl 1 (by decide) (xt _ mw_Row_21) (fun _ h9 => h9) rfl d_Row_lineEndsBefore_11 ?_
        refine tk_icmp_ge (tgt := 36) xe xb d_Row_lineEndsBefore_14 (by decide) (by omega) (fun c_2 => ?_) (fun c_2 => ?_)
        · refine lv_iload_n xe xb d_Row_lineEndsBefore_36 rfl (lv_at xl 2 rfl) ?_
          exact xret _ _ _ _ k () d_Row_lineEndsBefore_37 trivial (by omega) (by rw [hk]; split <;> (congr 1; omega)) xP xD xS
        · refine lv_aload_n xe xb d_Row_lineEndsBefore_17 rfl (lv_at xl 0 rfl) ?_
          refine lv_iload_n xe xb d_Row_lineEndsBefore_18 rfl (lv_at xl 3 rfl) ?_
          refine tk_callVi (As := [.int (iI i)]) (rest := []) (wr := []) (wn := fun u => [(h, .inr (0, [.ref q, .int (iI n), .int (iI sp)])), (q, .inl (cI, cap, .inl f))]) ⟨xe, xb, xml, xo, xt⟩ (c_Row_get l D cI h q cap n f sp i (by first | assumption | omega) (by first | assumption | omega)) k_Row_get mw_Row_29 ⟨Nat.le_of_ble_eq_true rfl, Nat.le_of_ble_eq_true rfl⟩ xK xP xD xS xA rfl xl.1 rfl (Nat.le_of_ble_eq_true rfl) d_Row_lineEndsBefore_19 ⟨Nat.zero_le _, Nat.zero_le _⟩ [0, 1] [] [0, 1] rfl rfl (by decide) (by decide) (by decide) (by decide) (fun _ => rfl) rfl rfl rfl ?_
          clear xP xD xS
          intro z_4 u H locs hr_5 hw_3 xP xD xS
          try dsimp only at hw_3
          replace xP : va_P D classes [(h, .inr (0, [.ref q, .int (iI n), .int (iI sp)])), (q, .inl (cI, cap, .inl f))] H := xP
          replace xD : va_D xA0 [(h, .inr (0, [.ref q, .int (iI n), .int (iI sp)])), (q, .inl (cI, cap, .inl f))] := xD
          have hz : z_4 = tI f i := hw_3.trans (rd_in (by omega))
          refine lv_bipush (v := iI (10)) xe xb d_Row_lineEndsBefore_22 (by decide) ?_
          refine tk_icmp_ne (tgt := 30) xe xb d_Row_lineEndsBefore_24 (by decide) (by omega) (fun c_6 => ?_) (fun c_6 => ?_)
          · refine tk_iinc (v := (i + 1)) (lv' := [(3, .int (iI (i + 1))), (0, .ref h), (1, .int (iI e0)), (2, .int (iI k))]) xe xb d_Row_lineEndsBefore_30 xl (k := 3) rfl rfl (by decide) rfl ?_
            clear xl
            intro ls xl
            refine lv_goto (tgt := 4) xe xb d_Row_lineEndsBefore_33 (by decide) ?_
            exact ih_4 k (i + 1) (by omega) (by rw [cnt_succ _ hi.1, hk, ← hz]; split <;> omega) (by first | assumption | omega) _ _ xP xD xS ls (lv_sub xl [1, 2, 3, 0] rfl)
          · refine tk_iinc (v := (k + 1)) (lv' := [(2, .int (iI (k + 1))), (0, .ref h), (1, .int (iI e0)), (3, .int (iI i))]) xe xb d_Row_lineEndsBefore_27 xl (k := 2) rfl rfl (by decide) rfl ?_
            clear xl
            intro ls xl
            refine tk_iinc (v := (i + 1)) (lv' := [(3, .int (iI (i + 1))), (2, .int (iI (k + 1))), (0, .ref h), (1, .int (iI e0))]) xe xb d_Row_lineEndsBefore_30 xl (k := 3) rfl rfl (by decide) rfl ?_
            clear xl
            intro ls xl
            refine lv_goto (tgt := 4) xe xb d_Row_lineEndsBefore_33 (by decide) ?_
            exact ih_4 (k + 1) (i + 1) (by omega) (by rw [cnt_succ _ hi.1, hk, ← hz]; split <;> omega) (by first | assumption | omega) _ _ xP xD xS ls (lv_sub xl [2, 3, 1, 0] rfl)
  exact loop_4 _ 0 0 (Nat.lt_succ_self _) (cnt_0 _ (by omega)).symm (by first | assumption | omega) _ _ xP xD xS ls (lv_sub xl [2, 3, 1, 0] rfl)
