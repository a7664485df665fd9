theorem d_Reader_peek_0 : decode b_Reader_peek 0 = .ok (.aload_n 0, 1) := by decide +kernel
theorem d_Reader_peek_1 : decode b_Reader_peek 1 = .ok (.getfield 9, 3) := by decide +kernel
theorem d_Reader_peek_4 : decode b_Reader_peek 4 = .ok (.aload_n 0, 1) := by decide +kernel
theorem d_Reader_peek_5 : decode b_Reader_peek 5 = .ok (.getfield 40, 3) := by decide +kernel
theorem d_Reader_peek_8 : decode b_Reader_peek 8 = .ok (.invokevirtual 106, 3) := by decide +kernel
theorem d_Reader_peek_11 : decode b_Reader_peek 11 = .ok (.ireturn, 1) := by decide +kernel
theorem d_Reader_refuse_0 : decode b_Reader_refuse 0 = .ok (.aload_n 0, 1) := by decide +kernel
theorem d_Reader_refuse_1 : decode b_Reader_refuse 1 = .ok (.getfield 47, 3) := by decide +kernel
theorem d_Reader_refuse_4 : decode b_Reader_refuse 4 = .ok (.iconst (-1), 1) := by decide +kernel
theorem d_Reader_refuse_5 : decode b_Reader_refuse 5 = .ok (.if_icmp .ne 8, 3) := by decide +kernel
theorem d_Reader_refuse_8 : decode b_Reader_refuse 8 = .ok (.aload_n 0, 1) := by decide +kernel
theorem d_Reader_refuse_9 : decode b_Reader_refuse 9 = .ok (.iload_n 1, 1) := by decide +kernel
theorem d_Reader_refuse_10 : decode b_Reader_refuse 10 = .ok (.putfield 47, 3) := by decide +kernel
theorem d_Reader_refuse_13 : decode b_Reader_refuse 13 = .ok (.aload_n 0, 1) := by decide +kernel
theorem d_Reader_refuse_14 : decode b_Reader_refuse 14 = .ok (.aload_n 0, 1) := by decide +kernel
theorem d_Reader_refuse_15 : decode b_Reader_refuse 15 = .ok (.getfield 9, 3) := by decide +kernel
theorem d_Reader_refuse_18 : decode b_Reader_refuse 18 = .ok (.getfield 112, 3) := by decide +kernel
theorem d_Reader_refuse_21 : decode b_Reader_refuse 21 = .ok (.putfield 40, 3) := by decide +kernel
theorem d_Reader_refuse_24 : decode b_Reader_refuse 24 = .ok (.return_, 1) := by decide +kernel
theorem d_Reader_take_0 : decode b_Reader_take 0 = .ok (.aload_n 0, 1) := by decide +kernel
theorem d_Reader_take_1 : decode b_Reader_take 1 = .ok (.getfield 9, 3) := by decide +kernel
theorem d_Reader_take_4 : decode b_Reader_take 4 = .ok (.aload_n 0, 1) := by decide +kernel
theorem d_Reader_take_5 : decode b_Reader_take 5 = .ok (.getfield 40, 3) := by decide +kernel
theorem d_Reader_take_8 : decode b_Reader_take 8 = .ok (.invokevirtual 106, 3) := by decide +kernel
theorem d_Reader_take_11 : decode b_Reader_take 11 = .ok (.iload_n 1, 1) := by decide +kernel
theorem d_Reader_take_12 : decode b_Reader_take 12 = .ok (.if_icmp .ne 16, 3) := by decide +kernel
theorem d_Reader_take_15 : decode b_Reader_take 15 = .ok (.aload_n 0, 1) := by decide +kernel
theorem d_Reader_take_16 : decode b_Reader_take 16 = .ok (.dup, 1) := by decide +kernel
theorem d_Reader_take_17 : decode b_Reader_take 17 = .ok (.getfield 40, 3) := by decide +kernel
theorem d_Reader_take_20 : decode b_Reader_take 20 = .ok (.iconst 1, 1) := by decide +kernel
theorem d_Reader_take_21 : decode b_Reader_take 21 = .ok (.iadd, 1) := by decide +kernel
theorem d_Reader_take_22 : decode b_Reader_take 22 = .ok (.putfield 40, 3) := by decide +kernel
theorem d_Reader_take_25 : decode b_Reader_take 25 = .ok (.goto 11, 3) := by decide +kernel
theorem d_Reader_take_28 : decode b_Reader_take 28 = .ok (.aload_n 0, 1) := by decide +kernel
theorem d_Reader_take_29 : decode b_Reader_take 29 = .ok (.aload_n 0, 1) := by decide +kernel
theorem d_Reader_take_30 : decode b_Reader_take 30 = .ok (.getfield 40, 3) := by decide +kernel
theorem d_Reader_take_33 : decode b_Reader_take 33 = .ok (.invokevirtual 97, 3) := by decide +kernel
theorem d_Reader_take_36 : decode b_Reader_take 36 = .ok (.return_, 1) := by decide +kernel
theorem d_Reader_skipBlanks_0 : decode b_Reader_skipBlanks 0 = .ok (.aload_n 0, 1) := by decide +kernel
theorem d_Reader_skipBlanks_1 : decode b_Reader_skipBlanks 1 = .ok (.getfield 40, 3) := by decide +kernel
theorem d_Reader_skipBlanks_4 : decode b_Reader_skipBlanks 4 = .ok (.aload_n 0, 1) := by decide +kernel
theorem d_Reader_skipBlanks_5 : decode b_Reader_skipBlanks 5 = .ok (.getfield 9, 3) := by decide +kernel
theorem d_Reader_skipBlanks_8 : decode b_Reader_skipBlanks 8 = .ok (.getfield 112, 3) := by decide +kernel
theorem d_Reader_skipBlanks_11 : decode b_Reader_skipBlanks 11 = .ok (.if_icmp .ge 26, 3) := by decide +kernel
theorem d_Reader_skipBlanks_14 : decode b_Reader_skipBlanks 14 = .ok (.aload_n 0, 1) := by decide +kernel
theorem d_Reader_skipBlanks_15 : decode b_Reader_skipBlanks 15 = .ok (.invokevirtual 61, 3) := by decide +kernel
theorem d_Reader_skipBlanks_18 : decode b_Reader_skipBlanks 18 = .ok (.invokestatic 153, 3) := by decide +kernel
theorem d_Reader_skipBlanks_21 : decode b_Reader_skipBlanks 21 = .ok (.ifCond .eq 16, 3) := by decide +kernel
theorem d_Reader_skipBlanks_24 : decode b_Reader_skipBlanks 24 = .ok (.aload_n 0, 1) := by decide +kernel
theorem d_Reader_skipBlanks_25 : decode b_Reader_skipBlanks 25 = .ok (.dup, 1) := by decide +kernel
theorem d_Reader_skipBlanks_26 : decode b_Reader_skipBlanks 26 = .ok (.getfield 40, 3) := by decide +kernel
theorem d_Reader_skipBlanks_29 : decode b_Reader_skipBlanks 29 = .ok (.iconst 1, 1) := by decide +kernel
theorem d_Reader_skipBlanks_30 : decode b_Reader_skipBlanks 30 = .ok (.iadd, 1) := by decide +kernel
theorem d_Reader_skipBlanks_31 : decode b_Reader_skipBlanks 31 = .ok (.putfield 40, 3) := by decide +kernel
theorem d_Reader_skipBlanks_34 : decode b_Reader_skipBlanks 34 = .ok (.goto (-34), 3) := by decide +kernel
theorem d_Reader_skipBlanks_37 : decode b_Reader_skipBlanks 37 = .ok (.return_, 1) := by decide +kernel
theorem d_Reader_skipComment_0 : decode b_Reader_skipComment 0 = .ok (.aload_n 0, 1) := by decide +kernel
theorem d_Reader_skipComment_1 : decode b_Reader_skipComment 1 = .ok (.getfield 40, 3) := by decide +kernel
theorem d_Reader_skipComment_4 : decode b_Reader_skipComment 4 = .ok (.aload_n 0, 1) := by decide +kernel
theorem d_Reader_skipComment_5 : decode b_Reader_skipComment 5 = .ok (.getfield 9, 3) := by decide +kernel
theorem d_Reader_skipComment_8 : decode b_Reader_skipComment 8 = .ok (.getfield 112, 3) := by decide +kernel
theorem d_Reader_skipComment_11 : decode b_Reader_skipComment 11 = .ok (.if_icmp .ge 25, 3) := by decide +kernel
theorem d_Reader_skipComment_14 : decode b_Reader_skipComment 14 = .ok (.aload_n 0, 1) := by decide +kernel
theorem d_Reader_skipComment_15 : decode b_Reader_skipComment 15 = .ok (.invokevirtual 61, 3) := by decide +kernel
theorem d_Reader_skipComment_18 : decode b_Reader_skipComment 18 = .ok (.bipush 10, 2) := by decide +kernel
theorem d_Reader_skipComment_20 : decode b_Reader_skipComment 20 = .ok (.if_icmp .eq 16, 3) := by decide +kernel
theorem d_Reader_skipComment_23 : decode b_Reader_skipComment 23 = .ok (.aload_n 0, 1) := by decide +kernel
theorem d_Reader_skipComment_24 : decode b_Reader_skipComment 24 = .ok (.dup, 1) := by decide +kernel
theorem d_Reader_skipComment_25 : decode b_Reader_skipComment 25 = .ok (.getfield 40, 3) := by decide +kernel
theorem d_Reader_skipComment_28 : decode b_Reader_skipComment 28 = .ok (.iconst 1, 1) := by decide +kernel
theorem d_Reader_skipComment_29 : decode b_Reader_skipComment 29 = .ok (.iadd, 1) := by decide +kernel
theorem d_Reader_skipComment_30 : decode b_Reader_skipComment 30 = .ok (.putfield 40, 3) := by decide +kernel
theorem d_Reader_skipComment_33 : decode b_Reader_skipComment 33 = .ok (.goto (-33), 3) := by decide +kernel
theorem d_Reader_skipComment_36 : decode b_Reader_skipComment 36 = .ok (.return_, 1) := by decide +kernel
theorem d_Reader_nameEnd_0 : decode b_Reader_nameEnd 0 = .ok (.aload_n 0, 1) := by decide +kernel
theorem d_Reader_nameEnd_1 : decode b_Reader_nameEnd 1 = .ok (.invokevirtual 61, 3) := by decide +kernel
theorem d_Reader_nameEnd_4 : decode b_Reader_nameEnd 4 = .ok (.istore_n 1, 1) := by decide +kernel
theorem d_Reader_nameEnd_5 : decode b_Reader_nameEnd 5 = .ok (.aload_n 0, 1) := by decide +kernel
theorem d_Reader_nameEnd_6 : decode b_Reader_nameEnd 6 = .ok (.getfield 40, 3) := by decide +kernel
theorem d_Reader_nameEnd_9 : decode b_Reader_nameEnd 9 = .ok (.istore_n 2, 1) := by decide +kernel
theorem d_Reader_nameEnd_10 : decode b_Reader_nameEnd 10 = .ok (.iload_n 1, 1) := by decide +kernel
theorem d_Reader_nameEnd_11 : decode b_Reader_nameEnd 11 = .ok (.bipush 45, 2) := by decide +kernel
theorem d_Reader_nameEnd_13 : decode b_Reader_nameEnd 13 = .ok (.if_icmp .eq 9, 3) := by decide +kernel
theorem d_Reader_nameEnd_16 : decode b_Reader_nameEnd 16 = .ok (.iload_n 1, 1) := by decide +kernel
theorem d_Reader_nameEnd_17 : decode b_Reader_nameEnd 17 = .ok (.bipush 46, 2) := by decide +kernel
theorem d_Reader_nameEnd_19 : decode b_Reader_nameEnd 19 = .ok (.if_icmp .ne 5, 3) := by decide +kernel
theorem d_Reader_nameEnd_22 : decode b_Reader_nameEnd 22 = .ok (.iload_n 2, 1) := by decide +kernel
theorem d_Reader_nameEnd_23 : decode b_Reader_nameEnd 23 = .ok (.ireturn, 1) := by decide +kernel
theorem d_Reader_nameEnd_24 : decode b_Reader_nameEnd 24 = .ok (.aload_n 0, 1) := by decide +kernel
theorem d_Reader_nameEnd_25 : decode b_Reader_nameEnd 25 = .ok (.getfield 40, 3) := by decide +kernel
theorem d_Reader_nameEnd_28 : decode b_Reader_nameEnd 28 = .ok (.istore_n 3, 1) := by decide +kernel
theorem d_Reader_nameEnd_29 : decode b_Reader_nameEnd 29 = .ok (.iload_n 3, 1) := by decide +kernel
theorem d_Reader_nameEnd_30 : decode b_Reader_nameEnd 30 = .ok (.aload_n 0, 1) := by decide +kernel
theorem d_Reader_nameEnd_31 : decode b_Reader_nameEnd 31 = .ok (.getfield 9, 3) := by decide +kernel
theorem d_Reader_nameEnd_34 : decode b_Reader_nameEnd 34 = .ok (.getfield 112, 3) := by decide +kernel
theorem d_Reader_nameEnd_37 : decode b_Reader_nameEnd 37 = .ok (.if_icmp .ge 40, 3) := by decide +kernel
theorem d_Reader_nameEnd_40 : decode b_Reader_nameEnd 40 = .ok (.aload_n 0, 1) := by decide +kernel
theorem d_Reader_nameEnd_41 : decode b_Reader_nameEnd 41 = .ok (.getfield 9, 3) := by decide +kernel
theorem d_Reader_nameEnd_44 : decode b_Reader_nameEnd 44 = .ok (.iload_n 3, 1) := by decide +kernel
theorem d_Reader_nameEnd_45 : decode b_Reader_nameEnd 45 = .ok (.invokevirtual 106, 3) := by decide +kernel
theorem d_Reader_nameEnd_48 : decode b_Reader_nameEnd 48 = .ok (.invokestatic 115, 3) := by decide +kernel
theorem d_Reader_nameEnd_51 : decode b_Reader_nameEnd 51 = .ok (.ifCond .eq 26, 3) := by decide +kernel
theorem d_Reader_nameEnd_54 : decode b_Reader_nameEnd 54 = .ok (.aload_n 0, 1) := by decide +kernel
theorem d_Reader_nameEnd_55 : decode b_Reader_nameEnd 55 = .ok (.getfield 9, 3) := by decide +kernel
theorem d_Reader_nameEnd_58 : decode b_Reader_nameEnd 58 = .ok (.iload_n 3, 1) := by decide +kernel
theorem d_Reader_nameEnd_59 : decode b_Reader_nameEnd 59 = .ok (.invokevirtual 106, 3) := by decide +kernel
theorem d_Reader_nameEnd_62 : decode b_Reader_nameEnd 62 = .ok (.bipush 46, 2) := by decide +kernel
theorem d_Reader_nameEnd_64 : decode b_Reader_nameEnd 64 = .ok (.if_icmp .eq 7, 3) := by decide +kernel
theorem d_Reader_nameEnd_67 : decode b_Reader_nameEnd 67 = .ok (.iload_n 3, 1) := by decide +kernel
theorem d_Reader_nameEnd_68 : decode b_Reader_nameEnd 68 = .ok (.iconst 1, 1) := by decide +kernel
theorem d_Reader_nameEnd_69 : decode b_Reader_nameEnd 69 = .ok (.iadd, 1) := by decide +kernel
theorem d_Reader_nameEnd_70 : decode b_Reader_nameEnd 70 = .ok (.istore_n 2, 1) := by decide +kernel
theorem d_Reader_nameEnd_71 : decode b_Reader_nameEnd 71 = .ok (.iinc 3 1, 3) := by decide +kernel
theorem d_Reader_nameEnd_74 : decode b_Reader_nameEnd 74 = .ok (.goto (-45), 3) := by decide +kernel
theorem d_Reader_nameEnd_77 : decode b_Reader_nameEnd 77 = .ok (.iload_n 2, 1) := by decide +kernel
theorem d_Reader_nameEnd_78 : decode b_Reader_nameEnd 78 = .ok (.ireturn, 1) := by decide +kernel
set_option maxHeartbeats 4000000 in
set_option maxRecDepth 100000 in
theorem c_Reader_peek (l : Launch) (D : va_G) (cI : ClassId) (hr : Nat) (ht : Nat) (hT : Nat) (hQ : Nat) (hx : Nat) (hy : Nat) (hg : Nat) (hn : Nat) (p : Int) (bh : Int) (f : Int) (qt : Nat) (ct : Nat) (nt : Int) (ft : Nat → Int32) (st : Int) (h0 : 0 ≤ nt ∧ nt ≤ ct ∧ ct < 1000000) (hB : byt (lst (tI ft) nt)) (hp : 0 ≤ p ∧ p ≤ nt) : CtI l D [(cI, .int)] y_Reader_peek b_Reader_peek 1 (some .int) 1 [.ref hr] [(hr, .inr (3, [.ref ht, .ref hT, .ref hQ, .ref hx, .ref hy, .ref hg, .ref hn, .int (iI p), .int (iI bh), .int (iI f)])), (ht, .inr (0, [.ref qt, .int (iI nt), .int (iI st)])), (qt, .inl (cI, ct, .inl ft))] (S := Unit) (fun z u => z = rd (lst (tI ft) nt) p) (fun u => [(hr, .inr (3, [.ref ht, .ref hT, .ref hQ, .ref hx, .ref hy, .ref hg, .ref hn, .int (iI p), .int (iI bh), .int (iI f)])), (ht, .inr (0, [.ref qt, .int (iI nt), .int (iI st)])), (qt, .inl (cI, ct, .inl ft))]) := by
  refine CtI.walk (fun _ => True) (fun z _ => vp_nar_int _) (by decide) (Nat.le_of_ble_eq_true rfl) ?_
  intro xp xe0 xs xm xar xbelow xmeth xc xA0 xQ xe xb xml xo xt xP xK xD xA xret ls xl xS
  have xl : lv_has ls 1 [(0, .ref hr)] := xl
  have xo : xs.vm.findClass R_Reader = some xm.cls := xo
  refine lv_aload_n xe xb d_Reader_peek_0 rfl (lv_at xl 0 rfl) ?_
  refine va_get (D := D) (ci := 3) (v := .ref ht) (C := R_Reader) (T := F_Reader) (N := 10) xe xb xt i_Reader xo xK xP 0 rfl rfl 0 (by decide) (xt _ mw_Reader_9) (fun _ h9 => h9) rfl d_Reader_peek_1 ?_
  refine lv_aload_n xe xb d_Reader_peek_4 rfl (lv_at xl 0 rfl) ?_
  refine va_get (D := D) (ci := 3) (v := .int (iI p)) (C := R_Reader) (T := F_Reader) (N := 10) xe xb xt i_Reader xo xK xP 0 rfl rfl 7 (by decide) (xt _ mw_Reader_40) (fun _ h9 => h9) rfl d_Reader_peek_5 ?_
  refine tk_callVi (As := [.int (iI p)]) (rest := []) (wr := [(hr, .inr (3, [.ref ht, .ref hT, .ref hQ, .ref hx, .ref hy, .ref hg, .ref hn, .int (iI p), .int (iI bh), .int (iI f)]))]) (wn := fun u => [(hr, .inr (3, [.ref ht, .ref hT, .ref hQ, .ref hx, .ref hy, .ref hg, .ref hn, .int (iI p), .int (iI bh), .int (iI f)])), (ht, .inr (0, [.ref qt, .int (iI nt), .int (iI st)])), (qt, .inl (cI, ct, .inl ft))]) ⟨xe, xb, xml, xo, xt⟩ (c_Row_get l D cI ht qt ct nt ft st p (by first | assumption | omega) (by first | assumption | omega)) k_Row_get mw_Reader_106 ⟨Nat.le_of_ble_eq_true rfl, Nat.le_of_ble_eq_true rfl⟩ xK xP xD xS xA rfl xl.1 rfl (Nat.le_of_ble_eq_true rfl) d_Reader_peek_8 ⟨Nat.zero_le _, Nat.zero_le _⟩ [1, 2] [0] [0, 1, 2] rfl rfl (by decide) (by decide) (by decide) (by decide) (fun _ => rfl) rfl rfl rfl (fun z_2 u H locs hr_3 hw_1 xP xD xS => ?_)
  try dsimp only at hw_1
  have xP : va_P D classes [(hr, .inr (3, [.ref ht, .ref hT, .ref hQ, .ref hx, .ref hy, .ref hg, .ref hn, .int (iI p), .int (iI bh), .int (iI f)])), (ht, .inr (0, [.ref qt, .int (iI nt), .int (iI st)])), (qt, .inl (cI, ct, .inl ft))] H := xP
  have xD : va_D xA0 [(hr, .inr (3, [.ref ht, .ref hT, .ref hQ, .ref hx, .ref hy, .ref hg, .ref hn, .int (iI p), .int (iI bh), .int (iI f)])), (ht, .inr (0, [.ref qt, .int (iI nt), .int (iI st)])), (qt, .inl (cI, ct, .inl ft))] := xD
  have HG := hw_1
  exact xret _ _ _ _ z_2 () d_Reader_peek_11 trivial (by omega) HG xP xD xS
set_option maxHeartbeats 4000000 in
set_option maxRecDepth 100000 in
theorem c_Reader_refuse (l : Launch) (D : va_G) (cI : ClassId) (hr : Nat) (ht : Nat) (hT : Nat) (hQ : Nat) (hx : Nat) (hy : Nat) (hg : Nat) (hn : Nat) (p : Int) (bh : Int) (f : Int) (qt : Nat) (ct : Nat) (nt : Int) (ft : Nat → Int32) (st : Int) (w : Int) (h0 : 0 ≤ nt ∧ nt ≤ ct ∧ ct < 1000000) (hB : byt (lst (tI ft) nt)) (hf : -2147483648 ≤ f ∧ f < 2147483648) : CtV l D [(cI, .int)] y_Reader_refuse b_Reader_refuse 2 0 [.ref hr, .int (iI w)] [(hr, .inr (3, [.ref ht, .ref hT, .ref hQ, .ref hx, .ref hy, .ref hg, .ref hn, .int (iI p), .int (iI bh), .int (iI f)])), (ht, .inr (0, [.ref qt, .int (iI nt), .int (iI st)])), (qt, .inl (cI, ct, .inl ft))] (S := Int × Int) (fun u => u.1 = nt ∧ u.2 = (if f = -1 then w else f)) (fun u => [(hr, .inr (3, [.ref ht, .ref hT, .ref hQ, .ref hx, .ref hy, .ref hg, .ref hn, .int (iI u.1), .int (iI bh), .int (iI u.2)])), (ht, .inr (0, [.ref qt, .int (iI nt), .int (iI st)])), (qt, .inl (cI, ct, .inl ft))]) := by
  refine CtV.walk (by decide) (Nat.le_of_ble_eq_true rfl) ?_
  intro xp xe0 xs xm xar xbelow xmeth xc xA0 xQ xe xb xml xo xt xP xK xD xA xret ls xl xS
  have xl : lv_has ls 2 [(0, .ref hr), (1, .int (iI w))] := xl
  have xo : xs.vm.findClass R_Reader = some xm.cls := xo
  refine lv_aload_n xe xb d_Reader_refuse_0 rfl (lv_at xl 0 rfl) ?_
  refine va_get (D := D) (ci := 3) (v := .int (iI f)) (C := R_Reader) (T := F_Reader) (N := 10) xe xb xt i_Reader xo xK xP 0 rfl rfl 9 (by decide) (xt _ mw_Reader_47) (fun _ h9 => h9) rfl d_Reader_refuse_1 ?_
  refine lv_iconst (v := iI (-1)) xe xb d_Reader_refuse_4 rfl ?_
  refine tk_icmp_ne (tgt := 13) xe xb d_Reader_refuse_5 (by decide) (by omega) (fun c_1 => ?_) (fun c_1 => ?_)
  · refine lv_aload_n xe xb d_Reader_refuse_13 rfl (lv_at xl 0 rfl) ?_
    refine lv_aload_n xe xb d_Reader_refuse_14 rfl (lv_at xl 0 rfl) ?_
    refine va_get (D := D) (ci := 3) (v := .ref ht) (C := R_Reader) (T := F_Reader) (N := 10) xe xb xt i_Reader xo xK xP 0 rfl rfl 0 (by decide) (xt _ mw_Reader_9) (fun _ h9 => h9) rfl d_Reader_refuse_15 ?_
    refine va_get (D := D) (ci := 0) (v := .int (iI nt)) (C := R_Row) (T := F_Row) (N := 3) xe xb xt i_Row xo xK xP 1 rfl rfl 1 (by decide) (xt _ mw_Reader_112) (fun _ h9 => h9) rfl d_Reader_refuse_18 ?_
    refine va_put (D := D) (ci := 3) (v := .int (iI nt)) (ty := .int) (C := R_Reader) (T := F_Reader) (N := 10) xe xb xt i_Reader t_Reader t_Reader_ok n_Reader xo xK xP xD xS 0 rfl rfl 7 (by decide) (xt _ mw_Reader_40) (fun _ h9 => h9) rfl (by decide +kernel) rfl rfl (Nat.le_of_ble_eq_true rfl) d_Reader_refuse_21 (fun H locs xP xD xS => ?_)
    have xP : va_P D classes [(hr, .inr (3, [.ref ht, .ref hT, .ref hQ, .ref hx, .ref hy, .ref hg, .ref hn, .int (iI nt), .int (iI bh), .int (iI f)])), (ht, .inr (0, [.ref qt, .int (iI nt), .int (iI st)])), (qt, .inl (cI, ct, .inl ft))] H := xP
    have xD : va_D xA0 [(hr, .inr (3, [.ref ht, .ref hT, .ref hQ, .ref hx, .ref hy, .ref hg, .ref hn, .int (iI nt), .int (iI bh), .int (iI f)])), (ht, .inr (0, [.ref qt, .int (iI nt), .int (iI st)])), (qt, .inl (cI, ct, .inl ft))] := xD
    exact xret _ _ _ _ (nt, f) d_Reader_refuse_24 (by first | exact ⟨rfl, by split <;> omega⟩ | (dsimp only; exact ⟨rfl, by split <;> omega⟩)) xP xD xS
  · refine lv_aload_n xe xb d_Reader_refuse_8 rfl (lv_at xl 0 rfl) ?_
    refine lv_iload_n xe xb d_Reader_refuse_9 rfl (lv_at xl 1 rfl) ?_
    refine va_put (D := D) (ci := 3) (v := .int (iI w)) (ty := .int) (C := R_Reader) (T := F_Reader) (N := 10) xe xb xt i_Reader t_Reader t_Reader_ok n_Reader xo xK xP xD xS 0 rfl rfl 9 (by decide) (xt _ mw_Reader_47) (fun _ h9 => h9) rfl (by decide +kernel) rfl rfl (Nat.le_of_ble_eq_true rfl) d_Reader_refuse_10 (fun H locs xP xD xS => ?_)
    have xP : va_P D classes [(hr, .inr (3, [.ref ht, .ref hT, .ref hQ, .ref hx, .ref hy, .ref hg, .ref hn, .int (iI p), .int (iI bh), .int (iI w)])), (ht, .inr (0, [.ref qt, .int (iI nt), .int (iI st)])), (qt, .inl (cI, ct, .inl ft))] H := xP
    have xD : va_D xA0 [(hr, .inr (3, [.ref ht, .ref hT, .ref hQ, .ref hx, .ref hy, .ref hg, .ref hn, .int (iI p), .int (iI bh), .int (iI w)])), (ht, .inr (0, [.ref qt, .int (iI nt), .int (iI st)])), (qt, .inl (cI, ct, .inl ft))] := xD
    refine lv_aload_n xe xb d_Reader_refuse_13 rfl (lv_at xl 0 rfl) ?_
    refine lv_aload_n xe xb d_Reader_refuse_14 rfl (lv_at xl 0 rfl) ?_
    refine va_get (D := D) (ci := 3) (v := .ref ht) (C := R_Reader) (T := F_Reader) (N := 10) xe xb xt i_Reader xo xK xP 0 rfl rfl 0 (by decide) (xt _ mw_Reader_9) (fun _ h9 => h9) rfl d_Reader_refuse_15 ?_
    refine va_get (D := D) (ci := 0) (v := .int (iI nt)) (C := R_Row) (T := F_Row) (N := 3) xe xb xt i_Row xo xK xP 1 rfl rfl 1 (by decide) (xt _ mw_Reader_112) (fun _ h9 => h9) rfl d_Reader_refuse_18 ?_
    refine va_put (D := D) (ci := 3) (v := .int (iI nt)) (ty := .int) (C := R_Reader) (T := F_Reader) (N := 10) xe xb xt i_Reader t_Reader t_Reader_ok n_Reader xo xK xP xD xS 0 rfl rfl 7 (by decide) (xt _ mw_Reader_40) (fun _ h9 => h9) rfl (by decide +kernel) rfl rfl (Nat.le_of_ble_eq_true rfl) d_Reader_refuse_21 (fun H locs xP xD xS => ?_)
    have xP : va_P D classes [(hr, .inr (3, [.ref ht, .ref hT, .ref hQ, .ref hx, .ref hy, .ref hg, .ref hn, .int (iI nt), .int (iI bh), .int (iI w)])), (ht, .inr (0, [.ref qt, .int (iI nt), .int (iI st)])), (qt, .inl (cI, ct, .inl ft))] H := xP
    have xD : va_D xA0 [(hr, .inr (3, [.ref ht, .ref hT, .ref hQ, .ref hx, .ref hy, .ref hg, .ref hn, .int (iI nt), .int (iI bh), .int (iI w)])), (ht, .inr (0, [.ref qt, .int (iI nt), .int (iI st)])), (qt, .inl (cI, ct, .inl ft))] := xD
    exact xret _ _ _ _ (nt, w) d_Reader_refuse_24 (by first | exact ⟨rfl, by split <;> omega⟩ | (dsimp only; exact ⟨rfl, by split <;> omega⟩)) xP xD xS
set_option maxHeartbeats 4000000 in
set_option maxRecDepth 100000 in
theorem c_Reader_take (l : Launch) (D : va_G) (cI : ClassId) (hr : Nat) (ht : Nat) (hT : Nat) (hQ : Nat) (hx : Nat) (hy : Nat) (hg : Nat) (hn : Nat) (p : Int) (bh : Int) (f : Int) (qt : Nat) (ct : Nat) (nt : Int) (ft : Nat → Int32) (st : Int) (sg : Int) (h0 : 0 ≤ nt ∧ nt ≤ ct ∧ ct < 1000000) (hB : byt (lst (tI ft) nt)) (hp : 0 ≤ p ∧ p ≤ nt) (hf : -2147483648 ≤ f ∧ f < 2147483648) (hs : -2147483648 ≤ sg ∧ sg < 2147483648) : CtV l D [(cI, .int)] y_Reader_take b_Reader_take 2 1 [.ref hr, .int (iI sg)] [(hr, .inr (3, [.ref ht, .ref hT, .ref hQ, .ref hx, .ref hy, .ref hg, .ref hn, .int (iI p), .int (iI bh), .int (iI f)])), (ht, .inr (0, [.ref qt, .int (iI nt), .int (iI st)])), (qt, .inl (cI, ct, .inl ft))] (S := Int × Int) (fun u => (rd (lst (tI ft) nt) p = sg ∧ u.1 = p + 1 ∧ u.2 = f) ∨ (rd (lst (tI ft) nt) p ≠ sg ∧ u.1 = nt ∧ u.2 = (if f = -1 then p else f))) (fun u => [(hr, .inr (3, [.ref ht, .ref hT, .ref hQ, .ref hx, .ref hy, .ref hg, .ref hn, .int (iI u.1), .int (iI bh), .int (iI u.2)])), (ht, .inr (0, [.ref qt, .int (iI nt), .int (iI st)])), (qt, .inl (cI, ct, .inl ft))]) := by
  refine CtV.walk (by decide) (Nat.le_of_ble_eq_true rfl) ?_
  intro xp xe0 xs xm xar xbelow xmeth xc xA0 xQ xe xb xml xo xt xP xK xD xA xret ls xl xS
  have xl : lv_has ls 2 [(0, .ref hr), (1, .int (iI sg))] := xl
  have xo : xs.vm.findClass R_Reader = some xm.cls := xo
  refine lv_aload_n xe xb d_Reader_take_0 rfl (lv_at xl 0 rfl) ?_
  refine va_get (D := D) (ci := 3) (v := .ref ht) (C := R_Reader) (T := F_Reader) (N := 10) xe xb xt i_Reader xo xK xP 0 rfl rfl 0 (by decide) (xt _ mw_Reader_9) (fun _ h9 => h9) rfl d_Reader_take_1 ?_
  refine lv_aload_n xe xb d_Reader_take_4 rfl (lv_at xl 0 rfl) ?_
  refine va_get (D := D) (ci := 3) (v := .int (iI p)) (C := R_Reader) (T := F_Reader) (N := 10) xe xb xt i_Reader xo xK xP 0 rfl rfl 7 (by decide) (xt _ mw_Reader_40) (fun _ h9 => h9) rfl d_Reader_take_5 ?_
  refine tk_callVi (As := [.int (iI p)]) (rest := []) (wr := [(hr, .inr (3, [.ref ht, .ref hT, .ref hQ, .ref hx, .ref hy, .ref hg, .ref hn, .int (iI p), .int (iI bh), .int (iI f)]))]) (wn := fun u => [(hr, .inr (3, [.ref ht, .ref hT, .ref hQ, .ref hx, .ref hy, .ref hg, .ref hn, .int (iI p), .int (iI bh), .int (iI f)])), (ht, .inr (0, [.ref qt, .int (iI nt), .int (iI st)])), (qt, .inl (cI, ct, .inl ft))]) ⟨xe, xb, xml, xo, xt⟩ (c_Row_get l D cI ht qt ct nt ft st p (by first | assumption | omega) (by first | assumption | omega)) k_Row_get mw_Reader_106 ⟨Nat.le_of_ble_eq_true rfl, Nat.le_of_ble_eq_true rfl⟩ xK xP xD xS xA rfl xl.1 rfl (Nat.le_of_ble_eq_true rfl) d_Reader_take_8 ⟨Nat.zero_le _, Nat.zero_le _⟩ [1, 2] [0] [0, 1, 2] rfl rfl (by decide) (by decide) (by decide) (by decide) (fun _ => rfl) rfl rfl rfl (fun z_2 u H locs hr_3 hw_1 xP xD xS => ?_)
  try dsimp only at hw_1
  have xP : va_P D classes [(hr, .inr (3, [.ref ht, .ref hT, .ref hQ, .ref hx, .ref hy, .ref hg, .ref hn, .int (iI p), .int (iI bh), .int (iI f)])), (ht, .inr (0, [.ref qt, .int (iI nt), .int (iI st)])), (qt, .inl (cI, ct, .inl ft))] H := xP
  have xD : va_D xA0 [(hr, .inr (3, [.ref ht, .ref hT, .ref hQ, .ref hx, .ref hy, .ref hg, .ref hn, .int (iI p), .int (iI bh), .int (iI f)])), (ht, .inr (0, [.ref qt, .int (iI nt), .int (iI st)])), (qt, .inl (cI, ct, .inl ft))] := xD
  have HG := hw_1
  refine lv_iload_n xe xb d_Reader_take_11 rfl (lv_at xl 1 rfl) ?_
  refine tk_icmp_ne (tgt := 28) xe xb d_Reader_take_12 (by decide) (by omega) (fun c_4 => ?_) (fun c_4 => ?_)
  · refine lv_aload_n xe xb d_Reader_take_28 rfl (lv_at xl 0 rfl) ?_
    refine lv_aload_n xe xb d_Reader_take_29 rfl (lv_at xl 0 rfl) ?_
    refine va_get (D := D) (ci := 3) (v := .int (iI p)) (C := R_Reader) (T := F_Reader) (N := 10) xe xb xt i_Reader xo xK xP 0 rfl rfl 7 (by decide) (xt _ mw_Reader_40) (fun _ h9 => h9) rfl d_Reader_take_30 ?_
    refine tk_callVv (As := [.int (iI p)]) (rest := []) (wr := []) (wn := fun u => [(hr, .inr (3, [.ref ht, .ref hT, .ref hQ, .ref hx, .ref hy, .ref hg, .ref hn, .int (iI u.1), .int (iI bh), .int (iI u.2)])), (ht, .inr (0, [.ref qt, .int (iI nt), .int (iI st)])), (qt, .inl (cI, ct, .inl ft))]) ⟨xe, xb, xml, xo, xt⟩ (c_Reader_refuse l D cI hr ht hT hQ hx hy hg hn p bh f qt ct nt ft st p (by first | assumption | omega) (by first | assumption | omega) (by first | assumption | omega)) k_Reader_refuse mw_Reader_97 ⟨Nat.le_of_ble_eq_true rfl, Nat.le_of_ble_eq_true rfl⟩ xK xP xD xS xA rfl xl.1 rfl (Nat.le_of_ble_eq_true rfl) d_Reader_take_33 ⟨Nat.zero_le _, Nat.zero_le _⟩ [0, 1, 2] [] [0, 1, 2] rfl rfl (by decide) (by decide) (by decide) (by decide) (fun _ => rfl) rfl rfl rfl (fun u H locs hw_7 xP xD xS => ?_)
    obtain ⟨p2_5, f2_6⟩ := u
    try dsimp only at hw_7
    have xP : va_P D classes [(hr, .inr (3, [.ref ht, .ref hT, .ref hQ, .ref hx, .ref hy, .ref hg, .ref hn, .int (iI p2_5), .int (iI bh), .int (iI f2_6)])), (ht, .inr (0, [.ref qt, .int (iI nt), .int (iI st)])), (qt, .inl (cI, ct, .inl ft))] H := xP
    have xD : va_D xA0 [(hr, .inr (3, [.ref ht, .ref hT, .ref hQ, .ref hx, .ref hy, .ref hg, .ref hn, .int (iI p2_5), .int (iI bh), .int (iI f2_6)])), (ht, .inr (0, [.ref qt, .int (iI nt), .int (iI st)])), (qt, .inl (cI, ct, .inl ft))] := xD
    have HR := hw_7
    exact xret _ _ _ _ (p2_5, f2_6) d_Reader_take_36 (by first | exact (by rw [← HG]; first | exact Or.inl ⟨by omega, rfl, rfl⟩ | exact Or.inr ⟨by omega, HR.1, HR.2⟩) | (dsimp only; exact (by rw [← HG]; first | exact Or.inl ⟨by omega, rfl, rfl⟩ | exact Or.inr ⟨by omega, HR.1, HR.2⟩))) xP xD xS
  · refine lv_aload_n xe xb d_Reader_take_15 rfl (lv_at xl 0 rfl) ?_
    refine lv_dup xe xb d_Reader_take_16 rfl ?_
    refine va_get (D := D) (ci := 3) (v := .int (iI p)) (C := R_Reader) (T := F_Reader) (N := 10) xe xb xt i_Reader xo xK xP 0 rfl rfl 7 (by decide) (xt _ mw_Reader_40) (fun _ h9 => h9) rfl d_Reader_take_17 ?_
    refine lv_iconst (v := iI (1)) xe xb d_Reader_take_20 rfl ?_
    refine tk_iadd xe xb d_Reader_take_21 ?_
    refine va_put (D := D) (ci := 3) (v := .int (iI (p + 1))) (ty := .int) (C := R_Reader) (T := F_Reader) (N := 10) xe xb xt i_Reader t_Reader t_Reader_ok n_Reader xo xK xP xD xS 0 rfl rfl 7 (by decide) (xt _ mw_Reader_40) (fun _ h9 => h9) rfl (by decide +kernel) rfl rfl (Nat.le_of_ble_eq_true rfl) d_Reader_take_22 (fun H locs xP xD xS => ?_)
    have xP : va_P D classes [(hr, .inr (3, [.ref ht, .ref hT, .ref hQ, .ref hx, .ref hy, .ref hg, .ref hn, .int (iI (p + 1)), .int (iI bh), .int (iI f)])), (ht, .inr (0, [.ref qt, .int (iI nt), .int (iI st)])), (qt, .inl (cI, ct, .inl ft))] H := xP
    have xD : va_D xA0 [(hr, .inr (3, [.ref ht, .ref hT, .ref hQ, .ref hx, .ref hy, .ref hg, .ref hn, .int (iI (p + 1)), .int (iI bh), .int (iI f)])), (ht, .inr (0, [.ref qt, .int (iI nt), .int (iI st)])), (qt, .inl (cI, ct, .inl ft))] := xD
    refine lv_goto (tgt := 36) xe xb d_Reader_take_25 (by decide) ?_
    exact xret _ _ _ _ ((p + 1), f) d_Reader_take_36 (by first | exact (by rw [← HG]; first | exact Or.inl ⟨by omega, rfl, rfl⟩ | exact Or.inr ⟨by omega, HR.1, HR.2⟩) | (dsimp only; exact (by rw [← HG]; first | exact Or.inl ⟨by omega, rfl, rfl⟩ | exact Or.inr ⟨by omega, HR.1, HR.2⟩))) xP xD xS
set_option maxHeartbeats 4000000 in
set_option maxRecDepth 100000 in
theorem c_Reader_skipBlanks (l : Launch) (D : va_G) (cI : ClassId) (hr : Nat) (ht : Nat) (hT : Nat) (hQ : Nat) (hx : Nat) (hy : Nat) (hg : Nat) (hn : Nat) (p : Int) (bh : Int) (f : Int) (qt : Nat) (ct : Nat) (nt : Int) (ft : Nat → Int32) (st : Int) (h0 : 0 ≤ nt ∧ nt ≤ ct ∧ ct < 1000000) (hB : byt (lst (tI ft) nt)) (hp : 0 ≤ p ∧ p ≤ nt) : CtV l D [(cI, .int)] y_Reader_skipBlanks b_Reader_skipBlanks 1 2 [.ref hr] [(hr, .inr (3, [.ref ht, .ref hT, .ref hQ, .ref hx, .ref hy, .ref hg, .ref hn, .int (iI p), .int (iI bh), .int (iI f)])), (ht, .inr (0, [.ref qt, .int (iI nt), .int (iI st)])), (qt, .inl (cI, ct, .inl ft))] (S := Int) (fun u => u = bl (lst (tI ft) nt) p ∧ p ≤ u ∧ u ≤ nt ∧ ¬ isB (rd (lst (tI ft) nt) u)) (fun u => [(hr, .inr (3, [.ref ht, .ref hT, .ref hQ, .ref hx, .ref hy, .ref hg, .ref hn, .int (iI u), .int (iI bh), .int (iI f)])), (ht, .inr (0, [.ref qt, .int (iI nt), .int (iI st)])), (qt, .inl (cI, ct, .inl ft))]) := by
  refine CtV.walk (by decide) (Nat.le_of_ble_eq_true rfl) ?_
  intro xp xe0 xs xm xar xbelow xmeth xc xA0 xQ xe xb xml xo xt xP xK xD xA xret ls xl xS
  have xl : lv_has ls 1 [(0, .ref hr)] := xl
  have xo : xs.vm.findClass R_Reader = some xm.cls := xo
  have hL : (((lst (tI ft) nt)).length : Int) = nt := by rw [lst_length]; omega
  have loop_0 : ∀ (n9 : Nat) (pv : Int), (nt - pv).toNat < n9 → (p ≤ pv ∧ pv ≤ nt) → (bl (lst (tI ft) nt) pv = bl (lst (tI ft) nt) p) → ∀ (H : Heap) (locs : List Loc), va_P D classes [(hr, .inr (3, [.ref ht, .ref hT, .ref hQ, .ref hx, .ref hy, .ref hg, .ref hn, .int (iI pv), .int (iI bh), .int (iI f)])), (ht, .inr (0, [.ref qt, .int (iI nt), .int (iI st)])), (qt, .inl (cI, ct, .inl ft))] H → va_D xA0 [(hr, .inr (3, [.ref ht, .ref hT, .ref hQ, .ref hx, .ref hy, .ref hg, .ref hn, .int (iI pv), .int (iI bh), .int (iI f)])), (ht, .inr (0, [.ref qt, .int (iI nt), .int (iI st)])), (qt, .inl (cI, ct, .inl ft))] → va_S xA0 xs.heap H locs → ∀ ls : Array Slot, lv_has ls 1 [(0, .ref hr)] → W xp l xe0 (tk_rm 2) xs xm xar xbelow xmeth xc H locs 0 0 xQ (F0 xm 0 ls []) := by
    intro n9
    induction n9 with
    | zero => intro pv h9; exact absurd h9 (Nat.not_lt_zero _)
    | succ n9 ih9 =>
      intro pv hm9 hi h1 H locs xP xD xS ls xl
      have ih_0 := ih9
      have hm_0 := hm9
      refine lv_aload_n xe xb d_Reader_skipBlanks_0 rfl (lv_at xl 0 rfl) ?_
      refine va_get (D := D) (ci := 3) (v := .int (iI pv)) (C := R_Reader) (T := F_Reader) (N := 10) xe xb xt i_Reader xo xK xP 0 rfl rfl 7 (by decide) (xt _ mw_Reader_40) (fun _ h9 => h9) rfl d_Reader_skipBlanks_1 ?_
      refine lv_aload_n xe xb d_Reader_skipBlanks_4 rfl (lv_at xl 0 rfl) ?_
      refine va_get (D := D) (ci := 3) (v := .ref ht) (C := R_Reader) (T := F_Reader) (N := 10) xe xb xt i_Reader xo xK xP 0 rfl rfl 0 (by decide) (xt _ mw_Reader_9) (fun _ h9 => h9) rfl d_Reader_skipBlanks_5 ?_
      refine va_get (D := D) (ci := 0) (v := .int (iI nt)) (C := R_Row) (T := F_Row) (N := 3) xe xb xt i_Row xo xK xP 1 rfl rfl 1 (by decide) (xt _ mw_Reader_112) (fun _ h9 => h9) rfl d_Reader_skipBlanks_8 ?_
      refine tk_icmp_ge (tgt := 37) xe xb d_Reader_skipBlanks_11 (by decide) (by omega) (fun c_1 => ?_) (fun c_1 => ?_)
      · exact xret _ _ _ _ pv d_Reader_skipBlanks_37 (by first | exact (by have h9 : ¬ isB (rd (lst (tI ft) nt) pv) := (by first | (rw [← HG]; exact HB) | (rw [rd_end (by omega)]; omega)); exact ⟨by rw [← h1, bl_e h9], by omega, by omega, h9⟩) | (dsimp only; exact (by have h9 : ¬ isB (rd (lst (tI ft) nt) pv) := (by first | (rw [← HG]; exact HB) | (rw [rd_end (by omega)]; omega)); exact ⟨by rw [← h1, bl_e h9], by omega, by omega, h9⟩))) xP xD xS
      · refine lv_aload_n xe xb d_Reader_skipBlanks_14 rfl (lv_at xl 0 rfl) ?_
        refine tk_callVi (As := []) (rest := []) (wr := []) (wn := fun u => [(hr, .inr (3, [.ref ht, .ref hT, .ref hQ, .ref hx, .ref hy, .ref hg, .ref hn, .int (iI pv), .int (iI bh), .int (iI f)])), (ht, .inr (0, [.ref qt, .int (iI nt), .int (iI st)])), (qt, .inl (cI, ct, .inl ft))]) ⟨xe, xb, xml, xo, xt⟩ (c_Reader_peek l D cI hr ht hT hQ hx hy hg hn pv bh f qt ct nt ft st (by first | assumption | omega) (by first | assumption | omega) (by first | assumption | omega)) k_Reader_peek mw_Reader_61 ⟨Nat.le_of_ble_eq_true rfl, Nat.le_of_ble_eq_true rfl⟩ xK xP xD xS xA rfl xl.1 rfl (Nat.le_of_ble_eq_true rfl) d_Reader_skipBlanks_15 ⟨Nat.zero_le _, Nat.zero_le _⟩ [0, 1, 2] [] [0, 1, 2] rfl rfl (by decide) (by decide) (by decide) (by decide) (fun _ => rfl) rfl rfl rfl (fun z_3 u H locs hr_4 hw_2 xP xD xS => ?_)
        try dsimp only at hw_2
        have xP : va_P D classes [(hr, .inr (3, [.ref ht, .ref hT, .ref hQ, .ref hx, .ref hy, .ref hg, .ref hn, .int (iI pv), .int (iI bh), .int (iI f)])), (ht, .inr (0, [.ref qt, .int (iI nt), .int (iI st)])), (qt, .inl (cI, ct, .inl ft))] H := xP
        have xD : va_D xA0 [(hr, .inr (3, [.ref ht, .ref hT, .ref hQ, .ref hx, .ref hy, .ref hg, .ref hn, .int (iI pv), .int (iI bh), .int (iI f)])), (ht, .inr (0, [.ref qt, .int (iI nt), .int (iI st)])), (qt, .inl (cI, ct, .inl ft))] := xD
        have HG := hw_2
        refine tk_callSi (As := [.int (iI z_3)]) (rest := []) (wr := [(hr, .inr (3, [.ref ht, .ref hT, .ref hQ, .ref hx, .ref hy, .ref hg, .ref hn, .int (iI pv), .int (iI bh), .int (iI f)])), (ht, .inr (0, [.ref qt, .int (iI nt), .int (iI st)])), (qt, .inl (cI, ct, .inl ft))]) (wn := fun u => [(hr, .inr (3, [.ref ht, .ref hT, .ref hQ, .ref hx, .ref hy, .ref hg, .ref hn, .int (iI pv), .int (iI bh), .int (iI f)])), (ht, .inr (0, [.ref qt, .int (iI nt), .int (iI st)])), (qt, .inl (cI, ct, .inl ft))]) ⟨xe, xb, xml, xo, xt⟩ (c_Reader_isBlank l D cI z_3 (by first | assumption | omega)) k_Reader_isBlank mw_Reader_153 ⟨Nat.le_of_ble_eq_true rfl, Nat.le_of_ble_eq_true rfl⟩ xK xP xD xS xA rfl xl.1 rfl (Nat.le_of_ble_eq_true rfl) d_Reader_skipBlanks_18 ⟨Nat.zero_le _, Nat.zero_le _⟩ [] [0, 1, 2] [0, 1, 2] rfl rfl (by decide) (by decide) (by decide) (by decide) (fun _ => rfl) (fun z_6 u H locs hr_7 hw_5 xP xD xS => ?_)
        try dsimp only at hw_5
        have xP : va_P D classes [(hr, .inr (3, [.ref ht, .ref hT, .ref hQ, .ref hx, .ref hy, .ref hg, .ref hn, .int (iI pv), .int (iI bh), .int (iI f)])), (ht, .inr (0, [.ref qt, .int (iI nt), .int (iI st)])), (qt, .inl (cI, ct, .inl ft))] H := xP
        have xD : va_D xA0 [(hr, .inr (3, [.ref ht, .ref hT, .ref hQ, .ref hx, .ref hy, .ref hg, .ref hn, .int (iI pv), .int (iI bh), .int (iI f)])), (ht, .inr (0, [.ref qt, .int (iI nt), .int (iI st)])), (qt, .inl (cI, ct, .inl ft))] := xD
        rcases hw_5 with ⟨rfl, HB⟩ | ⟨rfl, HB⟩
        · refine tk_if_eq (tgt := 37) xe xb d_Reader_skipBlanks_21 (by decide) (by omega) (fun c_8 => absurd c_8 (by omega)) (fun c_8 => ?_)
          refine lv_aload_n xe xb d_Reader_skipBlanks_24 rfl (lv_at xl 0 rfl) ?_
          refine lv_dup xe xb d_Reader_skipBlanks_25 rfl ?_
          refine va_get (D := D) (ci := 3) (v := .int (iI pv)) (C := R_Reader) (T := F_Reader) (N := 10) xe xb xt i_Reader xo xK xP 0 rfl rfl 7 (by decide) (xt _ mw_Reader_40) (fun _ h9 => h9) rfl d_Reader_skipBlanks_26 ?_
          refine lv_iconst (v := iI (1)) xe xb d_Reader_skipBlanks_29 rfl ?_
          refine tk_iadd xe xb d_Reader_skipBlanks_30 ?_
          refine va_put (D := D) (ci := 3) (v := .int (iI (pv + 1))) (ty := .int) (C := R_Reader) (T := F_Reader) (N := 10) xe xb xt i_Reader t_Reader t_Reader_ok n_Reader xo xK xP xD xS 0 rfl rfl 7 (by decide) (xt _ mw_Reader_40) (fun _ h9 => h9) rfl (by decide +kernel) rfl rfl (Nat.le_of_ble_eq_true rfl) d_Reader_skipBlanks_31 (fun H locs xP xD xS => ?_)
          have xP : va_P D classes [(hr, .inr (3, [.ref ht, .ref hT, .ref hQ, .ref hx, .ref hy, .ref hg, .ref hn, .int (iI (pv + 1)), .int (iI bh), .int (iI f)])), (ht, .inr (0, [.ref qt, .int (iI nt), .int (iI st)])), (qt, .inl (cI, ct, .inl ft))] H := xP
          have xD : va_D xA0 [(hr, .inr (3, [.ref ht, .ref hT, .ref hQ, .ref hx, .ref hy, .ref hg, .ref hn, .int (iI (pv + 1)), .int (iI bh), .int (iI f)])), (ht, .inr (0, [.ref qt, .int (iI nt), .int (iI st)])), (qt, .inl (cI, ct, .inl ft))] := xD
          refine lv_goto (tgt := 0) xe xb d_Reader_skipBlanks_34 (by decide) ?_
          exact ih_0 (pv + 1) (by omega) (by first | assumption | omega) ((bl_b (p := pv) (by rw [← HG]; exact HB)).symm.trans h1) _ _ xP xD xS ls (lv_sub xl [0] rfl)
        · refine tk_if_eq (tgt := 37) xe xb d_Reader_skipBlanks_21 (by decide) (by omega) (fun c_9 => ?_) (fun c_9 => absurd c_9 (by omega))
          exact xret _ _ _ _ pv d_Reader_skipBlanks_37 (by first | exact (by have h9 : ¬ isB (rd (lst (tI ft) nt) pv) := (by first | (rw [← HG]; exact HB) | (rw [rd_end (by omega)]; omega)); exact ⟨by rw [← h1, bl_e h9], by omega, by omega, h9⟩) | (dsimp only; exact (by have h9 : ¬ isB (rd (lst (tI ft) nt) pv) := (by first | (rw [← HG]; exact HB) | (rw [rd_end (by omega)]; omega)); exact ⟨by rw [← h1, bl_e h9], by omega, by omega, h9⟩))) xP xD xS
  exact loop_0 _ p (Nat.lt_succ_self _) (by first | assumption | omega) rfl _ _ xP xD xS ls (lv_sub xl [0] rfl)
set_option maxHeartbeats 4000000 in
set_option maxRecDepth 100000 in
theorem c_Reader_skipComment (l : Launch) (D : va_G) (cI : ClassId) (hr : Nat) (ht : Nat) (hT : Nat) (hQ : Nat) (hx : Nat) (hy : Nat) (hg : Nat) (hn : Nat) (p : Int) (bh : Int) (f : Int) (qt : Nat) (ct : Nat) (nt : Int) (ft : Nat → Int32) (st : Int) (h0 : 0 ≤ nt ∧ nt ≤ ct ∧ ct < 1000000) (hB : byt (lst (tI ft) nt)) (hp : 0 ≤ p ∧ p ≤ nt) : CtV l D [(cI, .int)] y_Reader_skipComment b_Reader_skipComment 1 2 [.ref hr] [(hr, .inr (3, [.ref ht, .ref hT, .ref hQ, .ref hx, .ref hy, .ref hg, .ref hn, .int (iI p), .int (iI bh), .int (iI f)])), (ht, .inr (0, [.ref qt, .int (iI nt), .int (iI st)])), (qt, .inl (cI, ct, .inl ft))] (S := Int) (fun u => u = cm (lst (tI ft) nt) p ∧ p ≤ u ∧ u ≤ nt) (fun u => [(hr, .inr (3, [.ref ht, .ref hT, .ref hQ, .ref hx, .ref hy, .ref hg, .ref hn, .int (iI u), .int (iI bh), .int (iI f)])), (ht, .inr (0, [.ref qt, .int (iI nt), .int (iI st)])), (qt, .inl (cI, ct, .inl ft))]) := by
  refine CtV.walk (by decide) (Nat.le_of_ble_eq_true rfl) ?_
  intro xp xe0 xs xm xar xbelow xmeth xc xA0 xQ xe xb xml xo xt xP xK xD xA xret ls xl xS
  have xl : lv_has ls 1 [(0, .ref hr)] := xl
  have xo : xs.vm.findClass R_Reader = some xm.cls := xo
  have hL : (((lst (tI ft) nt)).length : Int) = nt := by rw [lst_length]; omega
  have loop_0 : ∀ (n9 : Nat) (pv : Int), (nt - pv).toNat < n9 → (p ≤ pv ∧ pv ≤ nt) → (cm (lst (tI ft) nt) pv = cm (lst (tI ft) nt) p) → ∀ (H : Heap) (locs : List Loc), va_P D classes [(hr, .inr (3, [.ref ht, .ref hT, .ref hQ, .ref hx, .ref hy, .ref hg, .ref hn, .int (iI pv), .int (iI bh), .int (iI f)])), (ht, .inr (0, [.ref qt, .int (iI nt), .int (iI st)])), (qt, .inl (cI, ct, .inl ft))] H → va_D xA0 [(hr, .inr (3, [.ref ht, .ref hT, .ref hQ, .ref hx, .ref hy, .ref hg, .ref hn, .int (iI pv), .int (iI bh), .int (iI f)])), (ht, .inr (0, [.ref qt, .int (iI nt), .int (iI st)])), (qt, .inl (cI, ct, .inl ft))] → va_S xA0 xs.heap H locs → ∀ ls : Array Slot, lv_has ls 1 [(0, .ref hr)] → W xp l xe0 (tk_rm 2) xs xm xar xbelow xmeth xc H locs 0 0 xQ (F0 xm 0 ls []) := by
    intro n9
    induction n9 with
    | zero => intro pv h9; exact absurd h9 (Nat.not_lt_zero _)
    | succ n9 ih9 =>
      intro pv hm9 hi h1 H locs xP xD xS ls xl
      have ih_0 := ih9
      have hm_0 := hm9
      refine lv_aload_n xe xb d_Reader_skipComment_0 rfl (lv_at xl 0 rfl) ?_
      refine va_get (D := D) (ci := 3) (v := .int (iI pv)) (C := R_Reader) (T := F_Reader) (N := 10) xe xb xt i_Reader xo xK xP 0 rfl rfl 7 (by decide) (xt _ mw_Reader_40) (fun _ h9 => h9) rfl d_Reader_skipComment_1 ?_
      refine lv_aload_n xe xb d_Reader_skipComment_4 rfl (lv_at xl 0 rfl) ?_
      refine va_get (D := D) (ci := 3) (v := .ref ht) (C := R_Reader) (T := F_Reader) (N := 10) xe xb xt i_Reader xo xK xP 0 rfl rfl 0 (by decide) (xt _ mw_Reader_9) (fun _ h9 => h9) rfl d_Reader_skipComment_5 ?_
      refine va_get (D := D) (ci := 0) (v := .int (iI nt)) (C := R_Row) (T := F_Row) (N := 3) xe xb xt i_Row xo xK xP 1 rfl rfl 1 (by decide) (xt _ mw_Reader_112) (fun _ h9 => h9) rfl d_Reader_skipComment_8 ?_
      refine tk_icmp_ge (tgt := 36) xe xb d_Reader_skipComment_11 (by decide) (by omega) (fun c_1 => ?_) (fun c_1 => ?_)
      · exact xret _ _ _ _ pv d_Reader_skipComment_36 (by first | exact (by have h9 : ¬ (rd (lst (tI ft) nt) pv ≠ -1 ∧ rd (lst (tI ft) nt) pv ≠ 10) := (by first | omega | (rw [rd_end (by omega)]; omega)); exact ⟨by rw [← h1, cm_e h9], by omega, by omega⟩) | (dsimp only; exact (by have h9 : ¬ (rd (lst (tI ft) nt) pv ≠ -1 ∧ rd (lst (tI ft) nt) pv ≠ 10) := (by first | omega | (rw [rd_end (by omega)]; omega)); exact ⟨by rw [← h1, cm_e h9], by omega, by omega⟩))) xP xD xS
      · refine lv_aload_n xe xb d_Reader_skipComment_14 rfl (lv_at xl 0 rfl) ?_
        refine tk_callVi (As := []) (rest := []) (wr := []) (wn := fun u => [(hr, .inr (3, [.ref ht, .ref hT, .ref hQ, .ref hx, .ref hy, .ref hg, .ref hn, .int (iI pv), .int (iI bh), .int (iI f)])), (ht, .inr (0, [.ref qt, .int (iI nt), .int (iI st)])), (qt, .inl (cI, ct, .inl ft))]) ⟨xe, xb, xml, xo, xt⟩ (c_Reader_peek l D cI hr ht hT hQ hx hy hg hn pv bh f qt ct nt ft st (by first | assumption | omega) (by first | assumption | omega) (by first | assumption | omega)) k_Reader_peek mw_Reader_61 ⟨Nat.le_of_ble_eq_true rfl, Nat.le_of_ble_eq_true rfl⟩ xK xP xD xS xA rfl xl.1 rfl (Nat.le_of_ble_eq_true rfl) d_Reader_skipComment_15 ⟨Nat.zero_le _, Nat.zero_le _⟩ [0, 1, 2] [] [0, 1, 2] rfl rfl (by decide) (by decide) (by decide) (by decide) (fun _ => rfl) rfl rfl rfl (fun z_3 u H locs hr_4 hw_2 xP xD xS => ?_)
        try dsimp only at hw_2
        have xP : va_P D classes [(hr, .inr (3, [.ref ht, .ref hT, .ref hQ, .ref hx, .ref hy, .ref hg, .ref hn, .int (iI pv), .int (iI bh), .int (iI f)])), (ht, .inr (0, [.ref qt, .int (iI nt), .int (iI st)])), (qt, .inl (cI, ct, .inl ft))] H := xP
        have xD : va_D xA0 [(hr, .inr (3, [.ref ht, .ref hT, .ref hQ, .ref hx, .ref hy, .ref hg, .ref hn, .int (iI pv), .int (iI bh), .int (iI f)])), (ht, .inr (0, [.ref qt, .int (iI nt), .int (iI st)])), (qt, .inl (cI, ct, .inl ft))] := xD
        have HG := hw_2
        refine lv_bipush (v := iI (10)) xe xb d_Reader_skipComment_18 (by decide) ?_
        refine tk_icmp_eq (tgt := 36) xe xb d_Reader_skipComment_20 (by decide) (by omega) (fun c_5 => ?_) (fun c_5 => ?_)
        · exact xret _ _ _ _ pv d_Reader_skipComment_36 (by first | exact (by have h9 : ¬ (rd (lst (tI ft) nt) pv ≠ -1 ∧ rd (lst (tI ft) nt) pv ≠ 10) := (by first | omega | (rw [rd_end (by omega)]; omega)); exact ⟨by rw [← h1, cm_e h9], by omega, by omega⟩) | (dsimp only; exact (by have h9 : ¬ (rd (lst (tI ft) nt) pv ≠ -1 ∧ rd (lst (tI ft) nt) pv ≠ 10) := (by first | omega | (rw [rd_end (by omega)]; omega)); exact ⟨by rw [← h1, cm_e h9], by omega, by omega⟩))) xP xD xS
        · refine lv_aload_n xe xb d_Reader_skipComment_23 rfl (lv_at xl 0 rfl) ?_
          refine lv_dup xe xb d_Reader_skipComment_24 rfl ?_
          refine va_get (D := D) (ci := 3) (v := .int (iI pv)) (C := R_Reader) (T := F_Reader) (N := 10) xe xb xt i_Reader xo xK xP 0 rfl rfl 7 (by decide) (xt _ mw_Reader_40) (fun _ h9 => h9) rfl d_Reader_skipComment_25 ?_
          refine lv_iconst (v := iI (1)) xe xb d_Reader_skipComment_28 rfl ?_
          refine tk_iadd xe xb d_Reader_skipComment_29 ?_
          refine va_put (D := D) (ci := 3) (v := .int (iI (pv + 1))) (ty := .int) (C := R_Reader) (T := F_Reader) (N := 10) xe xb xt i_Reader t_Reader t_Reader_ok n_Reader xo xK xP xD xS 0 rfl rfl 7 (by decide) (xt _ mw_Reader_40) (fun _ h9 => h9) rfl (by decide +kernel) rfl rfl (Nat.le_of_ble_eq_true rfl) d_Reader_skipComment_30 (fun H locs xP xD xS => ?_)
          have xP : va_P D classes [(hr, .inr (3, [.ref ht, .ref hT, .ref hQ, .ref hx, .ref hy, .ref hg, .ref hn, .int (iI (pv + 1)), .int (iI bh), .int (iI f)])), (ht, .inr (0, [.ref qt, .int (iI nt), .int (iI st)])), (qt, .inl (cI, ct, .inl ft))] H := xP
          have xD : va_D xA0 [(hr, .inr (3, [.ref ht, .ref hT, .ref hQ, .ref hx, .ref hy, .ref hg, .ref hn, .int (iI (pv + 1)), .int (iI bh), .int (iI f)])), (ht, .inr (0, [.ref qt, .int (iI nt), .int (iI st)])), (qt, .inl (cI, ct, .inl ft))] := xD
          refine lv_goto (tgt := 0) xe xb d_Reader_skipComment_33 (by decide) ?_
          exact ih_0 (pv + 1) (by omega) (by first | assumption | omega) ((cm_b (p := pv) (by have h9 := rd_ge hB (p := pv) (by omega) (by omega); omega)).symm.trans h1) _ _ xP xD xS ls (lv_sub xl [0] rfl)
  exact loop_0 _ p (Nat.lt_succ_self _) (by first | assumption | omega) rfl _ _ xP xD xS ls (lv_sub xl [0] rfl)
set_option maxHeartbeats 4000000 in
set_option maxRecDepth 100000 in
theorem c_Reader_nameEnd (l : Launch) (D : va_G) (cI : ClassId) (hr : Nat) (ht : Nat) (hT : Nat) (hQ : Nat) (hx : Nat) (hy : Nat) (hg : Nat) (hn : Nat) (p : Int) (bh : Int) (f : Int) (qt : Nat) (ct : Nat) (nt : Int) (ft : Nat → Int32) (st : Int) (h0 : 0 ≤ nt ∧ nt ≤ ct ∧ ct < 1000000) (hB : byt (lst (tI ft) nt)) (hp : 0 ≤ p ∧ p ≤ nt) : CtI l D [(cI, .int)] y_Reader_nameEnd b_Reader_nameEnd 4 (some .int) 2 [.ref hr] [(hr, .inr (3, [.ref ht, .ref hT, .ref hQ, .ref hx, .ref hy, .ref hg, .ref hn, .int (iI p), .int (iI bh), .int (iI f)])), (ht, .inr (0, [.ref qt, .int (iI nt), .int (iI st)])), (qt, .inl (cI, ct, .inl ft))] (S := Unit) (fun z u => z = (if rd (lst (tI ft) nt) p = 45 ∨ rd (lst (tI ft) nt) p = 46 then p else nmE (lst (tI ft) nt) p p) ∧ p ≤ z ∧ z ≤ nt) (fun u => [(hr, .inr (3, [.ref ht, .ref hT, .ref hQ, .ref hx, .ref hy, .ref hg, .ref hn, .int (iI p), .int (iI bh), .int (iI f)])), (ht, .inr (0, [.ref qt, .int (iI nt), .int (iI st)])), (qt, .inl (cI, ct, .inl ft))]) := by
  refine CtI.walk (fun _ => True) (fun z _ => vp_nar_int _) (by decide) (Nat.le_of_ble_eq_true rfl) ?_
  intro xp xe0 xs xm xar xbelow xmeth xc xA0 xQ xe xb xml xo xt xP xK xD xA xret ls xl xS
  have xl : lv_has ls 4 [(0, .ref hr)] := xl
  have xo : xs.vm.findClass R_Reader = some xm.cls := xo
  have hL : (((lst (tI ft) nt)).length : Int) = nt := by rw [lst_length]; omega
  refine lv_aload_n xe xb d_Reader_nameEnd_0 rfl (lv_at xl 0 rfl) ?_
  refine tk_callVi (As := []) (rest := []) (wr := []) (wn := fun u => [(hr, .inr (3, [.ref ht, .ref hT, .ref hQ, .ref hx, .ref hy, .ref hg, .ref hn, .int (iI p), .int (iI bh), .int (iI f)])), (ht, .inr (0, [.ref qt, .int (iI nt), .int (iI st)])), (qt, .inl (cI, ct, .inl ft))]) ⟨xe, xb, xml, xo, xt⟩ (c_Reader_peek l D cI hr ht hT hQ hx hy hg hn p bh f qt ct nt ft st (by first | assumption | omega) (by first | assumption | omega) (by first | assumption | omega)) k_Reader_peek mw_Reader_61 ⟨Nat.le_of_ble_eq_true rfl, Nat.le_of_ble_eq_true rfl⟩ xK xP xD xS xA rfl xl.1 rfl (Nat.le_of_ble_eq_true rfl) d_Reader_nameEnd_1 ⟨Nat.zero_le _, Nat.zero_le _⟩ [0, 1, 2] [] [0, 1, 2] rfl rfl (by decide) (by decide) (by decide) (by decide) (fun _ => rfl) rfl rfl rfl (fun z_2 u H locs hr_3 hw_1 xP xD xS => ?_)
  try dsimp only at hw_1
  have xP : va_P D classes [(hr, .inr (3, [.ref ht, .ref hT, .ref hQ, .ref hx, .ref hy, .ref hg, .ref hn, .int (iI p), .int (iI bh), .int (iI f)])), (ht, .inr (0, [.ref qt, .int (iI nt), .int (iI st)])), (qt, .inl (cI, ct, .inl ft))] H := xP
  have xD : va_D xA0 [(hr, .inr (3, [.ref ht, .ref hT, .ref hQ, .ref hx, .ref hy, .ref hg, .ref hn, .int (iI p), .int (iI bh), .int (iI f)])), (ht, .inr (0, [.ref qt, .int (iI nt), .int (iI st)])), (qt, .inl (cI, ct, .inl ft))] := xD
  have HG := hw_1
  refine lv_istore_n (lv' := [(1, .int (iI z_2)), (0, .ref hr)]) xe xb d_Reader_nameEnd_4 rfl xl (by decide) rfl (fun ls xl => ?_)
  refine lv_aload_n xe xb d_Reader_nameEnd_5 rfl (lv_at xl 1 rfl) ?_
  refine va_get (D := D) (ci := 3) (v := .int (iI p)) (C := R_Reader) (T := F_Reader) (N := 10) xe xb xt i_Reader xo xK xP 0 rfl rfl 7 (by decide) (xt _ mw_Reader_40) (fun _ h9 => h9) rfl d_Reader_nameEnd_6 ?_
  refine lv_istore_n (lv' := [(2, .int (iI p)), (1, .int (iI z_2)), (0, .ref hr)]) xe xb d_Reader_nameEnd_9 rfl xl (by decide) rfl (fun ls xl => ?_)
  refine lv_iload_n xe xb d_Reader_nameEnd_10 rfl (lv_at xl 1 rfl) ?_
  refine lv_bipush (v := iI (45)) xe xb d_Reader_nameEnd_11 (by decide) ?_
  refine tk_icmp_eq (tgt := 22) xe xb d_Reader_nameEnd_13 (by decide) (by omega) (fun c_4 => ?_) (fun c_4 => ?_)
  · refine lv_iload_n xe xb d_Reader_nameEnd_22 rfl (lv_at xl 0 rfl) ?_
    exact xret _ _ _ _ p () d_Reader_nameEnd_23 trivial (by omega) (⟨by rw [if_pos (by omega)], by omega, by omega⟩) xP xD xS
  · refine lv_iload_n xe xb d_Reader_nameEnd_16 rfl (lv_at xl 1 rfl) ?_
    refine lv_bipush (v := iI (46)) xe xb d_Reader_nameEnd_17 (by decide) ?_
    refine tk_icmp_ne (tgt := 24) xe xb d_Reader_nameEnd_19 (by decide) (by omega) (fun c_5 => ?_) (fun c_5 => ?_)
    · refine lv_aload_n xe xb d_Reader_nameEnd_24 rfl (lv_at xl 2 rfl) ?_
      refine va_get (D := D) (ci := 3) (v := .int (iI p)) (C := R_Reader) (T := F_Reader) (N := 10) xe xb xt i_Reader xo xK xP 0 rfl rfl 7 (by decide) (xt _ mw_Reader_40) (fun _ h9 => h9) rfl d_Reader_nameEnd_25 ?_
      refine lv_istore_n (lv' := [(3, .int (iI p)), (2, .int (iI p)), (1, .int (iI z_2)), (0, .ref hr)]) xe xb d_Reader_nameEnd_28 rfl xl (by decide) rfl (fun ls xl => ?_)
      have loop_29 : ∀ (n9 : Nat) (e : Int) (i : Int), (nt - i).toNat < n9 → (p ≤ e ∧ e ≤ i ∧ i ≤ nt) → (nmE (lst (tI ft) nt) i e = nmE (lst (tI ft) nt) p p) → ∀ (H : Heap) (locs : List Loc), va_P D classes [(hr, .inr (3, [.ref ht, .ref hT, .ref hQ, .ref hx, .ref hy, .ref hg, .ref hn, .int (iI p), .int (iI bh), .int (iI f)])), (ht, .inr (0, [.ref qt, .int (iI nt), .int (iI st)])), (qt, .inl (cI, ct, .inl ft))] H → va_D xA0 [(hr, .inr (3, [.ref ht, .ref hT, .ref hQ, .ref hx, .ref hy, .ref hg, .ref hn, .int (iI p), .int (iI bh), .int (iI f)])), (ht, .inr (0, [.ref qt, .int (iI nt), .int (iI st)])), (qt, .inl (cI, ct, .inl ft))] → va_S xA0 xs.heap H locs → ∀ ls : Array Slot, lv_has ls 4 [(0, .ref hr), (2, .int (iI e)), (3, .int (iI i))] → W xp l xe0 (tk_rm 2) xs xm xar xbelow xmeth xc H locs 0 0 xQ (F0 xm 29 ls []) := by
        intro n9
        induction n9 with
        | zero => intro e i h9; exact absurd h9 (Nat.not_lt_zero _)
        | succ n9 ih9 =>
          intro e i hm9 hi h1 H locs xP xD xS ls xl
          have ih_29 := ih9
          have hm_29 := hm9
          refine lv_iload_n xe xb d_Reader_nameEnd_29 rfl (lv_at xl 2 rfl) ?_
          refine lv_aload_n xe xb d_Reader_nameEnd_30 rfl (lv_at xl 0 rfl) ?_
          refine va_get (D := D) (ci := 3) (v := .ref ht) (C := R_Reader) (T := F_Reader) (N := 10) xe xb xt i_Reader xo xK xP 0 rfl rfl 0 (by decide) (xt _ mw_Reader_9) (fun _ h9 => h9) rfl d_Reader_nameEnd_31 ?_
          refine va_get (D := D) (ci := 0) (v := .int (iI nt)) (C := R_Row) (T := F_Row) (N := 3) xe xb xt i_Row xo xK xP 1 rfl rfl 1 (by decide) (xt _ mw_Reader_112) (fun _ h9 => h9) rfl d_Reader_nameEnd_34 ?_
          refine tk_icmp_ge (tgt := 77) xe xb d_Reader_nameEnd_37 (by decide) (by omega) (fun c_6 => ?_) (fun c_6 => ?_)
          · refine lv_iload_n xe xb d_Reader_nameEnd_77 rfl (lv_at xl 1 rfl) ?_
            exact xret _ _ _ _ e () d_Reader_nameEnd_78 trivial (by omega) (⟨by (rw [if_neg (by omega), ← h1]; exact (nmE_e (by first | (rw [← HG2]; exact HB) | (rw [rd_end (by omega)]; omega))).symm), by omega, by omega⟩) xP xD xS
          · refine lv_aload_n xe xb d_Reader_nameEnd_40 rfl (lv_at xl 0 rfl) ?_
            refine va_get (D := D) (ci := 3) (v := .ref ht) (C := R_Reader) (T := F_Reader) (N := 10) xe xb xt i_Reader xo xK xP 0 rfl rfl 0 (by decide) (xt _ mw_Reader_9) (fun _ h9 => h9) rfl d_Reader_nameEnd_41 ?_
            refine lv_iload_n xe xb d_Reader_nameEnd_44 rfl (lv_at xl 2 rfl) ?_
            refine tk_callVi (As := [.int (iI i)]) (rest := []) (wr := [(hr, .inr (3, [.ref ht, .ref hT, .ref hQ, .ref hx, .ref hy, .ref hg, .ref hn, .int (iI p), .int (iI bh), .int (iI f)]))]) (wn := fun u => [(hr, .inr (3, [.ref ht, .ref hT, .ref hQ, .ref hx, .ref hy, .ref hg, .ref hn, .int (iI p), .int (iI bh), .int (iI f)])), (ht, .inr (0, [.ref qt, .int (iI nt), .int (iI st)])), (qt, .inl (cI, ct, .inl ft))]) ⟨xe, xb, xml, xo, xt⟩ (c_Row_get l D cI ht qt ct nt ft st i (by first | assumption | omega) (by first | assumption | omega)) k_Row_get mw_Reader_106 ⟨Nat.le_of_ble_eq_true rfl, Nat.le_of_ble_eq_true rfl⟩ xK xP xD xS xA rfl xl.1 rfl (Nat.le_of_ble_eq_true rfl) d_Reader_nameEnd_45 ⟨Nat.zero_le _, Nat.zero_le _⟩ [1, 2] [0] [0, 1, 2] rfl rfl (by decide) (by decide) (by decide) (by decide) (fun _ => rfl) rfl rfl rfl (fun z_8 u H locs hr_9 hw_7 xP xD xS => ?_)
            try dsimp only at hw_7
            have xP : va_P D classes [(hr, .inr (3, [.ref ht, .ref hT, .ref hQ, .ref hx, .ref hy, .ref hg, .ref hn, .int (iI p), .int (iI bh), .int (iI f)])), (ht, .inr (0, [.ref qt, .int (iI nt), .int (iI st)])), (qt, .inl (cI, ct, .inl ft))] H := xP
            have xD : va_D xA0 [(hr, .inr (3, [.ref ht, .ref hT, .ref hQ, .ref hx, .ref hy, .ref hg, .ref hn, .int (iI p), .int (iI bh), .int (iI f)])), (ht, .inr (0, [.ref qt, .int (iI nt), .int (iI st)])), (qt, .inl (cI, ct, .inl ft))] := xD
            have HG2 := hw_7
            refine tk_callSi (As := [.int (iI z_8)]) (rest := []) (wr := [(hr, .inr (3, [.ref ht, .ref hT, .ref hQ, .ref hx, .ref hy, .ref hg, .ref hn, .int (iI p), .int (iI bh), .int (iI f)])), (ht, .inr (0, [.ref qt, .int (iI nt), .int (iI st)])), (qt, .inl (cI, ct, .inl ft))]) (wn := fun u => [(hr, .inr (3, [.ref ht, .ref hT, .ref hQ, .ref hx, .ref hy, .ref hg, .ref hn, .int (iI p), .int (iI bh), .int (iI f)])), (ht, .inr (0, [.ref qt, .int (iI nt), .int (iI st)])), (qt, .inl (cI, ct, .inl ft))]) ⟨xe, xb, xml, xo, xt⟩ (c_Reader_isNameSign l D cI z_8 (by first | assumption | omega)) k_Reader_isNameSign mw_Reader_115 ⟨Nat.le_of_ble_eq_true rfl, Nat.le_of_ble_eq_true rfl⟩ xK xP xD xS xA rfl xl.1 rfl (Nat.le_of_ble_eq_true rfl) d_Reader_nameEnd_48 ⟨Nat.zero_le _, Nat.zero_le _⟩ [] [0, 1, 2] [0, 1, 2] rfl rfl (by decide) (by decide) (by decide) (by decide) (fun _ => rfl) (fun z_11 u H locs hr_12 hw_10 xP xD xS => ?_)
            try dsimp only at hw_10
            have xP : va_P D classes [(hr, .inr (3, [.ref ht, .ref hT, .ref hQ, .ref hx, .ref hy, .ref hg, .ref hn, .int (iI p), .int (iI bh), .int (iI f)])), (ht, .inr (0, [.ref qt, .int (iI nt), .int (iI st)])), (qt, .inl (cI, ct, .inl ft))] H := xP
            have xD : va_D xA0 [(hr, .inr (3, [.ref ht, .ref hT, .ref hQ, .ref hx, .ref hy, .ref hg, .ref hn, .int (iI p), .int (iI bh), .int (iI f)])), (ht, .inr (0, [.ref qt, .int (iI nt), .int (iI st)])), (qt, .inl (cI, ct, .inl ft))] := xD
            rcases hw_10 with ⟨rfl, HB⟩ | ⟨rfl, HB⟩
            · refine tk_if_eq (tgt := 77) xe xb d_Reader_nameEnd_51 (by decide) (by omega) (fun c_13 => absurd c_13 (by omega)) (fun c_13 => ?_)
              refine lv_aload_n xe xb d_Reader_nameEnd_54 rfl (lv_at xl 0 rfl) ?_
              refine va_get (D := D) (ci := 3) (v := .ref ht) (C := R_Reader) (T := F_Reader) (N := 10) xe xb xt i_Reader xo xK xP 0 rfl rfl 0 (by decide) (xt _ mw_Reader_9) (fun _ h9 => h9) rfl d_Reader_nameEnd_55 ?_
              refine lv_iload_n xe xb d_Reader_nameEnd_58 rfl (lv_at xl 2 rfl) ?_
              refine tk_callVi (As := [.int (iI i)]) (rest := []) (wr := [(hr, .inr (3, [.ref ht, .ref hT, .ref hQ, .ref hx, .ref hy, .ref hg, .ref hn, .int (iI p), .int (iI bh), .int (iI f)]))]) (wn := fun u => [(hr, .inr (3, [.ref ht, .ref hT, .ref hQ, .ref hx, .ref hy, .ref hg, .ref hn, .int (iI p), .int (iI bh), .int (iI f)])), (ht, .inr (0, [.ref qt, .int (iI nt), .int (iI st)])), (qt, .inl (cI, ct, .inl ft))]) ⟨xe, xb, xml, xo, xt⟩ (c_Row_get l D cI ht qt ct nt ft st i (by first | assumption | omega) (by first | assumption | omega)) k_Row_get mw_Reader_106 ⟨Nat.le_of_ble_eq_true rfl, Nat.le_of_ble_eq_true rfl⟩ xK xP xD xS xA rfl xl.1 rfl (Nat.le_of_ble_eq_true rfl) d_Reader_nameEnd_59 ⟨Nat.zero_le _, Nat.zero_le _⟩ [1, 2] [0] [0, 1, 2] rfl rfl (by decide) (by decide) (by decide) (by decide) (fun _ => rfl) rfl rfl rfl (fun z_15 u H locs hr_16 hw_14 xP xD xS => ?_)
              try dsimp only at hw_14
              have xP : va_P D classes [(hr, .inr (3, [.ref ht, .ref hT, .ref hQ, .ref hx, .ref hy, .ref hg, .ref hn, .int (iI p), .int (iI bh), .int (iI f)])), (ht, .inr (0, [.ref qt, .int (iI nt), .int (iI st)])), (qt, .inl (cI, ct, .inl ft))] H := xP
              have xD : va_D xA0 [(hr, .inr (3, [.ref ht, .ref hT, .ref hQ, .ref hx, .ref hy, .ref hg, .ref hn, .int (iI p), .int (iI bh), .int (iI f)])), (ht, .inr (0, [.ref qt, .int (iI nt), .int (iI st)])), (qt, .inl (cI, ct, .inl ft))] := xD
              have HG3 := hw_14
              refine lv_bipush (v := iI (46)) xe xb d_Reader_nameEnd_62 (by decide) ?_
              refine tk_icmp_eq (tgt := 71) xe xb d_Reader_nameEnd_64 (by decide) (by omega) (fun c_17 => ?_) (fun c_17 => ?_)
              · refine tk_iinc (v := (i + 1)) (lv' := [(3, .int (iI (i + 1))), (0, .ref hr), (2, .int (iI e))]) xe xb d_Reader_nameEnd_71 xl (k := 2) rfl rfl (by decide) rfl (fun ls xl => ?_)
                refine lv_goto (tgt := 29) xe xb d_Reader_nameEnd_74 (by decide) ?_
                exact ih_29 e (i + 1) (by omega) (by first | assumption | omega) (by have h9 := h1; rw [nmE_b (i := i) (e := e) (by rw [← HG2]; exact HB)] at h9; first | (rw [if_pos (by omega)] at h9; exact h9) | (rw [if_neg (by omega)] at h9; exact h9)) _ _ xP xD xS ls (lv_sub xl [1, 2, 0] rfl)
              · refine lv_iload_n xe xb d_Reader_nameEnd_67 rfl (lv_at xl 2 rfl) ?_
                refine lv_iconst (v := iI (1)) xe xb d_Reader_nameEnd_68 rfl ?_
                refine tk_iadd xe xb d_Reader_nameEnd_69 ?_
                refine lv_istore_n (lv' := [(2, .int (iI (i + 1))), (0, .ref hr), (3, .int (iI i))]) xe xb d_Reader_nameEnd_70 rfl xl (by decide) rfl (fun ls xl => ?_)
                refine tk_iinc (v := (i + 1)) (lv' := [(3, .int (iI (i + 1))), (2, .int (iI (i + 1))), (0, .ref hr)]) xe xb d_Reader_nameEnd_71 xl (k := 2) rfl rfl (by decide) rfl (fun ls xl => ?_)
                refine lv_goto (tgt := 29) xe xb d_Reader_nameEnd_74 (by decide) ?_
                exact ih_29 (i + 1) (i + 1) (by omega) (by first | assumption | omega) (by have h9 := h1; rw [nmE_b (i := i) (e := e) (by rw [← HG2]; exact HB)] at h9; first | (rw [if_pos (by omega)] at h9; exact h9) | (rw [if_neg (by omega)] at h9; exact h9)) _ _ xP xD xS ls (lv_sub xl [2, 1, 0] rfl)
            · refine tk_if_eq (tgt := 77) xe xb d_Reader_nameEnd_51 (by decide) (by omega) (fun c_18 => ?_) (fun c_18 => absurd c_18 (by omega))
              refine lv_iload_n xe xb d_Reader_nameEnd_77 rfl (lv_at xl 1 rfl) ?_
              exact xret _ _ _ _ e () d_Reader_nameEnd_78 trivial (by omega) (⟨by (rw [if_neg (by omega), ← h1]; exact (nmE_e (by first | (rw [← HG2]; exact HB) | (rw [rd_end (by omega)]; omega))).symm), by omega, by omega⟩) xP xD xS
      exact loop_29 _ p p (Nat.lt_succ_self _) (by first | assumption | omega) rfl _ _ xP xD xS ls (lv_sub xl [3, 1, 0] rfl)
    · refine lv_iload_n xe xb d_Reader_nameEnd_22 rfl (lv_at xl 0 rfl) ?_
      exact xret _ _ _ _ p () d_Reader_nameEnd_23 trivial (by omega) (⟨by rw [if_pos (by omega)], by omega, by omega⟩) xP xD xS
