theorem d_Reader_slashedCode_0 : decode b_Reader_slashedCode 0 = .ok (.aload_n 0, 1) := by decide +kernel
theorem d_Reader_slashedCode_1 : decode b_Reader_slashedCode 1 = .ok (.getfield 9, 3) := by decide +kernel
theorem d_Reader_slashedCode_4 : decode b_Reader_slashedCode 4 = .ok (.aload_n 0, 1) := by decide +kernel
theorem d_Reader_slashedCode_5 : decode b_Reader_slashedCode 5 = .ok (.getfield 40, 3) := by decide +kernel
theorem d_Reader_slashedCode_8 : decode b_Reader_slashedCode 8 = .ok (.iconst 1, 1) := by decide +kernel
theorem d_Reader_slashedCode_9 : decode b_Reader_slashedCode 9 = .ok (.iadd, 1) := by decide +kernel
theorem d_Reader_slashedCode_10 : decode b_Reader_slashedCode 10 = .ok (.invokevirtual 106, 3) := by decide +kernel
theorem d_Reader_slashedCode_13 : decode b_Reader_slashedCode 13 = .ok (.istore_n 2, 1) := by decide +kernel
theorem d_Reader_slashedCode_14 : decode b_Reader_slashedCode 14 = .ok (.iload_n 2, 1) := by decide +kernel
theorem d_Reader_slashedCode_15 : decode b_Reader_slashedCode 15 = .ok (.bipush 117, 2) := by decide +kernel
theorem d_Reader_slashedCode_17 : decode b_Reader_slashedCode 17 = .ok (.if_icmp .ne 7, 3) := by decide +kernel
theorem d_Reader_slashedCode_20 : decode b_Reader_slashedCode 20 = .ok (.iconst 4, 1) := by decide +kernel
theorem d_Reader_slashedCode_21 : decode b_Reader_slashedCode 21 = .ok (.goto 15, 3) := by decide +kernel
theorem d_Reader_slashedCode_24 : decode b_Reader_slashedCode 24 = .ok (.iload_n 2, 1) := by decide +kernel
theorem d_Reader_slashedCode_25 : decode b_Reader_slashedCode 25 = .ok (.bipush 85, 2) := by decide +kernel
theorem d_Reader_slashedCode_27 : decode b_Reader_slashedCode 27 = .ok (.if_icmp .ne 8, 3) := by decide +kernel
theorem d_Reader_slashedCode_30 : decode b_Reader_slashedCode 30 = .ok (.bipush 8, 2) := by decide +kernel
theorem d_Reader_slashedCode_32 : decode b_Reader_slashedCode 32 = .ok (.goto 4, 3) := by decide +kernel
theorem d_Reader_slashedCode_35 : decode b_Reader_slashedCode 35 = .ok (.iconst 0, 1) := by decide +kernel
theorem d_Reader_slashedCode_36 : decode b_Reader_slashedCode 36 = .ok (.istore_n 3, 1) := by decide +kernel
theorem d_Reader_slashedCode_37 : decode b_Reader_slashedCode 37 = .ok (.aload_n 0, 1) := by decide +kernel
theorem d_Reader_slashedCode_38 : decode b_Reader_slashedCode 38 = .ok (.aload_n 0, 1) := by decide +kernel
theorem d_Reader_slashedCode_39 : decode b_Reader_slashedCode 39 = .ok (.getfield 40, 3) := by decide +kernel
theorem d_Reader_slashedCode_42 : decode b_Reader_slashedCode 42 = .ok (.iconst 2, 1) := by decide +kernel
theorem d_Reader_slashedCode_43 : decode b_Reader_slashedCode 43 = .ok (.iadd, 1) := by decide +kernel
theorem d_Reader_slashedCode_44 : decode b_Reader_slashedCode 44 = .ok (.iload_n 3, 1) := by decide +kernel
theorem d_Reader_slashedCode_45 : decode b_Reader_slashedCode 45 = .ok (.iadd, 1) := by decide +kernel
theorem d_Reader_slashedCode_46 : decode b_Reader_slashedCode 46 = .ok (.putfield 44, 3) := by decide +kernel
theorem d_Reader_slashedCode_49 : decode b_Reader_slashedCode 49 = .ok (.iload_n 3, 1) := by decide +kernel
theorem d_Reader_slashedCode_50 : decode b_Reader_slashedCode 50 = .ok (.ifCond .ne 17, 3) := by decide +kernel
theorem d_Reader_slashedCode_53 : decode b_Reader_slashedCode 53 = .ok (.iload_n 1, 1) := by decide +kernel
theorem d_Reader_slashedCode_54 : decode b_Reader_slashedCode 54 = .ok (.iconst 2, 1) := by decide +kernel
theorem d_Reader_slashedCode_55 : decode b_Reader_slashedCode 55 = .ok (.if_icmp .ne 10, 3) := by decide +kernel
theorem d_Reader_slashedCode_58 : decode b_Reader_slashedCode 58 = .ok (.iload_n 2, 1) := by decide +kernel
theorem d_Reader_slashedCode_59 : decode b_Reader_slashedCode 59 = .ok (.invokestatic 141, 3) := by decide +kernel
theorem d_Reader_slashedCode_62 : decode b_Reader_slashedCode 62 = .ok (.goto 4, 3) := by decide +kernel
theorem d_Reader_slashedCode_65 : decode b_Reader_slashedCode 65 = .ok (.iconst (-1), 1) := by decide +kernel
theorem d_Reader_slashedCode_66 : decode b_Reader_slashedCode 66 = .ok (.ireturn, 1) := by decide +kernel
theorem d_Reader_slashedCode_67 : decode b_Reader_slashedCode 67 = .ok (.lconst 0, 1) := by decide +kernel
theorem d_Reader_slashedCode_68 : decode b_Reader_slashedCode 68 = .ok (.lstore 4, 2) := by decide +kernel
theorem d_Reader_slashedCode_70 : decode b_Reader_slashedCode 70 = .ok (.aload_n 0, 1) := by decide +kernel
theorem d_Reader_slashedCode_71 : decode b_Reader_slashedCode 71 = .ok (.getfield 40, 3) := by decide +kernel
theorem d_Reader_slashedCode_74 : decode b_Reader_slashedCode 74 = .ok (.iconst 2, 1) := by decide +kernel
theorem d_Reader_slashedCode_75 : decode b_Reader_slashedCode 75 = .ok (.iadd, 1) := by decide +kernel
theorem d_Reader_slashedCode_76 : decode b_Reader_slashedCode 76 = .ok (.istore 6, 2) := by decide +kernel
theorem d_Reader_slashedCode_78 : decode b_Reader_slashedCode 78 = .ok (.iload 6, 2) := by decide +kernel
theorem d_Reader_slashedCode_80 : decode b_Reader_slashedCode 80 = .ok (.aload_n 0, 1) := by decide +kernel
theorem d_Reader_slashedCode_81 : decode b_Reader_slashedCode 81 = .ok (.getfield 44, 3) := by decide +kernel
theorem d_Reader_slashedCode_84 : decode b_Reader_slashedCode 84 = .ok (.if_icmp .ge 43, 3) := by decide +kernel
theorem d_Reader_slashedCode_87 : decode b_Reader_slashedCode 87 = .ok (.aload_n 0, 1) := by decide +kernel
theorem d_Reader_slashedCode_88 : decode b_Reader_slashedCode 88 = .ok (.getfield 9, 3) := by decide +kernel
theorem d_Reader_slashedCode_91 : decode b_Reader_slashedCode 91 = .ok (.iload 6, 2) := by decide +kernel
theorem d_Reader_slashedCode_93 : decode b_Reader_slashedCode 93 = .ok (.invokevirtual 106, 3) := by decide +kernel
theorem d_Reader_slashedCode_96 : decode b_Reader_slashedCode 96 = .ok (.invokestatic 144, 3) := by decide +kernel
theorem d_Reader_slashedCode_99 : decode b_Reader_slashedCode 99 = .ok (.istore 7, 2) := by decide +kernel
theorem d_Reader_slashedCode_101 : decode b_Reader_slashedCode 101 = .ok (.iload 7, 2) := by decide +kernel
theorem d_Reader_slashedCode_103 : decode b_Reader_slashedCode 103 = .ok (.iconst (-1), 1) := by decide +kernel
theorem d_Reader_slashedCode_104 : decode b_Reader_slashedCode 104 = .ok (.if_icmp .ne 5, 3) := by decide +kernel
theorem d_Reader_slashedCode_107 : decode b_Reader_slashedCode 107 = .ok (.iconst (-1), 1) := by decide +kernel
theorem d_Reader_slashedCode_108 : decode b_Reader_slashedCode 108 = .ok (.ireturn, 1) := by decide +kernel
theorem d_Reader_slashedCode_109 : decode b_Reader_slashedCode 109 = .ok (.lload 4, 2) := by decide +kernel
theorem d_Reader_slashedCode_111 : decode b_Reader_slashedCode 111 = .ok (.ldc2_w 147, 3) := by decide +kernel
theorem d_Reader_slashedCode_114 : decode b_Reader_slashedCode 114 = .ok (.lmul, 1) := by decide +kernel
theorem d_Reader_slashedCode_115 : decode b_Reader_slashedCode 115 = .ok (.iload 7, 2) := by decide +kernel
theorem d_Reader_slashedCode_117 : decode b_Reader_slashedCode 117 = .ok (.i2l, 1) := by decide +kernel
theorem d_Reader_slashedCode_118 : decode b_Reader_slashedCode 118 = .ok (.ladd, 1) := by decide +kernel
theorem d_Reader_slashedCode_119 : decode b_Reader_slashedCode 119 = .ok (.lstore 4, 2) := by decide +kernel
theorem d_Reader_slashedCode_121 : decode b_Reader_slashedCode 121 = .ok (.iinc 6 1, 3) := by decide +kernel
theorem d_Reader_slashedCode_124 : decode b_Reader_slashedCode 124 = .ok (.goto (-46), 3) := by decide +kernel
theorem d_Reader_slashedCode_127 : decode b_Reader_slashedCode 127 = .ok (.lload 4, 2) := by decide +kernel
theorem d_Reader_slashedCode_129 : decode b_Reader_slashedCode 129 = .ok (.invokestatic 149, 3) := by decide +kernel
theorem d_Reader_slashedCode_132 : decode b_Reader_slashedCode 132 = .ok (.ifCond .eq 9, 3) := by decide +kernel
theorem d_Reader_slashedCode_135 : decode b_Reader_slashedCode 135 = .ok (.lload 4, 2) := by decide +kernel
theorem d_Reader_slashedCode_137 : decode b_Reader_slashedCode 137 = .ok (.l2i, 1) := by decide +kernel
theorem d_Reader_slashedCode_138 : decode b_Reader_slashedCode 138 = .ok (.goto 4, 3) := by decide +kernel
theorem d_Reader_slashedCode_141 : decode b_Reader_slashedCode 141 = .ok (.iconst (-1), 1) := by decide +kernel
theorem d_Reader_slashedCode_142 : decode b_Reader_slashedCode 142 = .ok (.ireturn, 1) := by decide +kernel
set_option maxHeartbeats 4000000 in
set_option maxRecDepth 100000 in
theorem c_Reader_slashedCode (l : Launch) (D : va_G) (cI : ClassId) (hr : Nat) (ht : Nat) (hT : Nat) (hQ : Nat) (hx : Nat) (hy : Nat) (hg : Nat) (hn : Nat) (p : Int) (bh : Int) (f : Int) (qt : Nat) (ct : Nat) (nt : Int) (ft : Nat → Int32) (st : Int) (kd : Int) (h0 : 0 ≤ nt ∧ nt ≤ ct ∧ ct < 1000000) (hB : byt (lst (tI ft) nt)) (hp : 0 ≤ p ∧ p ≤ nt) (hk : -2147483648 ≤ kd ∧ kd < 2147483648) : CtI l D [(cI, .int)] y_Reader_slashedCode b_Reader_slashedCode 8 (some .int) 1 [.ref hr, .int (iI kd)] [(hr, .inr (3, [.ref ht, .ref hT, .ref hQ, .ref hx, .ref hy, .ref hg, .ref hn, .int (iI p), .int (iI bh), .int (iI f)])), (ht, .inr (0, [.ref qt, .int (iI nt), .int (iI st)])), (qt, .inl (cI, ct, .inl ft))] (S := Int) (fun z u => z = sc (lst (tI ft) nt) kd p ∧ u = p + sl (lst (tI ft) nt) p) (fun u => [(hr, .inr (3, [.ref ht, .ref hT, .ref hQ, .ref hx, .ref hy, .ref hg, .ref hn, .int (iI p), .int (iI u), .int (iI f)])), (ht, .inr (0, [.ref qt, .int (iI nt), .int (iI st)])), (qt, .inl (cI, ct, .inl ft))]) := by
  refine CtI.walk (fun _ => True) (fun z _ => vp_nar_int _) (by decide) (Nat.le_of_ble_eq_true rfl) ?_
  intro xp xe0 xs xm xar xbelow xmeth xc xA0 xQ xe xb xml xo xt xP xK xD xA xret ls xl xS
  have xl : lv_has ls 8 [(0, .ref hr), (1, .int (iI kd))] := xl
  have xo : xs.vm.findClass R_Reader = some xm.cls := xo
  refine lv_aload_n xe xb d_Reader_slashedCode_0 rfl (lv_at xl 0 rfl) ?_
  refine va_get (D := D) (ci := 3) (v := .ref ht) (C := R_Reader) (T := F_Reader) (N := 10) xe xb xt i_Reader xo xK xP 0 rfl rfl 0 (by decide) (xt _ mw_Reader_9) (fun _ h9 => h9) rfl d_Reader_slashedCode_1 ?_
  refine lv_aload_n xe xb d_Reader_slashedCode_4 rfl (lv_at xl 0 rfl) ?_
  refine va_get (D := D) (ci := 3) (v := .int (iI p)) (C := R_Reader) (T := F_Reader) (N := 10) xe xb xt i_Reader xo xK xP 0 rfl rfl 7 (by decide) (xt _ mw_Reader_40) (fun _ h9 => h9) rfl d_Reader_slashedCode_5 ?_
  refine lv_iconst (v := iI (1)) xe xb d_Reader_slashedCode_8 rfl ?_
  refine tk_iadd xe xb d_Reader_slashedCode_9 ?_
  refine tk_callVi (As := [.int (iI (p + 1))]) (rest := []) (wr := [(hr, .inr (3, [.ref ht, .ref hT, .ref hQ, .ref hx, .ref hy, .ref hg, .ref hn, .int (iI p), .int (iI bh), .int (iI f)]))]) (wn := fun u => [(hr, .inr (3, [.ref ht, .ref hT, .ref hQ, .ref hx, .ref hy, .ref hg, .ref hn, .int (iI p), .int (iI bh), .int (iI f)])), (ht, .inr (0, [.ref qt, .int (iI nt), .int (iI st)])), (qt, .inl (cI, ct, .inl ft))]) ⟨xe, xb, xml, xo, xt⟩ (c_Row_get l D cI ht qt ct nt ft st (p + 1) (by first | assumption | omega) (by first | assumption | omega)) k_Row_get mw_Reader_106 ⟨Nat.le_of_ble_eq_true rfl, Nat.le_of_ble_eq_true rfl⟩ xK xP xD xS xA rfl xl.1 rfl (Nat.le_of_ble_eq_true rfl) d_Reader_slashedCode_10 ⟨Nat.zero_le _, Nat.zero_le _⟩ [1, 2] [0] [0, 1, 2] rfl rfl (by decide) (by decide) (by decide) (by decide) (fun _ => rfl) rfl rfl rfl (fun z_2 u H locs hr_3 hw_1 xP xD xS => ?_)
  try dsimp only at hw_1
  have xP : va_P D classes [(hr, .inr (3, [.ref ht, .ref hT, .ref hQ, .ref hx, .ref hy, .ref hg, .ref hn, .int (iI p), .int (iI bh), .int (iI f)])), (ht, .inr (0, [.ref qt, .int (iI nt), .int (iI st)])), (qt, .inl (cI, ct, .inl ft))] H := xP
  have xD : va_D xA0 [(hr, .inr (3, [.ref ht, .ref hT, .ref hQ, .ref hx, .ref hy, .ref hg, .ref hn, .int (iI p), .int (iI bh), .int (iI f)])), (ht, .inr (0, [.ref qt, .int (iI nt), .int (iI st)])), (qt, .inl (cI, ct, .inl ft))] := xD
  have HG := hw_1
  refine lv_istore_n (lv' := [(2, .int (iI z_2)), (0, .ref hr), (1, .int (iI kd))]) xe xb d_Reader_slashedCode_13 rfl xl (by decide) rfl (fun ls xl => ?_)
  refine lv_iload_n xe xb d_Reader_slashedCode_14 rfl (lv_at xl 0 rfl) ?_
  refine lv_bipush (v := iI (117)) xe xb d_Reader_slashedCode_15 (by decide) ?_
  refine tk_icmp_ne (tgt := 24) xe xb d_Reader_slashedCode_17 (by decide) (by omega) (fun C17 => ?_) (fun C17 => ?_)
  · refine lv_iload_n xe xb d_Reader_slashedCode_24 rfl (lv_at xl 0 rfl) ?_
    refine lv_bipush (v := iI (85)) xe xb d_Reader_slashedCode_25 (by decide) ?_
    refine tk_icmp_ne (tgt := 35) xe xb d_Reader_slashedCode_27 (by decide) (by omega) (fun C27 => ?_) (fun C27 => ?_)
    · refine lv_iconst (v := iI (0)) xe xb d_Reader_slashedCode_35 rfl ?_
      refine lv_istore_n (lv' := [(3, .int (iI 0)), (2, .int (iI z_2)), (0, .ref hr), (1, .int (iI kd))]) xe xb d_Reader_slashedCode_36 rfl xl (by decide) rfl (fun ls xl => ?_)
      refine lv_aload_n xe xb d_Reader_slashedCode_37 rfl (lv_at xl 2 rfl) ?_
      refine lv_aload_n xe xb d_Reader_slashedCode_38 rfl (lv_at xl 2 rfl) ?_
      refine va_get (D := D) (ci := 3) (v := .int (iI p)) (C := R_Reader) (T := F_Reader) (N := 10) xe xb xt i_Reader xo xK xP 0 rfl rfl 7 (by decide) (xt _ mw_Reader_40) (fun _ h9 => h9) rfl d_Reader_slashedCode_39 ?_
      refine lv_iconst (v := iI (2)) xe xb d_Reader_slashedCode_42 rfl ?_
      refine tk_iadd xe xb d_Reader_slashedCode_43 ?_
      refine lv_iload_n xe xb d_Reader_slashedCode_44 rfl (lv_at xl 0 rfl) ?_
      refine tk_iadd xe xb d_Reader_slashedCode_45 ?_
      refine va_put (D := D) (ci := 3) (v := .int (iI ((p + 2) + 0))) (ty := .int) (C := R_Reader) (T := F_Reader) (N := 10) xe xb xt i_Reader t_Reader t_Reader_ok n_Reader xo xK xP xD xS 0 rfl rfl 8 (by decide) (xt _ mw_Reader_44) (fun _ h9 => h9) rfl (by decide +kernel) rfl rfl (Nat.le_of_ble_eq_true rfl) d_Reader_slashedCode_46 (fun H locs xP xD xS => ?_)
      have xP : va_P D classes [(hr, .inr (3, [.ref ht, .ref hT, .ref hQ, .ref hx, .ref hy, .ref hg, .ref hn, .int (iI p), .int (iI ((p + 2) + 0)), .int (iI f)])), (ht, .inr (0, [.ref qt, .int (iI nt), .int (iI st)])), (qt, .inl (cI, ct, .inl ft))] H := xP
      have xD : va_D xA0 [(hr, .inr (3, [.ref ht, .ref hT, .ref hQ, .ref hx, .ref hy, .ref hg, .ref hn, .int (iI p), .int (iI ((p + 2) + 0)), .int (iI f)])), (ht, .inr (0, [.ref qt, .int (iI nt), .int (iI st)])), (qt, .inl (cI, ct, .inl ft))] := xD
      refine lv_iload_n xe xb d_Reader_slashedCode_49 rfl (lv_at xl 0 rfl) ?_
      refine tk_if_ne (tgt := 67) xe xb d_Reader_slashedCode_50 (by decide) (by omega) (fun c_4 => absurd c_4 (by omega)) (fun c_4 => ?_)
      refine lv_iload_n xe xb d_Reader_slashedCode_53 rfl (lv_at xl 3 rfl) ?_
      refine lv_iconst (v := iI (2)) xe xb d_Reader_slashedCode_54 rfl ?_
      refine tk_icmp_ne (tgt := 65) xe xb d_Reader_slashedCode_55 (by decide) (by omega) (fun c_5 => ?_) (fun c_5 => ?_)
      · refine lv_iconst (v := iI (-1)) xe xb d_Reader_slashedCode_65 rfl ?_
        exact xret _ _ _ _ (-1) ((p + 2) + 0) d_Reader_slashedCode_66 trivial (by omega) (by first | exact (by unfold sc sl; rw [← HG, if_neg C17, if_neg C27, if_neg C17, if_neg C27]; first | exact ⟨by rw [if_pos (by omega)]; exact HS, by omega⟩ | exact ⟨by rw [if_neg (by omega)], by omega⟩) | (dsimp only; exact (by unfold sc sl; rw [← HG, if_neg C17, if_neg C27, if_neg C17, if_neg C27]; first | exact ⟨by rw [if_pos (by omega)]; exact HS, by omega⟩ | exact ⟨by rw [if_neg (by omega)], by omega⟩))) xP xD xS
      · refine lv_iload_n xe xb d_Reader_slashedCode_58 rfl (lv_at xl 1 rfl) ?_
        refine tk_callSi (As := [.int (iI z_2)]) (rest := []) (wr := [(hr, .inr (3, [.ref ht, .ref hT, .ref hQ, .ref hx, .ref hy, .ref hg, .ref hn, .int (iI p), .int (iI ((p + 2) + 0)), .int (iI f)])), (ht, .inr (0, [.ref qt, .int (iI nt), .int (iI st)])), (qt, .inl (cI, ct, .inl ft))]) (wn := fun u => [(hr, .inr (3, [.ref ht, .ref hT, .ref hQ, .ref hx, .ref hy, .ref hg, .ref hn, .int (iI p), .int (iI ((p + 2) + 0)), .int (iI f)])), (ht, .inr (0, [.ref qt, .int (iI nt), .int (iI st)])), (qt, .inl (cI, ct, .inl ft))]) ⟨xe, xb, xml, xo, xt⟩ (c_Reader_signCode l D cI z_2 (by first | assumption | omega)) k_Reader_signCode mw_Reader_141 ⟨Nat.le_of_ble_eq_true rfl, Nat.le_of_ble_eq_true rfl⟩ xK xP xD xS xA rfl xl.1 rfl (Nat.le_of_ble_eq_true rfl) d_Reader_slashedCode_59 ⟨Nat.zero_le _, Nat.zero_le _⟩ [] [0, 1, 2] [0, 1, 2] rfl rfl (by decide) (by decide) (by decide) (by decide) (fun _ => rfl) (fun z_7 u H locs hr_8 hw_6 xP xD xS => ?_)
        try dsimp only at hw_6
        have xP : va_P D classes [(hr, .inr (3, [.ref ht, .ref hT, .ref hQ, .ref hx, .ref hy, .ref hg, .ref hn, .int (iI p), .int (iI ((p + 2) + 0)), .int (iI f)])), (ht, .inr (0, [.ref qt, .int (iI nt), .int (iI st)])), (qt, .inl (cI, ct, .inl ft))] H := xP
        have xD : va_D xA0 [(hr, .inr (3, [.ref ht, .ref hT, .ref hQ, .ref hx, .ref hy, .ref hg, .ref hn, .int (iI p), .int (iI ((p + 2) + 0)), .int (iI f)])), (ht, .inr (0, [.ref qt, .int (iI nt), .int (iI st)])), (qt, .inl (cI, ct, .inl ft))] := xD
        have HS := hw_6
        refine lv_goto (tgt := 66) xe xb d_Reader_slashedCode_62 (by decide) ?_
        exact xret _ _ _ _ z_7 ((p + 2) + 0) d_Reader_slashedCode_66 trivial (by omega) (by first | exact (by unfold sc sl; rw [← HG, if_neg C17, if_neg C27, if_neg C17, if_neg C27]; first | exact ⟨by rw [if_pos (by omega)]; exact HS, by omega⟩ | exact ⟨by rw [if_neg (by omega)], by omega⟩) | (dsimp only; exact (by unfold sc sl; rw [← HG, if_neg C17, if_neg C27, if_neg C17, if_neg C27]; first | exact ⟨by rw [if_pos (by omega)]; exact HS, by omega⟩ | exact ⟨by rw [if_neg (by omega)], by omega⟩))) xP xD xS
    · refine lv_bipush (v := iI (8)) xe xb d_Reader_slashedCode_30 (by decide) ?_
      refine lv_goto (tgt := 36) xe xb d_Reader_slashedCode_32 (by decide) ?_
      refine lv_istore_n (lv' := [(3, .int (iI 8)), (2, .int (iI z_2)), (0, .ref hr), (1, .int (iI kd))]) xe xb d_Reader_slashedCode_36 rfl xl (by decide) rfl (fun ls xl => ?_)
      refine lv_aload_n xe xb d_Reader_slashedCode_37 rfl (lv_at xl 2 rfl) ?_
      refine lv_aload_n xe xb d_Reader_slashedCode_38 rfl (lv_at xl 2 rfl) ?_
      refine va_get (D := D) (ci := 3) (v := .int (iI p)) (C := R_Reader) (T := F_Reader) (N := 10) xe xb xt i_Reader xo xK xP 0 rfl rfl 7 (by decide) (xt _ mw_Reader_40) (fun _ h9 => h9) rfl d_Reader_slashedCode_39 ?_
      refine lv_iconst (v := iI (2)) xe xb d_Reader_slashedCode_42 rfl ?_
      refine tk_iadd xe xb d_Reader_slashedCode_43 ?_
      refine lv_iload_n xe xb d_Reader_slashedCode_44 rfl (lv_at xl 0 rfl) ?_
      refine tk_iadd xe xb d_Reader_slashedCode_45 ?_
      refine va_put (D := D) (ci := 3) (v := .int (iI ((p + 2) + 8))) (ty := .int) (C := R_Reader) (T := F_Reader) (N := 10) xe xb xt i_Reader t_Reader t_Reader_ok n_Reader xo xK xP xD xS 0 rfl rfl 8 (by decide) (xt _ mw_Reader_44) (fun _ h9 => h9) rfl (by decide +kernel) rfl rfl (Nat.le_of_ble_eq_true rfl) d_Reader_slashedCode_46 (fun H locs xP xD xS => ?_)
      have xP : va_P D classes [(hr, .inr (3, [.ref ht, .ref hT, .ref hQ, .ref hx, .ref hy, .ref hg, .ref hn, .int (iI p), .int (iI ((p + 2) + 8)), .int (iI f)])), (ht, .inr (0, [.ref qt, .int (iI nt), .int (iI st)])), (qt, .inl (cI, ct, .inl ft))] H := xP
      have xD : va_D xA0 [(hr, .inr (3, [.ref ht, .ref hT, .ref hQ, .ref hx, .ref hy, .ref hg, .ref hn, .int (iI p), .int (iI ((p + 2) + 8)), .int (iI f)])), (ht, .inr (0, [.ref qt, .int (iI nt), .int (iI st)])), (qt, .inl (cI, ct, .inl ft))] := xD
      refine lv_iload_n xe xb d_Reader_slashedCode_49 rfl (lv_at xl 0 rfl) ?_
      refine tk_if_ne (tgt := 67) xe xb d_Reader_slashedCode_50 (by decide) (by omega) (fun c_9 => ?_) (fun c_9 => absurd c_9 (by omega))
      refine lv_lconst (v := jI 0) xe xb d_Reader_slashedCode_67 (by decide) ?_
      refine lv_lstore (lv' := [(4, .long (jI 0)), (3, .int (iI 8)), (2, .int (iI z_2)), (0, .ref hr), (1, .int (iI kd))]) xe xb d_Reader_slashedCode_68 xl (by decide) rfl (fun ls xl => ?_)
      refine lv_aload_n xe xb d_Reader_slashedCode_70 rfl (lv_at xl 3 rfl) ?_
      refine va_get (D := D) (ci := 3) (v := .int (iI p)) (C := R_Reader) (T := F_Reader) (N := 10) xe xb xt i_Reader xo xK xP 0 rfl rfl 7 (by decide) (xt _ mw_Reader_40) (fun _ h9 => h9) rfl d_Reader_slashedCode_71 ?_
      refine lv_iconst (v := iI (2)) xe xb d_Reader_slashedCode_74 rfl ?_
      refine tk_iadd xe xb d_Reader_slashedCode_75 ?_
      refine lv_istore (lv' := [(6, .int (iI (p + 2))), (4, .long (jI 0)), (3, .int (iI 8)), (2, .int (iI z_2)), (0, .ref hr), (1, .int (iI kd))]) xe xb d_Reader_slashedCode_76 xl (by decide) rfl (fun ls xl => ?_)
      have loop_78 : ∀ (n9 : Nat) (dg : Int) (bv : Int) (v : Int) (i : Int) (lt : Int), (bv - i).toNat < n9 → ((lt = 117 ∧ dg = 4) ∨ (lt ≠ 117 ∧ lt = 85 ∧ dg = 8)) → (lt = rd (lst (tI ft) nt) (p + 1)) → (bv = p + 2 + dg) → (p + 2 ≤ i ∧ i ≤ bv) → (hv (lst (tI ft) nt) (bv - i).toNat i v = hv (lst (tI ft) nt) dg.toNat (p + 2) 0) → (0 ≤ v ∧ v < 16 ^ (i - (p + 2)).toNat) → ∀ (H : Heap) (locs : List Loc), va_P D classes [(hr, .inr (3, [.ref ht, .ref hT, .ref hQ, .ref hx, .ref hy, .ref hg, .ref hn, .int (iI p), .int (iI bv), .int (iI f)])), (ht, .inr (0, [.ref qt, .int (iI nt), .int (iI st)])), (qt, .inl (cI, ct, .inl ft))] H → va_D xA0 [(hr, .inr (3, [.ref ht, .ref hT, .ref hQ, .ref hx, .ref hy, .ref hg, .ref hn, .int (iI p), .int (iI bv), .int (iI f)])), (ht, .inr (0, [.ref qt, .int (iI nt), .int (iI st)])), (qt, .inl (cI, ct, .inl ft))] → va_S xA0 xs.heap H locs → ∀ ls : Array Slot, lv_has ls 8 [(0, .ref hr), (1, .int (iI kd)), (2, .int (iI lt)), (3, .int (iI dg)), (4, .long (jI v)), (6, .int (iI i))] → W xp l xe0 (tk_rm 1) xs xm xar xbelow xmeth xc H locs 0 0 xQ (F0 xm 78 ls []) := by
        intro n9
        induction n9 with
        | zero => intro dg bv v i lt h9; exact absurd h9 (Nat.not_lt_zero _)
        | succ n9 ih9 =>
          intro dg bv v i lt hm9 hd hl1 hb1 hi h1 h2 H locs xP xD xS ls xl
          have ih_78 := ih9
          have hm_78 := hm9
          have h3 := p16 (k := (i - (p + 2)).toNat) (by omega)
          refine lv_iload xe xb d_Reader_slashedCode_78 (lv_at xl 5 rfl) ?_
          refine lv_aload_n xe xb d_Reader_slashedCode_80 rfl (lv_at xl 0 rfl) ?_
          refine va_get (D := D) (ci := 3) (v := .int (iI bv)) (C := R_Reader) (T := F_Reader) (N := 10) xe xb xt i_Reader xo xK xP 0 rfl rfl 8 (by decide) (xt _ mw_Reader_44) (fun _ h9 => h9) rfl d_Reader_slashedCode_81 ?_
          refine tk_icmp_ge (tgt := 127) xe xb d_Reader_slashedCode_84 (by decide) (by omega) (fun c_10 => ?_) (fun c_10 => ?_)
          · refine lv_lload xe xb d_Reader_slashedCode_127 (lv_at xl 4 rfl) ?_
            refine tk_callSi (As := [.long (jI v)]) (rest := []) (wr := [(hr, .inr (3, [.ref ht, .ref hT, .ref hQ, .ref hx, .ref hy, .ref hg, .ref hn, .int (iI p), .int (iI bv), .int (iI f)])), (ht, .inr (0, [.ref qt, .int (iI nt), .int (iI st)])), (qt, .inl (cI, ct, .inl ft))]) (wn := fun u => [(hr, .inr (3, [.ref ht, .ref hT, .ref hQ, .ref hx, .ref hy, .ref hg, .ref hn, .int (iI p), .int (iI bv), .int (iI f)])), (ht, .inr (0, [.ref qt, .int (iI nt), .int (iI st)])), (qt, .inl (cI, ct, .inl ft))]) ⟨xe, xb, xml, xo, xt⟩ (c_Reader_isCode l D cI v (by omega)) k_Reader_isCode mw_Reader_149 ⟨Nat.le_of_ble_eq_true rfl, Nat.le_of_ble_eq_true rfl⟩ xK xP xD xS xA rfl xl.1 rfl (Nat.le_of_ble_eq_true rfl) d_Reader_slashedCode_129 ⟨Nat.zero_le _, Nat.zero_le _⟩ [] [0, 1, 2] [0, 1, 2] rfl rfl (by decide) (by decide) (by decide) (by decide) (fun _ => rfl) (fun z_12 u H locs hr_13 hw_11 xP xD xS => ?_)
            try dsimp only at hw_11
            have xP : va_P D classes [(hr, .inr (3, [.ref ht, .ref hT, .ref hQ, .ref hx, .ref hy, .ref hg, .ref hn, .int (iI p), .int (iI bv), .int (iI f)])), (ht, .inr (0, [.ref qt, .int (iI nt), .int (iI st)])), (qt, .inl (cI, ct, .inl ft))] H := xP
            have xD : va_D xA0 [(hr, .inr (3, [.ref ht, .ref hT, .ref hQ, .ref hx, .ref hy, .ref hg, .ref hn, .int (iI p), .int (iI bv), .int (iI f)])), (ht, .inr (0, [.ref qt, .int (iI nt), .int (iI st)])), (qt, .inl (cI, ct, .inl ft))] := xD
            rcases hw_11 with ⟨rfl, HC⟩ | ⟨rfl, HC⟩
            · refine tk_if_eq (tgt := 141) xe xb d_Reader_slashedCode_132 (by decide) (by omega) (fun c_14 => absurd c_14 (by omega)) (fun c_14 => ?_)
              refine lv_lload xe xb d_Reader_slashedCode_135 (lv_at xl 4 rfl) ?_
              refine tk_l2i xe xb d_Reader_slashedCode_137 ?_
              refine lv_goto (tgt := 142) xe xb d_Reader_slashedCode_138 (by decide) ?_
              exact xret _ _ _ _ v bv d_Reader_slashedCode_142 trivial (by omega) (by first | exact (by have h8 := h1; rw [show (bv - i).toNat = 0 by omega] at h8; unfold sc sl; rw [← hl1]; rcases hd with ⟨a1, a2⟩ | ⟨a0, a1, a2⟩; (subst a2; rw [if_pos a1, if_pos a1]; refine ⟨?_, by omega⟩; unfold cod; rw [show hv (lst (tI ft) nt) 4 (p + 2) 0 = v from h8.symm]; first | rw [if_pos HC] | rw [if_neg HC]); (subst a2; rw [if_neg a0, if_pos a1, if_neg a0, if_pos a1]; refine ⟨?_, by omega⟩; unfold cod; rw [show hv (lst (tI ft) nt) 8 (p + 2) 0 = v from h8.symm]; first | rw [if_pos HC] | rw [if_neg HC])) | (dsimp only; exact (by have h8 := h1; rw [show (bv - i).toNat = 0 by omega] at h8; unfold sc sl; rw [← hl1]; rcases hd with ⟨a1, a2⟩ | ⟨a0, a1, a2⟩; (subst a2; rw [if_pos a1, if_pos a1]; refine ⟨?_, by omega⟩; unfold cod; rw [show hv (lst (tI ft) nt) 4 (p + 2) 0 = v from h8.symm]; first | rw [if_pos HC] | rw [if_neg HC]); (subst a2; rw [if_neg a0, if_pos a1, if_neg a0, if_pos a1]; refine ⟨?_, by omega⟩; unfold cod; rw [show hv (lst (tI ft) nt) 8 (p + 2) 0 = v from h8.symm]; first | rw [if_pos HC] | rw [if_neg HC])))) xP xD xS
            · refine tk_if_eq (tgt := 141) xe xb d_Reader_slashedCode_132 (by decide) (by omega) (fun c_15 => ?_) (fun c_15 => absurd c_15 (by omega))
              refine lv_iconst (v := iI (-1)) xe xb d_Reader_slashedCode_141 rfl ?_
              exact xret _ _ _ _ (-1) bv d_Reader_slashedCode_142 trivial (by omega) (by first | exact (by have h8 := h1; rw [show (bv - i).toNat = 0 by omega] at h8; unfold sc sl; rw [← hl1]; rcases hd with ⟨a1, a2⟩ | ⟨a0, a1, a2⟩; (subst a2; rw [if_pos a1, if_pos a1]; refine ⟨?_, by omega⟩; unfold cod; rw [show hv (lst (tI ft) nt) 4 (p + 2) 0 = v from h8.symm]; first | rw [if_pos HC] | rw [if_neg HC]); (subst a2; rw [if_neg a0, if_pos a1, if_neg a0, if_pos a1]; refine ⟨?_, by omega⟩; unfold cod; rw [show hv (lst (tI ft) nt) 8 (p + 2) 0 = v from h8.symm]; first | rw [if_pos HC] | rw [if_neg HC])) | (dsimp only; exact (by have h8 := h1; rw [show (bv - i).toNat = 0 by omega] at h8; unfold sc sl; rw [← hl1]; rcases hd with ⟨a1, a2⟩ | ⟨a0, a1, a2⟩; (subst a2; rw [if_pos a1, if_pos a1]; refine ⟨?_, by omega⟩; unfold cod; rw [show hv (lst (tI ft) nt) 4 (p + 2) 0 = v from h8.symm]; first | rw [if_pos HC] | rw [if_neg HC]); (subst a2; rw [if_neg a0, if_pos a1, if_neg a0, if_pos a1]; refine ⟨?_, by omega⟩; unfold cod; rw [show hv (lst (tI ft) nt) 8 (p + 2) 0 = v from h8.symm]; first | rw [if_pos HC] | rw [if_neg HC])))) xP xD xS
          · refine lv_aload_n xe xb d_Reader_slashedCode_87 rfl (lv_at xl 0 rfl) ?_
            refine va_get (D := D) (ci := 3) (v := .ref ht) (C := R_Reader) (T := F_Reader) (N := 10) xe xb xt i_Reader xo xK xP 0 rfl rfl 0 (by decide) (xt _ mw_Reader_9) (fun _ h9 => h9) rfl d_Reader_slashedCode_88 ?_
            refine lv_iload xe xb d_Reader_slashedCode_91 (lv_at xl 5 rfl) ?_
            refine tk_callVi (As := [.int (iI i)]) (rest := []) (wr := [(hr, .inr (3, [.ref ht, .ref hT, .ref hQ, .ref hx, .ref hy, .ref hg, .ref hn, .int (iI p), .int (iI bv), .int (iI f)]))]) (wn := fun u => [(hr, .inr (3, [.ref ht, .ref hT, .ref hQ, .ref hx, .ref hy, .ref hg, .ref hn, .int (iI p), .int (iI bv), .int (iI f)])), (ht, .inr (0, [.ref qt, .int (iI nt), .int (iI st)])), (qt, .inl (cI, ct, .inl ft))]) ⟨xe, xb, xml, xo, xt⟩ (c_Row_get l D cI ht qt ct nt ft st i (by first | assumption | omega) (by first | assumption | omega)) k_Row_get mw_Reader_106 ⟨Nat.le_of_ble_eq_true rfl, Nat.le_of_ble_eq_true rfl⟩ xK xP xD xS xA rfl xl.1 rfl (Nat.le_of_ble_eq_true rfl) d_Reader_slashedCode_93 ⟨Nat.zero_le _, Nat.zero_le _⟩ [1, 2] [0] [0, 1, 2] rfl rfl (by decide) (by decide) (by decide) (by decide) (fun _ => rfl) rfl rfl rfl (fun z_17 u H locs hr_18 hw_16 xP xD xS => ?_)
            try dsimp only at hw_16
            have xP : va_P D classes [(hr, .inr (3, [.ref ht, .ref hT, .ref hQ, .ref hx, .ref hy, .ref hg, .ref hn, .int (iI p), .int (iI bv), .int (iI f)])), (ht, .inr (0, [.ref qt, .int (iI nt), .int (iI st)])), (qt, .inl (cI, ct, .inl ft))] H := xP
            have xD : va_D xA0 [(hr, .inr (3, [.ref ht, .ref hT, .ref hQ, .ref hx, .ref hy, .ref hg, .ref hn, .int (iI p), .int (iI bv), .int (iI f)])), (ht, .inr (0, [.ref qt, .int (iI nt), .int (iI st)])), (qt, .inl (cI, ct, .inl ft))] := xD
            have HG2 := hw_16
            refine tk_callSi (As := [.int (iI z_17)]) (rest := []) (wr := [(hr, .inr (3, [.ref ht, .ref hT, .ref hQ, .ref hx, .ref hy, .ref hg, .ref hn, .int (iI p), .int (iI bv), .int (iI f)])), (ht, .inr (0, [.ref qt, .int (iI nt), .int (iI st)])), (qt, .inl (cI, ct, .inl ft))]) (wn := fun u => [(hr, .inr (3, [.ref ht, .ref hT, .ref hQ, .ref hx, .ref hy, .ref hg, .ref hn, .int (iI p), .int (iI bv), .int (iI f)])), (ht, .inr (0, [.ref qt, .int (iI nt), .int (iI st)])), (qt, .inl (cI, ct, .inl ft))]) ⟨xe, xb, xml, xo, xt⟩ (c_Reader_hexDigit l D cI z_17 (by first | assumption | omega)) k_Reader_hexDigit mw_Reader_144 ⟨Nat.le_of_ble_eq_true rfl, Nat.le_of_ble_eq_true rfl⟩ xK xP xD xS xA rfl xl.1 rfl (Nat.le_of_ble_eq_true rfl) d_Reader_slashedCode_96 ⟨Nat.zero_le _, Nat.zero_le _⟩ [] [0, 1, 2] [0, 1, 2] rfl rfl (by decide) (by decide) (by decide) (by decide) (fun _ => rfl) (fun z_20 u H locs hr_21 hw_19 xP xD xS => ?_)
            try dsimp only at hw_19
            have xP : va_P D classes [(hr, .inr (3, [.ref ht, .ref hT, .ref hQ, .ref hx, .ref hy, .ref hg, .ref hn, .int (iI p), .int (iI bv), .int (iI f)])), (ht, .inr (0, [.ref qt, .int (iI nt), .int (iI st)])), (qt, .inl (cI, ct, .inl ft))] H := xP
            have xD : va_D xA0 [(hr, .inr (3, [.ref ht, .ref hT, .ref hQ, .ref hx, .ref hy, .ref hg, .ref hn, .int (iI p), .int (iI bv), .int (iI f)])), (ht, .inr (0, [.ref qt, .int (iI nt), .int (iI st)])), (qt, .inl (cI, ct, .inl ft))] := xD
            have HX := hw_19
            refine lv_istore (lv' := [(7, .int (iI z_20)), (0, .ref hr), (1, .int (iI kd)), (2, .int (iI lt)), (3, .int (iI dg)), (4, .long (jI v)), (6, .int (iI i))]) xe xb d_Reader_slashedCode_99 xl (by decide) rfl (fun ls xl => ?_)
            refine lv_iload xe xb d_Reader_slashedCode_101 (lv_at xl 0 rfl) ?_
            refine lv_iconst (v := iI (-1)) xe xb d_Reader_slashedCode_103 rfl ?_
            refine tk_icmp_ne (tgt := 109) xe xb d_Reader_slashedCode_104 (by decide) (by omega) (fun c_22 => ?_) (fun c_22 => ?_)
            · refine lv_lload xe xb d_Reader_slashedCode_109 (lv_at xl 5 rfl) ?_
              refine lv_ldc2 (v := jI 16) xe xb xo (by have h9 := xt _ mw_Reader_147; exact h9) d_Reader_slashedCode_111 ?_
              refine tk_lmul xe xb d_Reader_slashedCode_114 ?_
              refine lv_iload xe xb d_Reader_slashedCode_115 (lv_at xl 0 rfl) ?_
              refine tk_i2l xe xb d_Reader_slashedCode_117 (by omega) ?_
              refine tk_ladd xe xb d_Reader_slashedCode_118 ?_
              refine lv_lstore (lv' := [(4, .long (jI ((v * 16) + z_20))), (7, .int (iI z_20)), (0, .ref hr), (1, .int (iI kd)), (2, .int (iI lt)), (3, .int (iI dg)), (6, .int (iI i))]) xe xb d_Reader_slashedCode_119 xl (by decide) rfl (fun ls xl => ?_)
              refine tk_iinc (v := (i + 1)) (lv' := [(6, .int (iI (i + 1))), (4, .long (jI ((v * 16) + z_20))), (7, .int (iI z_20)), (0, .ref hr), (1, .int (iI kd)), (2, .int (iI lt)), (3, .int (iI dg))]) xe xb d_Reader_slashedCode_121 xl (k := 6) rfl rfl (by decide) rfl (fun ls xl => ?_)
              refine lv_goto (tgt := 78) xe xb d_Reader_slashedCode_124 (by decide) ?_
              exact ih_78 dg bv ((v * 16) + z_20) (i + 1) lt (by omega) (by first | assumption | omega) (by first | assumption | omega) (by first | assumption | omega) (by first | assumption | omega) (by rw [← h1, show (bv - i).toNat = (bv - (i + 1)).toNat + 1 by omega]; rw [hv_s (by rw [← HG2, ← HX]; omega), ← HG2, ← HX]) (by have h9 := hexD_rg (rd (lst (tI ft) nt) i); rw [← HG2, ← HX] at h9; rw [show (i + 1 - (p + 2)).toNat = (i - (p + 2)).toNat + 1 by omega, Int.pow_succ]; omega) _ _ xP xD xS ls (lv_sub xl [3, 4, 5, 6, 1, 0] rfl)
            · refine lv_iconst (v := iI (-1)) xe xb d_Reader_slashedCode_107 rfl ?_
              exact xret _ _ _ _ (-1) bv d_Reader_slashedCode_108 trivial (by omega) (by first | exact (by have h8 := h1; rw [show (bv - i).toNat = (bv - (i + 1)).toNat + 1 by omega] at h8; unfold hv at h8; rw [← HG2, ← HX, if_pos (by omega)] at h8; unfold sc sl; rw [← hl1]; rcases hd with ⟨a1, a2⟩ | ⟨a0, a1, a2⟩; (subst a2; rw [if_pos a1, if_pos a1]; refine ⟨?_, by omega⟩; unfold cod; rw [show hv (lst (tI ft) nt) 4 (p + 2) 0 = -1 from h8.symm, if_neg (by omega)]); (subst a2; rw [if_neg a0, if_pos a1, if_neg a0, if_pos a1]; refine ⟨?_, by omega⟩; unfold cod; rw [show hv (lst (tI ft) nt) 8 (p + 2) 0 = -1 from h8.symm, if_neg (by omega)])) | (dsimp only; exact (by have h8 := h1; rw [show (bv - i).toNat = (bv - (i + 1)).toNat + 1 by omega] at h8; unfold hv at h8; rw [← HG2, ← HX, if_pos (by omega)] at h8; unfold sc sl; rw [← hl1]; rcases hd with ⟨a1, a2⟩ | ⟨a0, a1, a2⟩; (subst a2; rw [if_pos a1, if_pos a1]; refine ⟨?_, by omega⟩; unfold cod; rw [show hv (lst (tI ft) nt) 4 (p + 2) 0 = -1 from h8.symm, if_neg (by omega)]); (subst a2; rw [if_neg a0, if_pos a1, if_neg a0, if_pos a1]; refine ⟨?_, by omega⟩; unfold cod; rw [show hv (lst (tI ft) nt) 8 (p + 2) 0 = -1 from h8.symm, if_neg (by omega)])))) xP xD xS
      exact loop_78 _ 8 ((p + 2) + 8) 0 (p + 2) z_2 (Nat.lt_succ_self _) (by omega) HG (by omega) (by first | assumption | omega) (by congr 1; omega) (by rw [show ((p + 2) - (p + 2)).toNat = 0 by omega]; omega) _ _ xP xD xS ls (lv_sub xl [4, 5, 3, 2, 1, 0] rfl)
  · refine lv_iconst (v := iI (4)) xe xb d_Reader_slashedCode_20 rfl ?_
    refine lv_goto (tgt := 36) xe xb d_Reader_slashedCode_21 (by decide) ?_
    refine lv_istore_n (lv' := [(3, .int (iI 4)), (2, .int (iI z_2)), (0, .ref hr), (1, .int (iI kd))]) xe xb d_Reader_slashedCode_36 rfl xl (by decide) rfl (fun ls xl => ?_)
    refine lv_aload_n xe xb d_Reader_slashedCode_37 rfl (lv_at xl 2 rfl) ?_
    refine lv_aload_n xe xb d_Reader_slashedCode_38 rfl (lv_at xl 2 rfl) ?_
    refine va_get (D := D) (ci := 3) (v := .int (iI p)) (C := R_Reader) (T := F_Reader) (N := 10) xe xb xt i_Reader xo xK xP 0 rfl rfl 7 (by decide) (xt _ mw_Reader_40) (fun _ h9 => h9) rfl d_Reader_slashedCode_39 ?_
    refine lv_iconst (v := iI (2)) xe xb d_Reader_slashedCode_42 rfl ?_
    refine tk_iadd xe xb d_Reader_slashedCode_43 ?_
    refine lv_iload_n xe xb d_Reader_slashedCode_44 rfl (lv_at xl 0 rfl) ?_
    refine tk_iadd xe xb d_Reader_slashedCode_45 ?_
    refine va_put (D := D) (ci := 3) (v := .int (iI ((p + 2) + 4))) (ty := .int) (C := R_Reader) (T := F_Reader) (N := 10) xe xb xt i_Reader t_Reader t_Reader_ok n_Reader xo xK xP xD xS 0 rfl rfl 8 (by decide) (xt _ mw_Reader_44) (fun _ h9 => h9) rfl (by decide +kernel) rfl rfl (Nat.le_of_ble_eq_true rfl) d_Reader_slashedCode_46 (fun H locs xP xD xS => ?_)
    have xP : va_P D classes [(hr, .inr (3, [.ref ht, .ref hT, .ref hQ, .ref hx, .ref hy, .ref hg, .ref hn, .int (iI p), .int (iI ((p + 2) + 4)), .int (iI f)])), (ht, .inr (0, [.ref qt, .int (iI nt), .int (iI st)])), (qt, .inl (cI, ct, .inl ft))] H := xP
    have xD : va_D xA0 [(hr, .inr (3, [.ref ht, .ref hT, .ref hQ, .ref hx, .ref hy, .ref hg, .ref hn, .int (iI p), .int (iI ((p + 2) + 4)), .int (iI f)])), (ht, .inr (0, [.ref qt, .int (iI nt), .int (iI st)])), (qt, .inl (cI, ct, .inl ft))] := xD
    refine lv_iload_n xe xb d_Reader_slashedCode_49 rfl (lv_at xl 0 rfl) ?_
    refine tk_if_ne (tgt := 67) xe xb d_Reader_slashedCode_50 (by decide) (by omega) (fun c_23 => ?_) (fun c_23 => absurd c_23 (by omega))
    refine lv_lconst (v := jI 0) xe xb d_Reader_slashedCode_67 (by decide) ?_
    refine lv_lstore (lv' := [(4, .long (jI 0)), (3, .int (iI 4)), (2, .int (iI z_2)), (0, .ref hr), (1, .int (iI kd))]) xe xb d_Reader_slashedCode_68 xl (by decide) rfl (fun ls xl => ?_)
    refine lv_aload_n xe xb d_Reader_slashedCode_70 rfl (lv_at xl 3 rfl) ?_
    refine va_get (D := D) (ci := 3) (v := .int (iI p)) (C := R_Reader) (T := F_Reader) (N := 10) xe xb xt i_Reader xo xK xP 0 rfl rfl 7 (by decide) (xt _ mw_Reader_40) (fun _ h9 => h9) rfl d_Reader_slashedCode_71 ?_
    refine lv_iconst (v := iI (2)) xe xb d_Reader_slashedCode_74 rfl ?_
    refine tk_iadd xe xb d_Reader_slashedCode_75 ?_
    refine lv_istore (lv' := [(6, .int (iI (p + 2))), (4, .long (jI 0)), (3, .int (iI 4)), (2, .int (iI z_2)), (0, .ref hr), (1, .int (iI kd))]) xe xb d_Reader_slashedCode_76 xl (by decide) rfl (fun ls xl => ?_)
    have loop_78 : ∀ (n9 : Nat) (dg : Int) (bv : Int) (v : Int) (i : Int) (lt : Int), (bv - i).toNat < n9 → ((lt = 117 ∧ dg = 4) ∨ (lt ≠ 117 ∧ lt = 85 ∧ dg = 8)) → (lt = rd (lst (tI ft) nt) (p + 1)) → (bv = p + 2 + dg) → (p + 2 ≤ i ∧ i ≤ bv) → (hv (lst (tI ft) nt) (bv - i).toNat i v = hv (lst (tI ft) nt) dg.toNat (p + 2) 0) → (0 ≤ v ∧ v < 16 ^ (i - (p + 2)).toNat) → ∀ (H : Heap) (locs : List Loc), va_P D classes [(hr, .inr (3, [.ref ht, .ref hT, .ref hQ, .ref hx, .ref hy, .ref hg, .ref hn, .int (iI p), .int (iI bv), .int (iI f)])), (ht, .inr (0, [.ref qt, .int (iI nt), .int (iI st)])), (qt, .inl (cI, ct, .inl ft))] H → va_D xA0 [(hr, .inr (3, [.ref ht, .ref hT, .ref hQ, .ref hx, .ref hy, .ref hg, .ref hn, .int (iI p), .int (iI bv), .int (iI f)])), (ht, .inr (0, [.ref qt, .int (iI nt), .int (iI st)])), (qt, .inl (cI, ct, .inl ft))] → va_S xA0 xs.heap H locs → ∀ ls : Array Slot, lv_has ls 8 [(0, .ref hr), (1, .int (iI kd)), (2, .int (iI lt)), (3, .int (iI dg)), (4, .long (jI v)), (6, .int (iI i))] → W xp l xe0 (tk_rm 1) xs xm xar xbelow xmeth xc H locs 0 0 xQ (F0 xm 78 ls []) := by
      intro n9
      induction n9 with
      | zero => intro dg bv v i lt h9; exact absurd h9 (Nat.not_lt_zero _)
      | succ n9 ih9 =>
        intro dg bv v i lt hm9 hd hl1 hb1 hi h1 h2 H locs xP xD xS ls xl
        have ih_78 := ih9
        have hm_78 := hm9
        have h3 := p16 (k := (i - (p + 2)).toNat) (by omega)
        refine lv_iload xe xb d_Reader_slashedCode_78 (lv_at xl 5 rfl) ?_
        refine lv_aload_n xe xb d_Reader_slashedCode_80 rfl (lv_at xl 0 rfl) ?_
        refine va_get (D := D) (ci := 3) (v := .int (iI bv)) (C := R_Reader) (T := F_Reader) (N := 10) xe xb xt i_Reader xo xK xP 0 rfl rfl 8 (by decide) (xt _ mw_Reader_44) (fun _ h9 => h9) rfl d_Reader_slashedCode_81 ?_
        refine tk_icmp_ge (tgt := 127) xe xb d_Reader_slashedCode_84 (by decide) (by omega) (fun c_24 => ?_) (fun c_24 => ?_)
        · refine lv_lload xe xb d_Reader_slashedCode_127 (lv_at xl 4 rfl) ?_
          refine tk_callSi (As := [.long (jI v)]) (rest := []) (wr := [(hr, .inr (3, [.ref ht, .ref hT, .ref hQ, .ref hx, .ref hy, .ref hg, .ref hn, .int (iI p), .int (iI bv), .int (iI f)])), (ht, .inr (0, [.ref qt, .int (iI nt), .int (iI st)])), (qt, .inl (cI, ct, .inl ft))]) (wn := fun u => [(hr, .inr (3, [.ref ht, .ref hT, .ref hQ, .ref hx, .ref hy, .ref hg, .ref hn, .int (iI p), .int (iI bv), .int (iI f)])), (ht, .inr (0, [.ref qt, .int (iI nt), .int (iI st)])), (qt, .inl (cI, ct, .inl ft))]) ⟨xe, xb, xml, xo, xt⟩ (c_Reader_isCode l D cI v (by omega)) k_Reader_isCode mw_Reader_149 ⟨Nat.le_of_ble_eq_true rfl, Nat.le_of_ble_eq_true rfl⟩ xK xP xD xS xA rfl xl.1 rfl (Nat.le_of_ble_eq_true rfl) d_Reader_slashedCode_129 ⟨Nat.zero_le _, Nat.zero_le _⟩ [] [0, 1, 2] [0, 1, 2] rfl rfl (by decide) (by decide) (by decide) (by decide) (fun _ => rfl) (fun z_26 u H locs hr_27 hw_25 xP xD xS => ?_)
          try dsimp only at hw_25
          have xP : va_P D classes [(hr, .inr (3, [.ref ht, .ref hT, .ref hQ, .ref hx, .ref hy, .ref hg, .ref hn, .int (iI p), .int (iI bv), .int (iI f)])), (ht, .inr (0, [.ref qt, .int (iI nt), .int (iI st)])), (qt, .inl (cI, ct, .inl ft))] H := xP
          have xD : va_D xA0 [(hr, .inr (3, [.ref ht, .ref hT, .ref hQ, .ref hx, .ref hy, .ref hg, .ref hn, .int (iI p), .int (iI bv), .int (iI f)])), (ht, .inr (0, [.ref qt, .int (iI nt), .int (iI st)])), (qt, .inl (cI, ct, .inl ft))] := xD
          rcases hw_25 with ⟨rfl, HC⟩ | ⟨rfl, HC⟩
          · refine tk_if_eq (tgt := 141) xe xb d_Reader_slashedCode_132 (by decide) (by omega) (fun c_28 => absurd c_28 (by omega)) (fun c_28 => ?_)
            refine lv_lload xe xb d_Reader_slashedCode_135 (lv_at xl 4 rfl) ?_
            refine tk_l2i xe xb d_Reader_slashedCode_137 ?_
            refine lv_goto (tgt := 142) xe xb d_Reader_slashedCode_138 (by decide) ?_
            exact xret _ _ _ _ v bv d_Reader_slashedCode_142 trivial (by omega) (by first | exact (by have h8 := h1; rw [show (bv - i).toNat = 0 by omega] at h8; unfold sc sl; rw [← hl1]; rcases hd with ⟨a1, a2⟩ | ⟨a0, a1, a2⟩; (subst a2; rw [if_pos a1, if_pos a1]; refine ⟨?_, by omega⟩; unfold cod; rw [show hv (lst (tI ft) nt) 4 (p + 2) 0 = v from h8.symm]; first | rw [if_pos HC] | rw [if_neg HC]); (subst a2; rw [if_neg a0, if_pos a1, if_neg a0, if_pos a1]; refine ⟨?_, by omega⟩; unfold cod; rw [show hv (lst (tI ft) nt) 8 (p + 2) 0 = v from h8.symm]; first | rw [if_pos HC] | rw [if_neg HC])) | (dsimp only; exact (by have h8 := h1; rw [show (bv - i).toNat = 0 by omega] at h8; unfold sc sl; rw [← hl1]; rcases hd with ⟨a1, a2⟩ | ⟨a0, a1, a2⟩; (subst a2; rw [if_pos a1, if_pos a1]; refine ⟨?_, by omega⟩; unfold cod; rw [show hv (lst (tI ft) nt) 4 (p + 2) 0 = v from h8.symm]; first | rw [if_pos HC] | rw [if_neg HC]); (subst a2; rw [if_neg a0, if_pos a1, if_neg a0, if_pos a1]; refine ⟨?_, by omega⟩; unfold cod; rw [show hv (lst (tI ft) nt) 8 (p + 2) 0 = v from h8.symm]; first | rw [if_pos HC] | rw [if_neg HC])))) xP xD xS
          · refine tk_if_eq (tgt := 141) xe xb d_Reader_slashedCode_132 (by decide) (by omega) (fun c_29 => ?_) (fun c_29 => absurd c_29 (by omega))
            refine lv_iconst (v := iI (-1)) xe xb d_Reader_slashedCode_141 rfl ?_
            exact xret _ _ _ _ (-1) bv d_Reader_slashedCode_142 trivial (by omega) (by first | exact (by have h8 := h1; rw [show (bv - i).toNat = 0 by omega] at h8; unfold sc sl; rw [← hl1]; rcases hd with ⟨a1, a2⟩ | ⟨a0, a1, a2⟩; (subst a2; rw [if_pos a1, if_pos a1]; refine ⟨?_, by omega⟩; unfold cod; rw [show hv (lst (tI ft) nt) 4 (p + 2) 0 = v from h8.symm]; first | rw [if_pos HC] | rw [if_neg HC]); (subst a2; rw [if_neg a0, if_pos a1, if_neg a0, if_pos a1]; refine ⟨?_, by omega⟩; unfold cod; rw [show hv (lst (tI ft) nt) 8 (p + 2) 0 = v from h8.symm]; first | rw [if_pos HC] | rw [if_neg HC])) | (dsimp only; exact (by have h8 := h1; rw [show (bv - i).toNat = 0 by omega] at h8; unfold sc sl; rw [← hl1]; rcases hd with ⟨a1, a2⟩ | ⟨a0, a1, a2⟩; (subst a2; rw [if_pos a1, if_pos a1]; refine ⟨?_, by omega⟩; unfold cod; rw [show hv (lst (tI ft) nt) 4 (p + 2) 0 = v from h8.symm]; first | rw [if_pos HC] | rw [if_neg HC]); (subst a2; rw [if_neg a0, if_pos a1, if_neg a0, if_pos a1]; refine ⟨?_, by omega⟩; unfold cod; rw [show hv (lst (tI ft) nt) 8 (p + 2) 0 = v from h8.symm]; first | rw [if_pos HC] | rw [if_neg HC])))) xP xD xS
        · refine lv_aload_n xe xb d_Reader_slashedCode_87 rfl (lv_at xl 0 rfl) ?_
          refine va_get (D := D) (ci := 3) (v := .ref ht) (C := R_Reader) (T := F_Reader) (N := 10) xe xb xt i_Reader xo xK xP 0 rfl rfl 0 (by decide) (xt _ mw_Reader_9) (fun _ h9 => h9) rfl d_Reader_slashedCode_88 ?_
          refine lv_iload xe xb d_Reader_slashedCode_91 (lv_at xl 5 rfl) ?_
          refine tk_callVi (As := [.int (iI i)]) (rest := []) (wr := [(hr, .inr (3, [.ref ht, .ref hT, .ref hQ, .ref hx, .ref hy, .ref hg, .ref hn, .int (iI p), .int (iI bv), .int (iI f)]))]) (wn := fun u => [(hr, .inr (3, [.ref ht, .ref hT, .ref hQ, .ref hx, .ref hy, .ref hg, .ref hn, .int (iI p), .int (iI bv), .int (iI f)])), (ht, .inr (0, [.ref qt, .int (iI nt), .int (iI st)])), (qt, .inl (cI, ct, .inl ft))]) ⟨xe, xb, xml, xo, xt⟩ (c_Row_get l D cI ht qt ct nt ft st i (by first | assumption | omega) (by first | assumption | omega)) k_Row_get mw_Reader_106 ⟨Nat.le_of_ble_eq_true rfl, Nat.le_of_ble_eq_true rfl⟩ xK xP xD xS xA rfl xl.1 rfl (Nat.le_of_ble_eq_true rfl) d_Reader_slashedCode_93 ⟨Nat.zero_le _, Nat.zero_le _⟩ [1, 2] [0] [0, 1, 2] rfl rfl (by decide) (by decide) (by decide) (by decide) (fun _ => rfl) rfl rfl rfl (fun z_31 u H locs hr_32 hw_30 xP xD xS => ?_)
          try dsimp only at hw_30
          have xP : va_P D classes [(hr, .inr (3, [.ref ht, .ref hT, .ref hQ, .ref hx, .ref hy, .ref hg, .ref hn, .int (iI p), .int (iI bv), .int (iI f)])), (ht, .inr (0, [.ref qt, .int (iI nt), .int (iI st)])), (qt, .inl (cI, ct, .inl ft))] H := xP
          have xD : va_D xA0 [(hr, .inr (3, [.ref ht, .ref hT, .ref hQ, .ref hx, .ref hy, .ref hg, .ref hn, .int (iI p), .int (iI bv), .int (iI f)])), (ht, .inr (0, [.ref qt, .int (iI nt), .int (iI st)])), (qt, .inl (cI, ct, .inl ft))] := xD
          have HG2 := hw_30
          refine tk_callSi (As := [.int (iI z_31)]) (rest := []) (wr := [(hr, .inr (3, [.ref ht, .ref hT, .ref hQ, .ref hx, .ref hy, .ref hg, .ref hn, .int (iI p), .int (iI bv), .int (iI f)])), (ht, .inr (0, [.ref qt, .int (iI nt), .int (iI st)])), (qt, .inl (cI, ct, .inl ft))]) (wn := fun u => [(hr, .inr (3, [.ref ht, .ref hT, .ref hQ, .ref hx, .ref hy, .ref hg, .ref hn, .int (iI p), .int (iI bv), .int (iI f)])), (ht, .inr (0, [.ref qt, .int (iI nt), .int (iI st)])), (qt, .inl (cI, ct, .inl ft))]) ⟨xe, xb, xml, xo, xt⟩ (c_Reader_hexDigit l D cI z_31 (by first | assumption | omega)) k_Reader_hexDigit mw_Reader_144 ⟨Nat.le_of_ble_eq_true rfl, Nat.le_of_ble_eq_true rfl⟩ xK xP xD xS xA rfl xl.1 rfl (Nat.le_of_ble_eq_true rfl) d_Reader_slashedCode_96 ⟨Nat.zero_le _, Nat.zero_le _⟩ [] [0, 1, 2] [0, 1, 2] rfl rfl (by decide) (by decide) (by decide) (by decide) (fun _ => rfl) (fun z_34 u H locs hr_35 hw_33 xP xD xS => ?_)
          try dsimp only at hw_33
          have xP : va_P D classes [(hr, .inr (3, [.ref ht, .ref hT, .ref hQ, .ref hx, .ref hy, .ref hg, .ref hn, .int (iI p), .int (iI bv), .int (iI f)])), (ht, .inr (0, [.ref qt, .int (iI nt), .int (iI st)])), (qt, .inl (cI, ct, .inl ft))] H := xP
          have xD : va_D xA0 [(hr, .inr (3, [.ref ht, .ref hT, .ref hQ, .ref hx, .ref hy, .ref hg, .ref hn, .int (iI p), .int (iI bv), .int (iI f)])), (ht, .inr (0, [.ref qt, .int (iI nt), .int (iI st)])), (qt, .inl (cI, ct, .inl ft))] := xD
          have HX := hw_33
          refine lv_istore (lv' := [(7, .int (iI z_34)), (0, .ref hr), (1, .int (iI kd)), (2, .int (iI lt)), (3, .int (iI dg)), (4, .long (jI v)), (6, .int (iI i))]) xe xb d_Reader_slashedCode_99 xl (by decide) rfl (fun ls xl => ?_)
          refine lv_iload xe xb d_Reader_slashedCode_101 (lv_at xl 0 rfl) ?_
          refine lv_iconst (v := iI (-1)) xe xb d_Reader_slashedCode_103 rfl ?_
          refine tk_icmp_ne (tgt := 109) xe xb d_Reader_slashedCode_104 (by decide) (by omega) (fun c_36 => ?_) (fun c_36 => ?_)
          · refine lv_lload xe xb d_Reader_slashedCode_109 (lv_at xl 5 rfl) ?_
            refine lv_ldc2 (v := jI 16) xe xb xo (by have h9 := xt _ mw_Reader_147; exact h9) d_Reader_slashedCode_111 ?_
            refine tk_lmul xe xb d_Reader_slashedCode_114 ?_
            refine lv_iload xe xb d_Reader_slashedCode_115 (lv_at xl 0 rfl) ?_
            refine tk_i2l xe xb d_Reader_slashedCode_117 (by omega) ?_
            refine tk_ladd xe xb d_Reader_slashedCode_118 ?_
            refine lv_lstore (lv' := [(4, .long (jI ((v * 16) + z_34))), (7, .int (iI z_34)), (0, .ref hr), (1, .int (iI kd)), (2, .int (iI lt)), (3, .int (iI dg)), (6, .int (iI i))]) xe xb d_Reader_slashedCode_119 xl (by decide) rfl (fun ls xl => ?_)
            refine tk_iinc (v := (i + 1)) (lv' := [(6, .int (iI (i + 1))), (4, .long (jI ((v * 16) + z_34))), (7, .int (iI z_34)), (0, .ref hr), (1, .int (iI kd)), (2, .int (iI lt)), (3, .int (iI dg))]) xe xb d_Reader_slashedCode_121 xl (k := 6) rfl rfl (by decide) rfl (fun ls xl => ?_)
            refine lv_goto (tgt := 78) xe xb d_Reader_slashedCode_124 (by decide) ?_
            exact ih_78 dg bv ((v * 16) + z_34) (i + 1) lt (by omega) (by first | assumption | omega) (by first | assumption | omega) (by first | assumption | omega) (by first | assumption | omega) (by rw [← h1, show (bv - i).toNat = (bv - (i + 1)).toNat + 1 by omega]; rw [hv_s (by rw [← HG2, ← HX]; omega), ← HG2, ← HX]) (by have h9 := hexD_rg (rd (lst (tI ft) nt) i); rw [← HG2, ← HX] at h9; rw [show (i + 1 - (p + 2)).toNat = (i - (p + 2)).toNat + 1 by omega, Int.pow_succ]; omega) _ _ xP xD xS ls (lv_sub xl [3, 4, 5, 6, 1, 0] rfl)
          · refine lv_iconst (v := iI (-1)) xe xb d_Reader_slashedCode_107 rfl ?_
            exact xret _ _ _ _ (-1) bv d_Reader_slashedCode_108 trivial (by omega) (by first | exact (by have h8 := h1; rw [show (bv - i).toNat = (bv - (i + 1)).toNat + 1 by omega] at h8; unfold hv at h8; rw [← HG2, ← HX, if_pos (by omega)] at h8; unfold sc sl; rw [← hl1]; rcases hd with ⟨a1, a2⟩ | ⟨a0, a1, a2⟩; (subst a2; rw [if_pos a1, if_pos a1]; refine ⟨?_, by omega⟩; unfold cod; rw [show hv (lst (tI ft) nt) 4 (p + 2) 0 = -1 from h8.symm, if_neg (by omega)]); (subst a2; rw [if_neg a0, if_pos a1, if_neg a0, if_pos a1]; refine ⟨?_, by omega⟩; unfold cod; rw [show hv (lst (tI ft) nt) 8 (p + 2) 0 = -1 from h8.symm, if_neg (by omega)])) | (dsimp only; exact (by have h8 := h1; rw [show (bv - i).toNat = (bv - (i + 1)).toNat + 1 by omega] at h8; unfold hv at h8; rw [← HG2, ← HX, if_pos (by omega)] at h8; unfold sc sl; rw [← hl1]; rcases hd with ⟨a1, a2⟩ | ⟨a0, a1, a2⟩; (subst a2; rw [if_pos a1, if_pos a1]; refine ⟨?_, by omega⟩; unfold cod; rw [show hv (lst (tI ft) nt) 4 (p + 2) 0 = -1 from h8.symm, if_neg (by omega)]); (subst a2; rw [if_neg a0, if_pos a1, if_neg a0, if_pos a1]; refine ⟨?_, by omega⟩; unfold cod; rw [show hv (lst (tI ft) nt) 8 (p + 2) 0 = -1 from h8.symm, if_neg (by omega)])))) xP xD xS
    exact loop_78 _ 4 ((p + 2) + 4) 0 (p + 2) z_2 (Nat.lt_succ_self _) (by omega) HG (by omega) (by first | assumption | omega) (by congr 1; omega) (by rw [show ((p + 2) - (p + 2)).toNat = 0 by omega]; omega) _ _ xP xD xS ls (lv_sub xl [4, 5, 3, 2, 1, 0] rfl)
