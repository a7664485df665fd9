theorem d_Terms_add_0 : decode b_Terms_add 0 = .ok (.aload_n 0, 1) := by decide +kernel
theorem d_Terms_add_1 : decode b_Terms_add 1 = .ok (.getfield 30, 3) := by decide +kernel
theorem d_Terms_add_4 : decode b_Terms_add 4 = .ok (.ifCond .lt 30, 3) := by decide +kernel
theorem d_Terms_add_7 : decode b_Terms_add 7 = .ok (.aload_n 0, 1) := by decide +kernel
theorem d_Terms_add_8 : decode b_Terms_add 8 = .ok (.getfield 30, 3) := by decide +kernel
theorem d_Terms_add_11 : decode b_Terms_add 11 = .ok (.bipush 120, 2) := by decide +kernel
theorem d_Terms_add_13 : decode b_Terms_add 13 = .ok (.if_icmp .ge 21, 3) := by decide +kernel
theorem d_Terms_add_16 : decode b_Terms_add 16 = .ok (.aload_n 2, 1) := by decide +kernel
theorem d_Terms_add_17 : decode b_Terms_add 17 = .ok (.getfield 53, 3) := by decide +kernel
theorem d_Terms_add_20 : decode b_Terms_add 20 = .ok (.bipush 40, 2) := by decide +kernel
theorem d_Terms_add_22 : decode b_Terms_add 22 = .ok (.if_icmp .gt 12, 3) := by decide +kernel
theorem d_Terms_add_25 : decode b_Terms_add 25 = .ok (.aload_n 3, 1) := by decide +kernel
theorem d_Terms_add_26 : decode b_Terms_add 26 = .ok (.getfield 53, 3) := by decide +kernel
theorem d_Terms_add_29 : decode b_Terms_add 29 = .ok (.bipush 16, 2) := by decide +kernel
theorem d_Terms_add_31 : decode b_Terms_add 31 = .ok (.if_icmp .le 10, 3) := by decide +kernel
theorem d_Terms_add_34 : decode b_Terms_add 34 = .ok (.aload_n 0, 1) := by decide +kernel
theorem d_Terms_add_35 : decode b_Terms_add 35 = .ok (.iconst 1, 1) := by decide +kernel
theorem d_Terms_add_36 : decode b_Terms_add 36 = .ok (.putfield 37, 3) := by decide +kernel
theorem d_Terms_add_39 : decode b_Terms_add 39 = .ok (.iconst (-1), 1) := by decide +kernel
theorem d_Terms_add_40 : decode b_Terms_add 40 = .ok (.ireturn, 1) := by decide +kernel
theorem d_Terms_add_41 : decode b_Terms_add 41 = .ok (.aload_n 0, 1) := by decide +kernel
theorem d_Terms_add_42 : decode b_Terms_add 42 = .ok (.getfield 30, 3) := by decide +kernel
theorem d_Terms_add_45 : decode b_Terms_add 45 = .ok (.istore 5, 2) := by decide +kernel
theorem d_Terms_add_47 : decode b_Terms_add 47 = .ok (.aload_n 0, 1) := by decide +kernel
theorem d_Terms_add_48 : decode b_Terms_add 48 = .ok (.getfield 9, 3) := by decide +kernel
theorem d_Terms_add_51 : decode b_Terms_add 51 = .ok (.iload 5, 2) := by decide +kernel
theorem d_Terms_add_53 : decode b_Terms_add 53 = .ok (.iload_n 1, 1) := by decide +kernel
theorem d_Terms_add_54 : decode b_Terms_add 54 = .ok (.iastore, 1) := by decide +kernel
theorem d_Terms_add_55 : decode b_Terms_add 55 = .ok (.aload_n 0, 1) := by decide +kernel
theorem d_Terms_add_56 : decode b_Terms_add 56 = .ok (.getfield 27, 3) := by decide +kernel
theorem d_Terms_add_59 : decode b_Terms_add 59 = .ok (.iload 5, 2) := by decide +kernel
theorem d_Terms_add_61 : decode b_Terms_add 61 = .ok (.iload 4, 2) := by decide +kernel
theorem d_Terms_add_63 : decode b_Terms_add 63 = .ok (.iastore, 1) := by decide +kernel
theorem d_Terms_add_64 : decode b_Terms_add 64 = .ok (.aload_n 0, 1) := by decide +kernel
theorem d_Terms_add_65 : decode b_Terms_add 65 = .ok (.getfield 15, 3) := by decide +kernel
theorem d_Terms_add_68 : decode b_Terms_add 68 = .ok (.iload 5, 2) := by decide +kernel
theorem d_Terms_add_70 : decode b_Terms_add 70 = .ok (.aload_n 2, 1) := by decide +kernel
theorem d_Terms_add_71 : decode b_Terms_add 71 = .ok (.getfield 53, 3) := by decide +kernel
theorem d_Terms_add_74 : decode b_Terms_add 74 = .ok (.iastore, 1) := by decide +kernel
theorem d_Terms_add_75 : decode b_Terms_add 75 = .ok (.aload_n 0, 1) := by decide +kernel
theorem d_Terms_add_76 : decode b_Terms_add 76 = .ok (.getfield 21, 3) := by decide +kernel
theorem d_Terms_add_79 : decode b_Terms_add 79 = .ok (.iload 5, 2) := by decide +kernel
theorem d_Terms_add_81 : decode b_Terms_add 81 = .ok (.aload_n 3, 1) := by decide +kernel
theorem d_Terms_add_82 : decode b_Terms_add 82 = .ok (.getfield 53, 3) := by decide +kernel
theorem d_Terms_add_85 : decode b_Terms_add 85 = .ok (.iastore, 1) := by decide +kernel
theorem d_Terms_add_86 : decode b_Terms_add 86 = .ok (.iconst 0, 1) := by decide +kernel
theorem d_Terms_add_87 : decode b_Terms_add 87 = .ok (.istore 6, 2) := by decide +kernel
theorem d_Terms_add_89 : decode b_Terms_add 89 = .ok (.iload 6, 2) := by decide +kernel
theorem d_Terms_add_91 : decode b_Terms_add 91 = .ok (.aload_n 2, 1) := by decide +kernel
theorem d_Terms_add_92 : decode b_Terms_add 92 = .ok (.getfield 53, 3) := by decide +kernel
theorem d_Terms_add_95 : decode b_Terms_add 95 = .ok (.if_icmp .ge 35, 3) := by decide +kernel
theorem d_Terms_add_98 : decode b_Terms_add 98 = .ok (.iload 6, 2) := by decide +kernel
theorem d_Terms_add_100 : decode b_Terms_add 100 = .ok (.bipush 40, 2) := by decide +kernel
theorem d_Terms_add_102 : decode b_Terms_add 102 = .ok (.if_icmp .ge 28, 3) := by decide +kernel
theorem d_Terms_add_105 : decode b_Terms_add 105 = .ok (.aload_n 0, 1) := by decide +kernel
theorem d_Terms_add_106 : decode b_Terms_add 106 = .ok (.getfield 18, 3) := by decide +kernel
theorem d_Terms_add_109 : decode b_Terms_add 109 = .ok (.iload 5, 2) := by decide +kernel
theorem d_Terms_add_111 : decode b_Terms_add 111 = .ok (.bipush 40, 2) := by decide +kernel
theorem d_Terms_add_113 : decode b_Terms_add 113 = .ok (.imul, 1) := by decide +kernel
theorem d_Terms_add_114 : decode b_Terms_add 114 = .ok (.iload 6, 2) := by decide +kernel
theorem d_Terms_add_116 : decode b_Terms_add 116 = .ok (.iadd, 1) := by decide +kernel
theorem d_Terms_add_117 : decode b_Terms_add 117 = .ok (.aload_n 2, 1) := by decide +kernel
theorem d_Terms_add_118 : decode b_Terms_add 118 = .ok (.iload 6, 2) := by decide +kernel
theorem d_Terms_add_120 : decode b_Terms_add 120 = .ok (.invokevirtual 65, 3) := by decide +kernel
theorem d_Terms_add_123 : decode b_Terms_add 123 = .ok (.iastore, 1) := by decide +kernel
theorem d_Terms_add_124 : decode b_Terms_add 124 = .ok (.iinc 6 1, 3) := by decide +kernel
theorem d_Terms_add_127 : decode b_Terms_add 127 = .ok (.goto (-38), 3) := by decide +kernel
theorem d_Terms_add_130 : decode b_Terms_add 130 = .ok (.iconst 0, 1) := by decide +kernel
theorem d_Terms_add_131 : decode b_Terms_add 131 = .ok (.istore 6, 2) := by decide +kernel
theorem d_Terms_add_133 : decode b_Terms_add 133 = .ok (.iload 6, 2) := by decide +kernel
theorem d_Terms_add_135 : decode b_Terms_add 135 = .ok (.aload_n 3, 1) := by decide +kernel
theorem d_Terms_add_136 : decode b_Terms_add 136 = .ok (.getfield 53, 3) := by decide +kernel
theorem d_Terms_add_139 : decode b_Terms_add 139 = .ok (.if_icmp .ge 35, 3) := by decide +kernel
theorem d_Terms_add_142 : decode b_Terms_add 142 = .ok (.iload 6, 2) := by decide +kernel
theorem d_Terms_add_144 : decode b_Terms_add 144 = .ok (.bipush 16, 2) := by decide +kernel
theorem d_Terms_add_146 : decode b_Terms_add 146 = .ok (.if_icmp .ge 28, 3) := by decide +kernel
theorem d_Terms_add_149 : decode b_Terms_add 149 = .ok (.aload_n 0, 1) := by decide +kernel
theorem d_Terms_add_150 : decode b_Terms_add 150 = .ok (.getfield 24, 3) := by decide +kernel
theorem d_Terms_add_153 : decode b_Terms_add 153 = .ok (.iload 5, 2) := by decide +kernel
theorem d_Terms_add_155 : decode b_Terms_add 155 = .ok (.bipush 16, 2) := by decide +kernel
theorem d_Terms_add_157 : decode b_Terms_add 157 = .ok (.imul, 1) := by decide +kernel
theorem d_Terms_add_158 : decode b_Terms_add 158 = .ok (.iload 6, 2) := by decide +kernel
theorem d_Terms_add_160 : decode b_Terms_add 160 = .ok (.iadd, 1) := by decide +kernel
theorem d_Terms_add_161 : decode b_Terms_add 161 = .ok (.aload_n 3, 1) := by decide +kernel
theorem d_Terms_add_162 : decode b_Terms_add 162 = .ok (.iload 6, 2) := by decide +kernel
theorem d_Terms_add_164 : decode b_Terms_add 164 = .ok (.invokevirtual 65, 3) := by decide +kernel
theorem d_Terms_add_167 : decode b_Terms_add 167 = .ok (.iastore, 1) := by decide +kernel
theorem d_Terms_add_168 : decode b_Terms_add 168 = .ok (.iinc 6 1, 3) := by decide +kernel
theorem d_Terms_add_171 : decode b_Terms_add 171 = .ok (.goto (-38), 3) := by decide +kernel
theorem d_Terms_add_174 : decode b_Terms_add 174 = .ok (.aload_n 0, 1) := by decide +kernel
theorem d_Terms_add_175 : decode b_Terms_add 175 = .ok (.dup, 1) := by decide +kernel
theorem d_Terms_add_176 : decode b_Terms_add 176 = .ok (.getfield 30, 3) := by decide +kernel
theorem d_Terms_add_179 : decode b_Terms_add 179 = .ok (.iconst 1, 1) := by decide +kernel
theorem d_Terms_add_180 : decode b_Terms_add 180 = .ok (.iadd, 1) := by decide +kernel
theorem d_Terms_add_181 : decode b_Terms_add 181 = .ok (.putfield 30, 3) := by decide +kernel
theorem d_Terms_add_184 : decode b_Terms_add 184 = .ok (.iload 5, 2) := by decide +kernel
theorem d_Terms_add_186 : decode b_Terms_add 186 = .ok (.ireturn, 1) := by decide +kernel
set_option maxHeartbeats 4000000 in
set_option maxRecDepth 100000 in
theorem c_Terms_add (l : Launch) (D : va_G) (cI : ClassId) (hT : Nat) (qk : Nat) (ql : Nat) (qc : Nat) (qtl : Nat) (qtg : Nat) (qty : Nat) (K : Nat → Int32) (Ln : Nat → Int32) (C : Nat → Int32) (TL : Nat → Int32) (TG : Nat → Int32) (TY : Nat → Int32) (sz : Int) (fr : Int) (fl : Int) (hx : Nat) (qx : Nat) (cx : Nat) (nx : Int) (fx : Nat → Int32) (sx : Int) (hg : Nat) (qg : Nat) (cg : Nat) (ng : Int) (fg : Nat → Int32) (sg : Int) (k : Int) (ty : Int) (hs : tOk Ln TL sz) (hk : -2147483648 ≤ k ∧ k < 2147483648) (hy : -2147483648 ≤ ty ∧ ty < 2147483648) (hx1 : 0 ≤ nx ∧ nx ≤ cx ∧ cx ≤ 40) (hg1 : 0 ≤ ng ∧ ng ≤ cg ∧ cg ≤ 16) : CtI l D [(cI, .int)] y_Terms_add b_Terms_add 7 (some .int) 1 [.ref hT, .int (iI k), .ref hx, .ref hg, .int (iI ty)] [(hT, .inr (1, [.ref qk, .ref ql, .ref qc, .ref qtl, .ref qtg, .ref qty, .int (iI sz), .int (iI fr), .int (iI fl)])), (qk, .inl (cI, 120, .inl K)), (ql, .inl (cI, 120, .inl Ln)), (qc, .inl (cI, 4800, .inl C)), (qtl, .inl (cI, 120, .inl TL)), (qtg, .inl (cI, 1920, .inl TG)), (qty, .inl (cI, 120, .inl TY)), (hx, .inr (0, [.ref qx, .int (iI nx), .int (iI sx)])), (qx, .inl (cI, cx, .inl fx)), (hg, .inr (0, [.ref qg, .int (iI ng), .int (iI sg)])), (qg, .inl (cI, cg, .inl fg))] (S := (Nat → Int32) × (Nat → Int32) × (Nat → Int32) × (Nat → Int32) × (Nat → Int32) × (Nat → Int32) × Int × Int) (fun z u => tOk u.2.1 u.2.2.2.1 u.2.2.2.2.2.2.1 ∧ ((120 ≤ sz ∧ z = -1 ∧ lst (tmAt u.1 u.2.1 u.2.2.1 u.2.2.2.1 u.2.2.2.2.1 u.2.2.2.2.2.1) u.2.2.2.2.2.2.1 = lst (tmAt K Ln C TL TG TY) sz ∧ u.2.2.2.2.2.2.2 = 1) ∨ (sz < 120 ∧ z = sz ∧ lst (tmAt u.1 u.2.1 u.2.2.1 u.2.2.2.1 u.2.2.2.2.1 u.2.2.2.2.2.1) u.2.2.2.2.2.2.1 = lst (tmAt K Ln C TL TG TY) sz ++ [(k, lst (tI fx) nx, lst (tI fg) ng, ty)] ∧ u.2.2.2.2.2.2.2 = fl))) (fun u => [(hT, .inr (1, [.ref qk, .ref ql, .ref qc, .ref qtl, .ref qtg, .ref qty, .int (iI u.2.2.2.2.2.2.1), .int (iI fr), .int (iI u.2.2.2.2.2.2.2)])), (qk, .inl (cI, 120, .inl u.1)), (ql, .inl (cI, 120, .inl u.2.1)), (qc, .inl (cI, 4800, .inl u.2.2.1)), (qtl, .inl (cI, 120, .inl u.2.2.2.1)), (qtg, .inl (cI, 1920, .inl u.2.2.2.2.1)), (qty, .inl (cI, 120, .inl u.2.2.2.2.2.1)), (hx, .inr (0, [.ref qx, .int (iI nx), .int (iI sx)])), (qx, .inl (cI, cx, .inl fx)), (hg, .inr (0, [.ref qg, .int (iI ng), .int (iI sg)])), (qg, .inl (cI, cg, .inl fg))]) := by
  refine CtI.walk (fun _ => True) (fun z _ => vp_nar_int _) (by decide) (Nat.le_of_ble_eq_true rfl) ?_
  intro xp xe0 xs xm xar xbelow xmeth xc xA0 xQ xe xb xml xo xt xP xK xD xA xret ls xl xS
  have xl : lv_has ls 7 [(0, .ref hT), (1, .int (iI k)), (2, .ref hx), (3, .ref hg), (4, .int (iI ty))] := xl
  have xo : xs.vm.findClass R_Terms = some xm.cls := xo
  have hs0 := hs
  obtain ⟨s0, s1, s2⟩ := hs0
  refine lv_aload_n xe xb d_Terms_add_0 rfl (lv_at xl 0 rfl) ?_
  refine va_get (D := D) (ci := 1) (v := .int (iI sz)) (C := R_Terms) (T := F_Terms) (N := 9) xe xb xt i_Terms xo xK xP 0 rfl rfl 6 (by decide) (xt _ mw_Terms_30) (fun _ h9 => h9) rfl d_Terms_add_1 ?_
  refine tk_if_lt (tgt := 34) xe xb d_Terms_add_4 (by decide) (by omega) (fun c_1 => absurd c_1 (by omega)) (fun c_1 => ?_)
  refine lv_aload_n xe xb d_Terms_add_7 rfl (lv_at xl 0 rfl) ?_
  refine va_get (D := D) (ci := 1) (v := .int (iI sz)) (C := R_Terms) (T := F_Terms) (N := 9) xe xb xt i_Terms xo xK xP 0 rfl rfl 6 (by decide) (xt _ mw_Terms_30) (fun _ h9 => h9) rfl d_Terms_add_8 ?_
  refine lv_bipush (v := iI (120)) xe xb d_Terms_add_11 (by decide) ?_
  refine tk_icmp_ge (tgt := 34) xe xb d_Terms_add_13 (by decide) (by omega) (fun c_2 => ?_) (fun c_2 => ?_)
  · refine lv_aload_n xe xb d_Terms_add_34 rfl (lv_at xl 0 rfl) ?_
    refine lv_iconst (v := iI (1)) xe xb d_Terms_add_35 rfl ?_
    refine va_put (D := D) (ci := 1) (v := .int (iI 1)) (ty := .boolean) (C := R_Terms) (T := F_Terms) (N := 9) xe xb xt i_Terms t_Terms t_Terms_ok n_Terms xo xK xP xD xS 0 rfl rfl 8 (by decide) (xt _ mw_Terms_37) (fun _ h9 => h9) rfl (by decide +kernel) (by decide) (by decide) (Nat.le_of_ble_eq_true rfl) d_Terms_add_36 (fun H locs xP xD xS => ?_)
    have xP : va_P D classes [(hT, .inr (1, [.ref qk, .ref ql, .ref qc, .ref qtl, .ref qtg, .ref qty, .int (iI sz), .int (iI fr), .int (iI 1)])), (qk, .inl (cI, 120, .inl K)), (ql, .inl (cI, 120, .inl Ln)), (qc, .inl (cI, 4800, .inl C)), (qtl, .inl (cI, 120, .inl TL)), (qtg, .inl (cI, 1920, .inl TG)), (qty, .inl (cI, 120, .inl TY)), (hx, .inr (0, [.ref qx, .int (iI nx), .int (iI sx)])), (qx, .inl (cI, cx, .inl fx)), (hg, .inr (0, [.ref qg, .int (iI ng), .int (iI sg)])), (qg, .inl (cI, cg, .inl fg))] H := xP
    have xD : va_D xA0 [(hT, .inr (1, [.ref qk, .ref ql, .ref qc, .ref qtl, .ref qtg, .ref qty, .int (iI sz), .int (iI fr), .int (iI 1)])), (qk, .inl (cI, 120, .inl K)), (ql, .inl (cI, 120, .inl Ln)), (qc, .inl (cI, 4800, .inl C)), (qtl, .inl (cI, 120, .inl TL)), (qtg, .inl (cI, 1920, .inl TG)), (qty, .inl (cI, 120, .inl TY)), (hx, .inr (0, [.ref qx, .int (iI nx), .int (iI sx)])), (qx, .inl (cI, cx, .inl fx)), (hg, .inr (0, [.ref qg, .int (iI ng), .int (iI sg)])), (qg, .inl (cI, cg, .inl fg))] := xD
    refine lv_iconst (v := iI (-1)) xe xb d_Terms_add_39 rfl ?_
    exact xret _ _ _ _ (-1) (K, Ln, C, TL, TG, TY, sz, 1) d_Terms_add_40 trivial (by omega) (by first | exact (by first | exact ⟨hs, Or.inl ⟨by omega, rfl, rfl, rfl⟩⟩ | omega) | (dsimp only; exact (by first | exact ⟨hs, Or.inl ⟨by omega, rfl, rfl, rfl⟩⟩ | omega))) xP xD xS
  · refine lv_aload_n xe xb d_Terms_add_16 rfl (lv_at xl 2 rfl) ?_
    refine va_get (D := D) (ci := 0) (v := .int (iI nx)) (C := R_Row) (T := F_Row) (N := 3) xe xb xt i_Row xo xK xP 7 rfl rfl 1 (by decide) (xt _ mw_Terms_53) (fun _ h9 => h9) rfl d_Terms_add_17 ?_
    refine lv_bipush (v := iI (40)) xe xb d_Terms_add_20 (by decide) ?_
    refine tk_icmp_gt (tgt := 34) xe xb d_Terms_add_22 (by decide) (by omega) (fun c_3 => absurd c_3 (by omega)) (fun c_3 => ?_)
    refine lv_aload_n xe xb d_Terms_add_25 rfl (lv_at xl 3 rfl) ?_
    refine va_get (D := D) (ci := 0) (v := .int (iI ng)) (C := R_Row) (T := F_Row) (N := 3) xe xb xt i_Row xo xK xP 9 rfl rfl 1 (by decide) (xt _ mw_Terms_53) (fun _ h9 => h9) rfl d_Terms_add_26 ?_
    refine lv_bipush (v := iI (16)) xe xb d_Terms_add_29 (by decide) ?_
    refine tk_icmp_le (tgt := 41) xe xb d_Terms_add_31 (by decide) (by omega) (fun c_4 => ?_) (fun c_4 => absurd c_4 (by omega))
    refine lv_aload_n xe xb d_Terms_add_41 rfl (lv_at xl 0 rfl) ?_
    refine va_get (D := D) (ci := 1) (v := .int (iI sz)) (C := R_Terms) (T := F_Terms) (N := 9) xe xb xt i_Terms xo xK xP 0 rfl rfl 6 (by decide) (xt _ mw_Terms_30) (fun _ h9 => h9) rfl d_Terms_add_42 ?_
    refine lv_istore (lv' := [(5, .int (iI sz)), (0, .ref hT), (1, .int (iI k)), (2, .ref hx), (3, .ref hg), (4, .int (iI ty))]) xe xb d_Terms_add_45 xl (by decide) rfl (fun ls xl => ?_)
    refine lv_aload_n xe xb d_Terms_add_47 rfl (lv_at xl 1 rfl) ?_
    refine va_get (D := D) (ci := 1) (v := .ref qk) (C := R_Terms) (T := F_Terms) (N := 9) xe xb xt i_Terms xo xK xP 0 rfl rfl 0 (by decide) (xt _ mw_Terms_9) (fun _ h9 => h9) rfl d_Terms_add_48 ?_
    refine lv_iload xe xb d_Terms_add_51 (lv_at xl 0 rfl) ?_
    refine lv_iload_n xe xb d_Terms_add_53 rfl (lv_at xl 2 rfl) ?_
    refine tk_iast xe xb xK xP xD xS 1 0 rfl rfl (by omega) d_Terms_add_54 (fun H locs xP xD xS => ?_)
    have xP : va_P D classes [(hT, .inr (1, [.ref qk, .ref ql, .ref qc, .ref qtl, .ref qtg, .ref qty, .int (iI sz), .int (iI fr), .int (iI fl)])), (qk, .inl (cI, 120, .inl (fu K sz k))), (ql, .inl (cI, 120, .inl Ln)), (qc, .inl (cI, 4800, .inl C)), (qtl, .inl (cI, 120, .inl TL)), (qtg, .inl (cI, 1920, .inl TG)), (qty, .inl (cI, 120, .inl TY)), (hx, .inr (0, [.ref qx, .int (iI nx), .int (iI sx)])), (qx, .inl (cI, cx, .inl fx)), (hg, .inr (0, [.ref qg, .int (iI ng), .int (iI sg)])), (qg, .inl (cI, cg, .inl fg))] H := xP
    have xD : va_D xA0 [(hT, .inr (1, [.ref qk, .ref ql, .ref qc, .ref qtl, .ref qtg, .ref qty, .int (iI sz), .int (iI fr), .int (iI fl)])), (qk, .inl (cI, 120, .inl (fu K sz k))), (ql, .inl (cI, 120, .inl Ln)), (qc, .inl (cI, 4800, .inl C)), (qtl, .inl (cI, 120, .inl TL)), (qtg, .inl (cI, 1920, .inl TG)), (qty, .inl (cI, 120, .inl TY)), (hx, .inr (0, [.ref qx, .int (iI nx), .int (iI sx)])), (qx, .inl (cI, cx, .inl fx)), (hg, .inr (0, [.ref qg, .int (iI ng), .int (iI sg)])), (qg, .inl (cI, cg, .inl fg))] := xD
    refine lv_aload_n xe xb d_Terms_add_55 rfl (lv_at xl 1 rfl) ?_
    refine va_get (D := D) (ci := 1) (v := .ref qty) (C := R_Terms) (T := F_Terms) (N := 9) xe xb xt i_Terms xo xK xP 0 rfl rfl 5 (by decide) (xt _ mw_Terms_27) (fun _ h9 => h9) rfl d_Terms_add_56 ?_
    refine lv_iload xe xb d_Terms_add_59 (lv_at xl 0 rfl) ?_
    refine lv_iload xe xb d_Terms_add_61 (lv_at xl 5 rfl) ?_
    refine tk_iast xe xb xK xP xD xS 6 0 rfl rfl (by omega) d_Terms_add_63 (fun H locs xP xD xS => ?_)
    have xP : va_P D classes [(hT, .inr (1, [.ref qk, .ref ql, .ref qc, .ref qtl, .ref qtg, .ref qty, .int (iI sz), .int (iI fr), .int (iI fl)])), (qk, .inl (cI, 120, .inl (fu K sz k))), (ql, .inl (cI, 120, .inl Ln)), (qc, .inl (cI, 4800, .inl C)), (qtl, .inl (cI, 120, .inl TL)), (qtg, .inl (cI, 1920, .inl TG)), (qty, .inl (cI, 120, .inl (fu TY sz ty))), (hx, .inr (0, [.ref qx, .int (iI nx), .int (iI sx)])), (qx, .inl (cI, cx, .inl fx)), (hg, .inr (0, [.ref qg, .int (iI ng), .int (iI sg)])), (qg, .inl (cI, cg, .inl fg))] H := xP
    have xD : va_D xA0 [(hT, .inr (1, [.ref qk, .ref ql, .ref qc, .ref qtl, .ref qtg, .ref qty, .int (iI sz), .int (iI fr), .int (iI fl)])), (qk, .inl (cI, 120, .inl (fu K sz k))), (ql, .inl (cI, 120, .inl Ln)), (qc, .inl (cI, 4800, .inl C)), (qtl, .inl (cI, 120, .inl TL)), (qtg, .inl (cI, 1920, .inl TG)), (qty, .inl (cI, 120, .inl (fu TY sz ty))), (hx, .inr (0, [.ref qx, .int (iI nx), .int (iI sx)])), (qx, .inl (cI, cx, .inl fx)), (hg, .inr (0, [.ref qg, .int (iI ng), .int (iI sg)])), (qg, .inl (cI, cg, .inl fg))] := xD
    refine lv_aload_n xe xb d_Terms_add_64 rfl (lv_at xl 1 rfl) ?_
    refine va_get (D := D) (ci := 1) (v := .ref ql) (C := R_Terms) (T := F_Terms) (N := 9) xe xb xt i_Terms xo xK xP 0 rfl rfl 1 (by decide) (xt _ mw_Terms_15) (fun _ h9 => h9) rfl d_Terms_add_65 ?_
    refine lv_iload xe xb d_Terms_add_68 (lv_at xl 0 rfl) ?_
    refine lv_aload_n xe xb d_Terms_add_70 rfl (lv_at xl 3 rfl) ?_
    refine va_get (D := D) (ci := 0) (v := .int (iI nx)) (C := R_Row) (T := F_Row) (N := 3) xe xb xt i_Row xo xK xP 7 rfl rfl 1 (by decide) (xt _ mw_Terms_53) (fun _ h9 => h9) rfl d_Terms_add_71 ?_
    refine tk_iast xe xb xK xP xD xS 2 0 rfl rfl (by omega) d_Terms_add_74 (fun H locs xP xD xS => ?_)
    have xP : va_P D classes [(hT, .inr (1, [.ref qk, .ref ql, .ref qc, .ref qtl, .ref qtg, .ref qty, .int (iI sz), .int (iI fr), .int (iI fl)])), (qk, .inl (cI, 120, .inl (fu K sz k))), (ql, .inl (cI, 120, .inl (fu Ln sz nx))), (qc, .inl (cI, 4800, .inl C)), (qtl, .inl (cI, 120, .inl TL)), (qtg, .inl (cI, 1920, .inl TG)), (qty, .inl (cI, 120, .inl (fu TY sz ty))), (hx, .inr (0, [.ref qx, .int (iI nx), .int (iI sx)])), (qx, .inl (cI, cx, .inl fx)), (hg, .inr (0, [.ref qg, .int (iI ng), .int (iI sg)])), (qg, .inl (cI, cg, .inl fg))] H := xP
    have xD : va_D xA0 [(hT, .inr (1, [.ref qk, .ref ql, .ref qc, .ref qtl, .ref qtg, .ref qty, .int (iI sz), .int (iI fr), .int (iI fl)])), (qk, .inl (cI, 120, .inl (fu K sz k))), (ql, .inl (cI, 120, .inl (fu Ln sz nx))), (qc, .inl (cI, 4800, .inl C)), (qtl, .inl (cI, 120, .inl TL)), (qtg, .inl (cI, 1920, .inl TG)), (qty, .inl (cI, 120, .inl (fu TY sz ty))), (hx, .inr (0, [.ref qx, .int (iI nx), .int (iI sx)])), (qx, .inl (cI, cx, .inl fx)), (hg, .inr (0, [.ref qg, .int (iI ng), .int (iI sg)])), (qg, .inl (cI, cg, .inl fg))] := xD
    refine lv_aload_n xe xb d_Terms_add_75 rfl (lv_at xl 1 rfl) ?_
    refine va_get (D := D) (ci := 1) (v := .ref qtl) (C := R_Terms) (T := F_Terms) (N := 9) xe xb xt i_Terms xo xK xP 0 rfl rfl 3 (by decide) (xt _ mw_Terms_21) (fun _ h9 => h9) rfl d_Terms_add_76 ?_
    refine lv_iload xe xb d_Terms_add_79 (lv_at xl 0 rfl) ?_
    refine lv_aload_n xe xb d_Terms_add_81 rfl (lv_at xl 4 rfl) ?_
    refine va_get (D := D) (ci := 0) (v := .int (iI ng)) (C := R_Row) (T := F_Row) (N := 3) xe xb xt i_Row xo xK xP 9 rfl rfl 1 (by decide) (xt _ mw_Terms_53) (fun _ h9 => h9) rfl d_Terms_add_82 ?_
    refine tk_iast xe xb xK xP xD xS 4 0 rfl rfl (by omega) d_Terms_add_85 (fun H locs xP xD xS => ?_)
    have xP : va_P D classes [(hT, .inr (1, [.ref qk, .ref ql, .ref qc, .ref qtl, .ref qtg, .ref qty, .int (iI sz), .int (iI fr), .int (iI fl)])), (qk, .inl (cI, 120, .inl (fu K sz k))), (ql, .inl (cI, 120, .inl (fu Ln sz nx))), (qc, .inl (cI, 4800, .inl C)), (qtl, .inl (cI, 120, .inl (fu TL sz ng))), (qtg, .inl (cI, 1920, .inl TG)), (qty, .inl (cI, 120, .inl (fu TY sz ty))), (hx, .inr (0, [.ref qx, .int (iI nx), .int (iI sx)])), (qx, .inl (cI, cx, .inl fx)), (hg, .inr (0, [.ref qg, .int (iI ng), .int (iI sg)])), (qg, .inl (cI, cg, .inl fg))] H := xP
    have xD : va_D xA0 [(hT, .inr (1, [.ref qk, .ref ql, .ref qc, .ref qtl, .ref qtg, .ref qty, .int (iI sz), .int (iI fr), .int (iI fl)])), (qk, .inl (cI, 120, .inl (fu K sz k))), (ql, .inl (cI, 120, .inl (fu Ln sz nx))), (qc, .inl (cI, 4800, .inl C)), (qtl, .inl (cI, 120, .inl (fu TL sz ng))), (qtg, .inl (cI, 1920, .inl TG)), (qty, .inl (cI, 120, .inl (fu TY sz ty))), (hx, .inr (0, [.ref qx, .int (iI nx), .int (iI sx)])), (qx, .inl (cI, cx, .inl fx)), (hg, .inr (0, [.ref qg, .int (iI ng), .int (iI sg)])), (qg, .inl (cI, cg, .inl fg))] := xD
    refine lv_iconst (v := iI (0)) xe xb d_Terms_add_86 rfl ?_
    refine lv_istore (lv' := [(6, .int (iI 0)), (5, .int (iI sz)), (0, .ref hT), (1, .int (iI k)), (2, .ref hx), (3, .ref hg), (4, .int (iI ty))]) xe xb d_Terms_add_87 xl (by decide) rfl (fun ls xl => ?_)
    have loop_89 : ∀ (n9 : Nat) (Cv : Nat → Int32) (i : Int), (nx - i).toNat < n9 → (0 ≤ i ∧ i ≤ nx) → (∀ j, 0 ≤ j → j < sz * 40 → tI Cv j = tI C j) → (∀ j, 0 ≤ j → j < i → tI Cv (sz * 40 + j) = tI fx j) → ∀ (H : Heap) (locs : List Loc), va_P D classes [(hT, .inr (1, [.ref qk, .ref ql, .ref qc, .ref qtl, .ref qtg, .ref qty, .int (iI sz), .int (iI fr), .int (iI fl)])), (qk, .inl (cI, 120, .inl (fu K sz k))), (ql, .inl (cI, 120, .inl (fu Ln sz nx))), (qc, .inl (cI, 4800, .inl Cv)), (qtl, .inl (cI, 120, .inl (fu TL sz ng))), (qtg, .inl (cI, 1920, .inl TG)), (qty, .inl (cI, 120, .inl (fu TY sz ty))), (hx, .inr (0, [.ref qx, .int (iI nx), .int (iI sx)])), (qx, .inl (cI, cx, .inl fx)), (hg, .inr (0, [.ref qg, .int (iI ng), .int (iI sg)])), (qg, .inl (cI, cg, .inl fg))] H → va_D xA0 [(hT, .inr (1, [.ref qk, .ref ql, .ref qc, .ref qtl, .ref qtg, .ref qty, .int (iI sz), .int (iI fr), .int (iI fl)])), (qk, .inl (cI, 120, .inl (fu K sz k))), (ql, .inl (cI, 120, .inl (fu Ln sz nx))), (qc, .inl (cI, 4800, .inl Cv)), (qtl, .inl (cI, 120, .inl (fu TL sz ng))), (qtg, .inl (cI, 1920, .inl TG)), (qty, .inl (cI, 120, .inl (fu TY sz ty))), (hx, .inr (0, [.ref qx, .int (iI nx), .int (iI sx)])), (qx, .inl (cI, cx, .inl fx)), (hg, .inr (0, [.ref qg, .int (iI ng), .int (iI sg)])), (qg, .inl (cI, cg, .inl fg))] → va_S xA0 xs.heap H locs → ∀ ls : Array Slot, lv_has ls 7 [(0, .ref hT), (1, .int (iI k)), (2, .ref hx), (3, .ref hg), (4, .int (iI ty)), (5, .int (iI sz)), (6, .int (iI i))] → W xp l xe0 (tk_rm 1) xs xm xar xbelow xmeth xc H locs 0 0 xQ (F0 xm 89 ls []) := by
      intro n9
      induction n9 with
      | zero => intro Cv i h9; exact absurd h9 (Nat.not_lt_zero _)
      | succ n9 ih9 =>
        intro Cv i hm9 hi h1 h2 H locs xP xD xS ls xl
        have ih_89 := ih9
        have hm_89 := hm9
        refine lv_iload xe xb d_Terms_add_89 (lv_at xl 6 rfl) ?_
        refine lv_aload_n xe xb d_Terms_add_91 rfl (lv_at xl 2 rfl) ?_
        refine va_get (D := D) (ci := 0) (v := .int (iI nx)) (C := R_Row) (T := F_Row) (N := 3) xe xb xt i_Row xo xK xP 7 rfl rfl 1 (by decide) (xt _ mw_Terms_53) (fun _ h9 => h9) rfl d_Terms_add_92 ?_
        refine tk_icmp_ge (tgt := 130) xe xb d_Terms_add_95 (by decide) (by omega) (fun c_5 => ?_) (fun c_5 => ?_)
        · refine lv_iconst (v := iI (0)) xe xb d_Terms_add_130 rfl ?_
          refine lv_istore (lv' := [(6, .int (iI 0)), (0, .ref hT), (1, .int (iI k)), (2, .ref hx), (3, .ref hg), (4, .int (iI ty)), (5, .int (iI sz))]) xe xb d_Terms_add_131 xl (by decide) rfl (fun ls xl => ?_)
          have loop_133 : ∀ (n9 : Nat) (Cw : Nat → Int32) (Gv : Nat → Int32) (i : Int), (ng - i).toNat < n9 → (0 ≤ i ∧ i ≤ ng) → (∀ j, 0 ≤ j → j < sz * 40 → tI Cw j = tI C j) → (seg Cw (sz * 40) nx = lst (tI fx) nx) → (∀ j, 0 ≤ j → j < sz * 16 → tI Gv j = tI TG j) → (∀ j, 0 ≤ j → j < i → tI Gv (sz * 16 + j) = tI fg j) → ∀ (H : Heap) (locs : List Loc), va_P D classes [(hT, .inr (1, [.ref qk, .ref ql, .ref qc, .ref qtl, .ref qtg, .ref qty, .int (iI sz), .int (iI fr), .int (iI fl)])), (qk, .inl (cI, 120, .inl (fu K sz k))), (ql, .inl (cI, 120, .inl (fu Ln sz nx))), (qc, .inl (cI, 4800, .inl Cw)), (qtl, .inl (cI, 120, .inl (fu TL sz ng))), (qtg, .inl (cI, 1920, .inl Gv)), (qty, .inl (cI, 120, .inl (fu TY sz ty))), (hx, .inr (0, [.ref qx, .int (iI nx), .int (iI sx)])), (qx, .inl (cI, cx, .inl fx)), (hg, .inr (0, [.ref qg, .int (iI ng), .int (iI sg)])), (qg, .inl (cI, cg, .inl fg))] H → va_D xA0 [(hT, .inr (1, [.ref qk, .ref ql, .ref qc, .ref qtl, .ref qtg, .ref qty, .int (iI sz), .int (iI fr), .int (iI fl)])), (qk, .inl (cI, 120, .inl (fu K sz k))), (ql, .inl (cI, 120, .inl (fu Ln sz nx))), (qc, .inl (cI, 4800, .inl Cw)), (qtl, .inl (cI, 120, .inl (fu TL sz ng))), (qtg, .inl (cI, 1920, .inl Gv)), (qty, .inl (cI, 120, .inl (fu TY sz ty))), (hx, .inr (0, [.ref qx, .int (iI nx), .int (iI sx)])), (qx, .inl (cI, cx, .inl fx)), (hg, .inr (0, [.ref qg, .int (iI ng), .int (iI sg)])), (qg, .inl (cI, cg, .inl fg))] → va_S xA0 xs.heap H locs → ∀ ls : Array Slot, lv_has ls 7 [(0, .ref hT), (1, .int (iI k)), (2, .ref hx), (3, .ref hg), (4, .int (iI ty)), (5, .int (iI sz)), (6, .int (iI i))] → W xp l xe0 (tk_rm 1) xs xm xar xbelow xmeth xc H locs 0 0 xQ (F0 xm 133 ls []) := by
            intro n9
            induction n9 with
            | zero => intro Cw Gv i h9; exact absurd h9 (Nat.not_lt_zero _)
            | succ n9 ih9 =>
              intro Cw Gv i hm9 hi g1 g2 h1 h2 H locs xP xD xS ls xl
              have ih_133 := ih9
              have hm_133 := hm9
              refine lv_iload xe xb d_Terms_add_133 (lv_at xl 6 rfl) ?_
              refine lv_aload_n xe xb d_Terms_add_135 rfl (lv_at xl 3 rfl) ?_
              refine va_get (D := D) (ci := 0) (v := .int (iI ng)) (C := R_Row) (T := F_Row) (N := 3) xe xb xt i_Row xo xK xP 9 rfl rfl 1 (by decide) (xt _ mw_Terms_53) (fun _ h9 => h9) rfl d_Terms_add_136 ?_
              refine tk_icmp_ge (tgt := 174) xe xb d_Terms_add_139 (by decide) (by omega) (fun c_6 => ?_) (fun c_6 => ?_)
              · refine lv_aload_n xe xb d_Terms_add_174 rfl (lv_at xl 0 rfl) ?_
                refine lv_dup xe xb d_Terms_add_175 rfl ?_
                refine va_get (D := D) (ci := 1) (v := .int (iI sz)) (C := R_Terms) (T := F_Terms) (N := 9) xe xb xt i_Terms xo xK xP 0 rfl rfl 6 (by decide) (xt _ mw_Terms_30) (fun _ h9 => h9) rfl d_Terms_add_176 ?_
                refine lv_iconst (v := iI (1)) xe xb d_Terms_add_179 rfl ?_
                refine tk_iadd xe xb d_Terms_add_180 ?_
                refine va_put (D := D) (ci := 1) (v := .int (iI (sz + 1))) (ty := .int) (C := R_Terms) (T := F_Terms) (N := 9) xe xb xt i_Terms t_Terms t_Terms_ok n_Terms xo xK xP xD xS 0 rfl rfl 6 (by decide) (xt _ mw_Terms_30) (fun _ h9 => h9) rfl (by decide +kernel) rfl rfl (Nat.le_of_ble_eq_true rfl) d_Terms_add_181 (fun H locs xP xD xS => ?_)
                have xP : va_P D classes [(hT, .inr (1, [.ref qk, .ref ql, .ref qc, .ref qtl, .ref qtg, .ref qty, .int (iI (sz + 1)), .int (iI fr), .int (iI fl)])), (qk, .inl (cI, 120, .inl (fu K sz k))), (ql, .inl (cI, 120, .inl (fu Ln sz nx))), (qc, .inl (cI, 4800, .inl Cw)), (qtl, .inl (cI, 120, .inl (fu TL sz ng))), (qtg, .inl (cI, 1920, .inl Gv)), (qty, .inl (cI, 120, .inl (fu TY sz ty))), (hx, .inr (0, [.ref qx, .int (iI nx), .int (iI sx)])), (qx, .inl (cI, cx, .inl fx)), (hg, .inr (0, [.ref qg, .int (iI ng), .int (iI sg)])), (qg, .inl (cI, cg, .inl fg))] H := xP
                have xD : va_D xA0 [(hT, .inr (1, [.ref qk, .ref ql, .ref qc, .ref qtl, .ref qtg, .ref qty, .int (iI (sz + 1)), .int (iI fr), .int (iI fl)])), (qk, .inl (cI, 120, .inl (fu K sz k))), (ql, .inl (cI, 120, .inl (fu Ln sz nx))), (qc, .inl (cI, 4800, .inl Cw)), (qtl, .inl (cI, 120, .inl (fu TL sz ng))), (qtg, .inl (cI, 1920, .inl Gv)), (qty, .inl (cI, 120, .inl (fu TY sz ty))), (hx, .inr (0, [.ref qx, .int (iI nx), .int (iI sx)])), (qx, .inl (cI, cx, .inl fx)), (hg, .inr (0, [.ref qg, .int (iI ng), .int (iI sg)])), (qg, .inl (cI, cg, .inl fg))] := xD
                refine lv_iload xe xb d_Terms_add_184 (lv_at xl 5 rfl) ?_
                exact xret _ _ _ _ sz ((fu K sz k), (fu Ln sz nx), Cw, (fu TL sz ng), Gv, (fu TY sz ty), (sz + 1), fl) d_Terms_add_186 trivial (by omega) (by first | exact (by have h9 := tmAt_push (K := K) (C := C) (TG := TG) (TY := TY) (nx := nx) (ng := ng) (k := k) (ty := ty) hs (by omega) hk hy (by omega) (by omega) g1 h1 g2 (lst_ext (fun j j0 j1 => h2 j j0 (by omega))); exact ⟨h9.1, Or.inr ⟨by omega, rfl, h9.2, rfl⟩⟩) | (dsimp only; exact (by have h9 := tmAt_push (K := K) (C := C) (TG := TG) (TY := TY) (nx := nx) (ng := ng) (k := k) (ty := ty) hs (by omega) hk hy (by omega) (by omega) g1 h1 g2 (lst_ext (fun j j0 j1 => h2 j j0 (by omega))); exact ⟨h9.1, Or.inr ⟨by omega, rfl, h9.2, rfl⟩⟩))) xP xD xS
              · refine lv_iload xe xb d_Terms_add_142 (lv_at xl 6 rfl) ?_
                refine lv_bipush (v := iI (16)) xe xb d_Terms_add_144 (by decide) ?_
                refine tk_icmp_ge (tgt := 174) xe xb d_Terms_add_146 (by decide) (by omega) (fun c_7 => absurd c_7 (by omega)) (fun c_7 => ?_)
                refine lv_aload_n xe xb d_Terms_add_149 rfl (lv_at xl 0 rfl) ?_
                refine va_get (D := D) (ci := 1) (v := .ref qtg) (C := R_Terms) (T := F_Terms) (N := 9) xe xb xt i_Terms xo xK xP 0 rfl rfl 4 (by decide) (xt _ mw_Terms_24) (fun _ h9 => h9) rfl d_Terms_add_150 ?_
                refine lv_iload xe xb d_Terms_add_153 (lv_at xl 5 rfl) ?_
                refine lv_bipush (v := iI (16)) xe xb d_Terms_add_155 (by decide) ?_
                refine tk_imul xe xb d_Terms_add_157 ?_
                refine lv_iload xe xb d_Terms_add_158 (lv_at xl 6 rfl) ?_
                refine tk_iadd xe xb d_Terms_add_160 ?_
                refine lv_aload_n xe xb d_Terms_add_161 rfl (lv_at xl 3 rfl) ?_
                refine lv_iload xe xb d_Terms_add_162 (lv_at xl 6 rfl) ?_
                refine tk_callVi (As := [.int (iI i)]) (rest := [.int (iI ((sz * 16) + i)), .ref qtg]) (wr := [(hT, .inr (1, [.ref qk, .ref ql, .ref qc, .ref qtl, .ref qtg, .ref qty, .int (iI sz), .int (iI fr), .int (iI fl)])), (qk, .inl (cI, 120, .inl (fu K sz k))), (ql, .inl (cI, 120, .inl (fu Ln sz nx))), (qc, .inl (cI, 4800, .inl Cw)), (qtl, .inl (cI, 120, .inl (fu TL sz ng))), (qtg, .inl (cI, 1920, .inl Gv)), (qty, .inl (cI, 120, .inl (fu TY sz ty))), (hx, .inr (0, [.ref qx, .int (iI nx), .int (iI sx)])), (qx, .inl (cI, cx, .inl fx))]) (wn := fun u => [(hT, .inr (1, [.ref qk, .ref ql, .ref qc, .ref qtl, .ref qtg, .ref qty, .int (iI sz), .int (iI fr), .int (iI fl)])), (qk, .inl (cI, 120, .inl (fu K sz k))), (ql, .inl (cI, 120, .inl (fu Ln sz nx))), (qc, .inl (cI, 4800, .inl Cw)), (qtl, .inl (cI, 120, .inl (fu TL sz ng))), (qtg, .inl (cI, 1920, .inl Gv)), (qty, .inl (cI, 120, .inl (fu TY sz ty))), (hx, .inr (0, [.ref qx, .int (iI nx), .int (iI sx)])), (qx, .inl (cI, cx, .inl fx)), (hg, .inr (0, [.ref qg, .int (iI ng), .int (iI sg)])), (qg, .inl (cI, cg, .inl fg))]) ⟨xe, xb, xml, xo, xt⟩ (c_Row_get l D cI hg qg cg ng fg sg i (by first | assumption | omega) (by first | assumption | omega)) k_Row_get mw_Terms_65 ⟨Nat.le_of_ble_eq_true rfl, Nat.le_of_ble_eq_true rfl⟩ xK xP xD xS xA rfl xl.1 rfl (Nat.le_of_ble_eq_true rfl) d_Terms_add_164 ⟨Nat.zero_le _, Nat.zero_le _⟩ [9, 10] [0, 1, 2, 3, 4, 5, 6, 7, 8] [0, 1, 2, 3, 4, 5, 6, 7, 8, 9, 10] rfl rfl (by decide) (by decide) (by decide) (by decide) (fun _ => rfl) rfl rfl rfl (fun z_9 u H locs hr_10 hw_8 xP xD xS => ?_)
                try dsimp only at hw_8
                have xP : va_P D classes [(hT, .inr (1, [.ref qk, .ref ql, .ref qc, .ref qtl, .ref qtg, .ref qty, .int (iI sz), .int (iI fr), .int (iI fl)])), (qk, .inl (cI, 120, .inl (fu K sz k))), (ql, .inl (cI, 120, .inl (fu Ln sz nx))), (qc, .inl (cI, 4800, .inl Cw)), (qtl, .inl (cI, 120, .inl (fu TL sz ng))), (qtg, .inl (cI, 1920, .inl Gv)), (qty, .inl (cI, 120, .inl (fu TY sz ty))), (hx, .inr (0, [.ref qx, .int (iI nx), .int (iI sx)])), (qx, .inl (cI, cx, .inl fx)), (hg, .inr (0, [.ref qg, .int (iI ng), .int (iI sg)])), (qg, .inl (cI, cg, .inl fg))] H := xP
                have xD : va_D xA0 [(hT, .inr (1, [.ref qk, .ref ql, .ref qc, .ref qtl, .ref qtg, .ref qty, .int (iI sz), .int (iI fr), .int (iI fl)])), (qk, .inl (cI, 120, .inl (fu K sz k))), (ql, .inl (cI, 120, .inl (fu Ln sz nx))), (qc, .inl (cI, 4800, .inl Cw)), (qtl, .inl (cI, 120, .inl (fu TL sz ng))), (qtg, .inl (cI, 1920, .inl Gv)), (qty, .inl (cI, 120, .inl (fu TY sz ty))), (hx, .inr (0, [.ref qx, .int (iI nx), .int (iI sx)])), (qx, .inl (cI, cx, .inl fx)), (hg, .inr (0, [.ref qg, .int (iI ng), .int (iI sg)])), (qg, .inl (cI, cg, .inl fg))] := xD
                have HQ := hw_8
                refine tk_iast xe xb xK xP xD xS 5 0 rfl rfl (by omega) d_Terms_add_167 (fun H locs xP xD xS => ?_)
                have xP : va_P D classes [(hT, .inr (1, [.ref qk, .ref ql, .ref qc, .ref qtl, .ref qtg, .ref qty, .int (iI sz), .int (iI fr), .int (iI fl)])), (qk, .inl (cI, 120, .inl (fu K sz k))), (ql, .inl (cI, 120, .inl (fu Ln sz nx))), (qc, .inl (cI, 4800, .inl Cw)), (qtl, .inl (cI, 120, .inl (fu TL sz ng))), (qtg, .inl (cI, 1920, .inl (fu Gv ((sz * 16) + i) z_9))), (qty, .inl (cI, 120, .inl (fu TY sz ty))), (hx, .inr (0, [.ref qx, .int (iI nx), .int (iI sx)])), (qx, .inl (cI, cx, .inl fx)), (hg, .inr (0, [.ref qg, .int (iI ng), .int (iI sg)])), (qg, .inl (cI, cg, .inl fg))] H := xP
                have xD : va_D xA0 [(hT, .inr (1, [.ref qk, .ref ql, .ref qc, .ref qtl, .ref qtg, .ref qty, .int (iI sz), .int (iI fr), .int (iI fl)])), (qk, .inl (cI, 120, .inl (fu K sz k))), (ql, .inl (cI, 120, .inl (fu Ln sz nx))), (qc, .inl (cI, 4800, .inl Cw)), (qtl, .inl (cI, 120, .inl (fu TL sz ng))), (qtg, .inl (cI, 1920, .inl (fu Gv ((sz * 16) + i) z_9))), (qty, .inl (cI, 120, .inl (fu TY sz ty))), (hx, .inr (0, [.ref qx, .int (iI nx), .int (iI sx)])), (qx, .inl (cI, cx, .inl fx)), (hg, .inr (0, [.ref qg, .int (iI ng), .int (iI sg)])), (qg, .inl (cI, cg, .inl fg))] := xD
                refine tk_iinc (v := (i + 1)) (lv' := [(6, .int (iI (i + 1))), (0, .ref hT), (1, .int (iI k)), (2, .ref hx), (3, .ref hg), (4, .int (iI ty)), (5, .int (iI sz))]) xe xb d_Terms_add_168 xl (k := 6) rfl rfl (by decide) rfl (fun ls xl => ?_)
                refine lv_goto (tgt := 133) xe xb d_Terms_add_171 (by decide) ?_
                exact ih_133 Cw (fu Gv ((sz * 16) + i) z_9) (i + 1) (by omega) (by first | assumption | omega) g1 g2 (fun j j0 j1 => by rw [fu_ne (by omega) j0 (by omega)]; exact h1 j j0 j1) (fun j j0 j1 => by (rcases (show j < i ∨ j = i by omega) with h9 | h9; (rw [fu_ne (by omega) (by omega) (by omega)]; exact h2 j j0 h9); (rw [h9, fu_eq (by omega), HQ]; exact rd_in (by omega)))) _ _ xP xD xS ls (lv_sub xl [1, 2, 3, 4, 5, 6, 0] rfl)
          exact loop_133 _ Cv TG 0 (Nat.lt_succ_self _) (by first | assumption | omega) h1 (lst_ext (fun j j0 j1 => h2 j j0 (by omega))) (fun j _ _ => rfl) (fun j h0 h1 => by omega) _ _ xP xD xS ls (lv_sub xl [1, 2, 3, 4, 5, 6, 0] rfl)
        · refine lv_iload xe xb d_Terms_add_98 (lv_at xl 6 rfl) ?_
          refine lv_bipush (v := iI (40)) xe xb d_Terms_add_100 (by decide) ?_
          refine tk_icmp_ge (tgt := 130) xe xb d_Terms_add_102 (by decide) (by omega) (fun c_11 => absurd c_11 (by omega)) (fun c_11 => ?_)
          refine lv_aload_n xe xb d_Terms_add_105 rfl (lv_at xl 0 rfl) ?_
          refine va_get (D := D) (ci := 1) (v := .ref qc) (C := R_Terms) (T := F_Terms) (N := 9) xe xb xt i_Terms xo xK xP 0 rfl rfl 2 (by decide) (xt _ mw_Terms_18) (fun _ h9 => h9) rfl d_Terms_add_106 ?_
          refine lv_iload xe xb d_Terms_add_109 (lv_at xl 5 rfl) ?_
          refine lv_bipush (v := iI (40)) xe xb d_Terms_add_111 (by decide) ?_
          refine tk_imul xe xb d_Terms_add_113 ?_
          refine lv_iload xe xb d_Terms_add_114 (lv_at xl 6 rfl) ?_
          refine tk_iadd xe xb d_Terms_add_116 ?_
          refine lv_aload_n xe xb d_Terms_add_117 rfl (lv_at xl 2 rfl) ?_
          refine lv_iload xe xb d_Terms_add_118 (lv_at xl 6 rfl) ?_
          refine tk_callVi (As := [.int (iI i)]) (rest := [.int (iI ((sz * 40) + i)), .ref qc]) (wr := [(hT, .inr (1, [.ref qk, .ref ql, .ref qc, .ref qtl, .ref qtg, .ref qty, .int (iI sz), .int (iI fr), .int (iI fl)])), (qk, .inl (cI, 120, .inl (fu K sz k))), (ql, .inl (cI, 120, .inl (fu Ln sz nx))), (qc, .inl (cI, 4800, .inl Cv)), (qtl, .inl (cI, 120, .inl (fu TL sz ng))), (qtg, .inl (cI, 1920, .inl TG)), (qty, .inl (cI, 120, .inl (fu TY sz ty))), (hg, .inr (0, [.ref qg, .int (iI ng), .int (iI sg)])), (qg, .inl (cI, cg, .inl fg))]) (wn := fun u => [(hT, .inr (1, [.ref qk, .ref ql, .ref qc, .ref qtl, .ref qtg, .ref qty, .int (iI sz), .int (iI fr), .int (iI fl)])), (qk, .inl (cI, 120, .inl (fu K sz k))), (ql, .inl (cI, 120, .inl (fu Ln sz nx))), (qc, .inl (cI, 4800, .inl Cv)), (qtl, .inl (cI, 120, .inl (fu TL sz ng))), (qtg, .inl (cI, 1920, .inl TG)), (qty, .inl (cI, 120, .inl (fu TY sz ty))), (hx, .inr (0, [.ref qx, .int (iI nx), .int (iI sx)])), (qx, .inl (cI, cx, .inl fx)), (hg, .inr (0, [.ref qg, .int (iI ng), .int (iI sg)])), (qg, .inl (cI, cg, .inl fg))]) ⟨xe, xb, xml, xo, xt⟩ (c_Row_get l D cI hx qx cx nx fx sx i (by first | assumption | omega) (by first | assumption | omega)) k_Row_get mw_Terms_65 ⟨Nat.le_of_ble_eq_true rfl, Nat.le_of_ble_eq_true rfl⟩ xK xP xD xS xA rfl xl.1 rfl (Nat.le_of_ble_eq_true rfl) d_Terms_add_120 ⟨Nat.zero_le _, Nat.zero_le _⟩ [7, 8] [0, 1, 2, 3, 4, 5, 6, 9, 10] [0, 1, 2, 3, 4, 5, 6, 9, 10, 7, 8] rfl rfl (by decide) (by decide) (by decide) (by decide) (fun _ => rfl) rfl rfl rfl (fun z_13 u H locs hr_14 hw_12 xP xD xS => ?_)
          try dsimp only at hw_12
          have xP : va_P D classes [(hT, .inr (1, [.ref qk, .ref ql, .ref qc, .ref qtl, .ref qtg, .ref qty, .int (iI sz), .int (iI fr), .int (iI fl)])), (qk, .inl (cI, 120, .inl (fu K sz k))), (ql, .inl (cI, 120, .inl (fu Ln sz nx))), (qc, .inl (cI, 4800, .inl Cv)), (qtl, .inl (cI, 120, .inl (fu TL sz ng))), (qtg, .inl (cI, 1920, .inl TG)), (qty, .inl (cI, 120, .inl (fu TY sz ty))), (hx, .inr (0, [.ref qx, .int (iI nx), .int (iI sx)])), (qx, .inl (cI, cx, .inl fx)), (hg, .inr (0, [.ref qg, .int (iI ng), .int (iI sg)])), (qg, .inl (cI, cg, .inl fg))] H := xP
          have xD : va_D xA0 [(hT, .inr (1, [.ref qk, .ref ql, .ref qc, .ref qtl, .ref qtg, .ref qty, .int (iI sz), .int (iI fr), .int (iI fl)])), (qk, .inl (cI, 120, .inl (fu K sz k))), (ql, .inl (cI, 120, .inl (fu Ln sz nx))), (qc, .inl (cI, 4800, .inl Cv)), (qtl, .inl (cI, 120, .inl (fu TL sz ng))), (qtg, .inl (cI, 1920, .inl TG)), (qty, .inl (cI, 120, .inl (fu TY sz ty))), (hx, .inr (0, [.ref qx, .int (iI nx), .int (iI sx)])), (qx, .inl (cI, cx, .inl fx)), (hg, .inr (0, [.ref qg, .int (iI ng), .int (iI sg)])), (qg, .inl (cI, cg, .inl fg))] := xD
          have HQ := hw_12
          refine tk_iast xe xb xK xP xD xS 3 0 rfl rfl (by omega) d_Terms_add_123 (fun H locs xP xD xS => ?_)
          have xP : va_P D classes [(hT, .inr (1, [.ref qk, .ref ql, .ref qc, .ref qtl, .ref qtg, .ref qty, .int (iI sz), .int (iI fr), .int (iI fl)])), (qk, .inl (cI, 120, .inl (fu K sz k))), (ql, .inl (cI, 120, .inl (fu Ln sz nx))), (qc, .inl (cI, 4800, .inl (fu Cv ((sz * 40) + i) z_13))), (qtl, .inl (cI, 120, .inl (fu TL sz ng))), (qtg, .inl (cI, 1920, .inl TG)), (qty, .inl (cI, 120, .inl (fu TY sz ty))), (hx, .inr (0, [.ref qx, .int (iI nx), .int (iI sx)])), (qx, .inl (cI, cx, .inl fx)), (hg, .inr (0, [.ref qg, .int (iI ng), .int (iI sg)])), (qg, .inl (cI, cg, .inl fg))] H := xP
          have xD : va_D xA0 [(hT, .inr (1, [.ref qk, .ref ql, .ref qc, .ref qtl, .ref qtg, .ref qty, .int (iI sz), .int (iI fr), .int (iI fl)])), (qk, .inl (cI, 120, .inl (fu K sz k))), (ql, .inl (cI, 120, .inl (fu Ln sz nx))), (qc, .inl (cI, 4800, .inl (fu Cv ((sz * 40) + i) z_13))), (qtl, .inl (cI, 120, .inl (fu TL sz ng))), (qtg, .inl (cI, 1920, .inl TG)), (qty, .inl (cI, 120, .inl (fu TY sz ty))), (hx, .inr (0, [.ref qx, .int (iI nx), .int (iI sx)])), (qx, .inl (cI, cx, .inl fx)), (hg, .inr (0, [.ref qg, .int (iI ng), .int (iI sg)])), (qg, .inl (cI, cg, .inl fg))] := xD
          refine tk_iinc (v := (i + 1)) (lv' := [(6, .int (iI (i + 1))), (0, .ref hT), (1, .int (iI k)), (2, .ref hx), (3, .ref hg), (4, .int (iI ty)), (5, .int (iI sz))]) xe xb d_Terms_add_124 xl (k := 6) rfl rfl (by decide) rfl (fun ls xl => ?_)
          refine lv_goto (tgt := 89) xe xb d_Terms_add_127 (by decide) ?_
          exact ih_89 (fu Cv ((sz * 40) + i) z_13) (i + 1) (by omega) (by first | assumption | omega) (fun j j0 j1 => by rw [fu_ne (by omega) j0 (by omega)]; exact h1 j j0 j1) (fun j j0 j1 => by (rcases (show j < i ∨ j = i by omega) with h9 | h9; (rw [fu_ne (by omega) (by omega) (by omega)]; exact h2 j j0 h9); (rw [h9, fu_eq (by omega), HQ]; exact rd_in (by omega)))) _ _ xP xD xS ls (lv_sub xl [1, 2, 3, 4, 5, 6, 0] rfl)
    exact loop_89 _ C 0 (Nat.lt_succ_self _) (by first | assumption | omega) (fun j _ _ => rfl) (fun j h0 h1 => by omega) _ _ xP xD xS ls (lv_sub xl [2, 3, 4, 5, 6, 1, 0] rfl)
