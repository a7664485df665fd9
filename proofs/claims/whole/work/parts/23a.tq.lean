theorem d_Terms_isLike_0 : decode b_Terms_isLike 0 = .ok (.aload_n 0, 1) := by decide +kernel
theorem d_Terms_isLike_1 : decode b_Terms_isLike 1 = .ok (.iload_n 1, 1) := by decide +kernel
theorem d_Terms_isLike_2 : decode b_Terms_isLike 2 = .ok (.invokevirtual 41, 3) := by decide +kernel
theorem d_Terms_isLike_5 : decode b_Terms_isLike 5 = .ok (.ifCond .eq 86, 3) := by decide +kernel
theorem d_Terms_isLike_8 : decode b_Terms_isLike 8 = .ok (.aload_n 0, 1) := by decide +kernel
theorem d_Terms_isLike_9 : decode b_Terms_isLike 9 = .ok (.getfield 9, 3) := by decide +kernel
theorem d_Terms_isLike_12 : decode b_Terms_isLike 12 = .ok (.iload_n 1, 1) := by decide +kernel
theorem d_Terms_isLike_13 : decode b_Terms_isLike 13 = .ok (.iaload, 1) := by decide +kernel
theorem d_Terms_isLike_14 : decode b_Terms_isLike 14 = .ok (.iload_n 2, 1) := by decide +kernel
theorem d_Terms_isLike_15 : decode b_Terms_isLike 15 = .ok (.if_icmp .ne 76, 3) := by decide +kernel
theorem d_Terms_isLike_18 : decode b_Terms_isLike 18 = .ok (.aload_n 0, 1) := by decide +kernel
theorem d_Terms_isLike_19 : decode b_Terms_isLike 19 = .ok (.getfield 27, 3) := by decide +kernel
theorem d_Terms_isLike_22 : decode b_Terms_isLike 22 = .ok (.iload_n 1, 1) := by decide +kernel
theorem d_Terms_isLike_23 : decode b_Terms_isLike 23 = .ok (.iaload, 1) := by decide +kernel
theorem d_Terms_isLike_24 : decode b_Terms_isLike 24 = .ok (.iload 5, 2) := by decide +kernel
theorem d_Terms_isLike_26 : decode b_Terms_isLike 26 = .ok (.if_icmp .ne 65, 3) := by decide +kernel
theorem d_Terms_isLike_29 : decode b_Terms_isLike 29 = .ok (.aload_n 0, 1) := by decide +kernel
theorem d_Terms_isLike_30 : decode b_Terms_isLike 30 = .ok (.getfield 15, 3) := by decide +kernel
theorem d_Terms_isLike_33 : decode b_Terms_isLike 33 = .ok (.iload_n 1, 1) := by decide +kernel
theorem d_Terms_isLike_34 : decode b_Terms_isLike 34 = .ok (.iaload, 1) := by decide +kernel
theorem d_Terms_isLike_35 : decode b_Terms_isLike 35 = .ok (.aload_n 3, 1) := by decide +kernel
theorem d_Terms_isLike_36 : decode b_Terms_isLike 36 = .ok (.getfield 53, 3) := by decide +kernel
theorem d_Terms_isLike_39 : decode b_Terms_isLike 39 = .ok (.if_icmp .ne 52, 3) := by decide +kernel
theorem d_Terms_isLike_42 : decode b_Terms_isLike 42 = .ok (.aload_n 0, 1) := by decide +kernel
theorem d_Terms_isLike_43 : decode b_Terms_isLike 43 = .ok (.getfield 21, 3) := by decide +kernel
theorem d_Terms_isLike_46 : decode b_Terms_isLike 46 = .ok (.iload_n 1, 1) := by decide +kernel
theorem d_Terms_isLike_47 : decode b_Terms_isLike 47 = .ok (.iaload, 1) := by decide +kernel
theorem d_Terms_isLike_48 : decode b_Terms_isLike 48 = .ok (.aload 4, 2) := by decide +kernel
theorem d_Terms_isLike_50 : decode b_Terms_isLike 50 = .ok (.getfield 53, 3) := by decide +kernel
theorem d_Terms_isLike_53 : decode b_Terms_isLike 53 = .ok (.if_icmp .ne 38, 3) := by decide +kernel
theorem d_Terms_isLike_56 : decode b_Terms_isLike 56 = .ok (.aload_n 0, 1) := by decide +kernel
theorem d_Terms_isLike_57 : decode b_Terms_isLike 57 = .ok (.getfield 18, 3) := by decide +kernel
theorem d_Terms_isLike_60 : decode b_Terms_isLike 60 = .ok (.iload_n 1, 1) := by decide +kernel
theorem d_Terms_isLike_61 : decode b_Terms_isLike 61 = .ok (.bipush 40, 2) := by decide +kernel
theorem d_Terms_isLike_63 : decode b_Terms_isLike 63 = .ok (.imul, 1) := by decide +kernel
theorem d_Terms_isLike_64 : decode b_Terms_isLike 64 = .ok (.aload_n 3, 1) := by decide +kernel
theorem d_Terms_isLike_65 : decode b_Terms_isLike 65 = .ok (.invokestatic 58, 3) := by decide +kernel
theorem d_Terms_isLike_68 : decode b_Terms_isLike 68 = .ok (.ifCond .eq 23, 3) := by decide +kernel
theorem d_Terms_isLike_71 : decode b_Terms_isLike 71 = .ok (.aload_n 0, 1) := by decide +kernel
theorem d_Terms_isLike_72 : decode b_Terms_isLike 72 = .ok (.getfield 24, 3) := by decide +kernel
theorem d_Terms_isLike_75 : decode b_Terms_isLike 75 = .ok (.iload_n 1, 1) := by decide +kernel
theorem d_Terms_isLike_76 : decode b_Terms_isLike 76 = .ok (.bipush 16, 2) := by decide +kernel
theorem d_Terms_isLike_78 : decode b_Terms_isLike 78 = .ok (.imul, 1) := by decide +kernel
theorem d_Terms_isLike_79 : decode b_Terms_isLike 79 = .ok (.aload 4, 2) := by decide +kernel
theorem d_Terms_isLike_81 : decode b_Terms_isLike 81 = .ok (.invokestatic 58, 3) := by decide +kernel
theorem d_Terms_isLike_84 : decode b_Terms_isLike 84 = .ok (.ifCond .eq 7, 3) := by decide +kernel
theorem d_Terms_isLike_87 : decode b_Terms_isLike 87 = .ok (.iconst 1, 1) := by decide +kernel
theorem d_Terms_isLike_88 : decode b_Terms_isLike 88 = .ok (.goto 4, 3) := by decide +kernel
theorem d_Terms_isLike_91 : decode b_Terms_isLike 91 = .ok (.iconst 0, 1) := by decide +kernel
theorem d_Terms_isLike_92 : decode b_Terms_isLike 92 = .ok (.ireturn, 1) := by decide +kernel
set_option maxHeartbeats 4000000 in
set_option maxRecDepth 100000 in
theorem c_Terms_isLike (l : Launch) (D : va_G) (cI : ClassId) (hT : Nat) (qk : Nat) (ql : Nat) (qc : Nat) (qtl : Nat) (qtg : Nat) (qty : Nat) (K : Nat → Int32) (Ln : Nat → Int32) (C : Nat → Int32) (TL : Nat → Int32) (TG : Nat → Int32) (TY : Nat → Int32) (sz : Int) (fr : Int) (fl : Int) (hx : Nat) (qx : Nat) (cx : Nat) (nx : Int) (fx : Nat → Int32) (sx : Int) (hg : Nat) (qg : Nat) (cg : Nat) (ng : Int) (fg : Nat → Int32) (sg : Int) (t : Int) (k : Int) (ty : Int) (hs : tOk Ln TL sz) (ht : 0 ≤ t ∧ t < sz) (hk : -2147483648 ≤ k ∧ k < 2147483648) (hy : -2147483648 ≤ ty ∧ ty < 2147483648) (hx1 : 0 ≤ nx ∧ nx ≤ cx ∧ cx ≤ 40) (hg1 : 0 ≤ ng ∧ ng ≤ cg ∧ cg ≤ 16) : CtI l D [(cI, .int)] y_Terms_isLike b_Terms_isLike 6 (some .boolean) 1 [.ref hT, .int (iI t), .int (iI k), .ref hx, .ref hg, .int (iI ty)] [(hT, .inr (1, [.ref qk, .ref ql, .ref qc, .ref qtl, .ref qtg, .ref qty, .int (iI sz), .int (iI fr), .int (iI fl)])), (qk, .inl (cI, 120, .inl K)), (ql, .inl (cI, 120, .inl Ln)), (qc, .inl (cI, 4800, .inl C)), (qtl, .inl (cI, 120, .inl TL)), (qtg, .inl (cI, 1920, .inl TG)), (qty, .inl (cI, 120, .inl TY)), (hx, .inr (0, [.ref qx, .int (iI nx), .int (iI sx)])), (qx, .inl (cI, cx, .inl fx)), (hg, .inr (0, [.ref qg, .int (iI ng), .int (iI sg)])), (qg, .inl (cI, cg, .inl fg))] (S := Unit) (fun z u => (z = 1 ∧ (tmAt K Ln C TL TG TY t = (k, lst (tI fx) nx, lst (tI fg) ng, ty))) ∨ (z = 0 ∧ ¬ (tmAt K Ln C TL TG TY t = (k, lst (tI fx) nx, lst (tI fg) ng, ty)))) (fun u => [(hT, .inr (1, [.ref qk, .ref ql, .ref qc, .ref qtl, .ref qtg, .ref qty, .int (iI sz), .int (iI fr), .int (iI fl)])), (qk, .inl (cI, 120, .inl K)), (ql, .inl (cI, 120, .inl Ln)), (qc, .inl (cI, 4800, .inl C)), (qtl, .inl (cI, 120, .inl TL)), (qtg, .inl (cI, 1920, .inl TG)), (qty, .inl (cI, 120, .inl TY)), (hx, .inr (0, [.ref qx, .int (iI nx), .int (iI sx)])), (qx, .inl (cI, cx, .inl fx)), (hg, .inr (0, [.ref qg, .int (iI ng), .int (iI sg)])), (qg, .inl (cI, cg, .inl fg))]) := by
  refine CtI.walk (fun z => z = 0 ∨ z = 1) (fun z hz => by rcases hz with rfl | rfl <;> decide) (by decide) (Nat.le_of_ble_eq_true rfl) ?_
  intro xp xe0 xs xm xar xbelow xmeth xc xA0 xQ xe xb xml xo xt xP xK xD xA xret ls xl xS
  have xl : lv_has ls 6 [(0, .ref hT), (1, .int (iI t)), (2, .int (iI k)), (3, .ref hx), (4, .ref hg), (5, .int (iI ty))] := xl
  have xo : xs.vm.findClass R_Terms = some xm.cls := xo
  obtain ⟨s0, s1, s2⟩ := hs
  have s3 := s2 t ht.1 ht.2
  refine lv_aload_n xe xb d_Terms_isLike_0 rfl (lv_at xl 0 rfl) ?_
  refine lv_iload_n xe xb d_Terms_isLike_1 rfl (lv_at xl 1 rfl) ?_
  refine tk_callVi (As := [.int (iI t)]) (rest := []) (wr := [(hx, .inr (0, [.ref qx, .int (iI nx), .int (iI sx)])), (qx, .inl (cI, cx, .inl fx)), (hg, .inr (0, [.ref qg, .int (iI ng), .int (iI sg)])), (qg, .inl (cI, cg, .inl fg))]) (wn := fun u => [(hT, .inr (1, [.ref qk, .ref ql, .ref qc, .ref qtl, .ref qtg, .ref qty, .int (iI sz), .int (iI fr), .int (iI fl)])), (qk, .inl (cI, 120, .inl K)), (ql, .inl (cI, 120, .inl Ln)), (qc, .inl (cI, 4800, .inl C)), (qtl, .inl (cI, 120, .inl TL)), (qtg, .inl (cI, 1920, .inl TG)), (qty, .inl (cI, 120, .inl TY)), (hx, .inr (0, [.ref qx, .int (iI nx), .int (iI sx)])), (qx, .inl (cI, cx, .inl fx)), (hg, .inr (0, [.ref qg, .int (iI ng), .int (iI sg)])), (qg, .inl (cI, cg, .inl fg))]) ⟨xe, xb, xml, xo, xt⟩ (c_Terms_has l D cI hT qk ql qc qtl qtg qty K Ln C TL TG TY sz fr fl t (by first | assumption | omega) (by first | assumption | omega)) k_Terms_has mw_Terms_41 ⟨Nat.le_of_ble_eq_true rfl, Nat.le_of_ble_eq_true rfl⟩ xK xP xD xS xA rfl xl.1 rfl (Nat.le_of_ble_eq_true rfl) d_Terms_isLike_2 ⟨Nat.zero_le _, Nat.zero_le _⟩ [0, 1, 2, 3, 4, 5, 6] [7, 8, 9, 10] [4, 5, 6, 7, 8, 9, 10, 0, 1, 2, 3] rfl rfl (by decide) (by decide) (by decide) (by decide) (fun _ => rfl) rfl rfl rfl (fun z_2 u H locs hr_3 hw_1 xP xD xS => ?_)
  try dsimp only at hw_1
  have xP : va_P D classes [(hT, .inr (1, [.ref qk, .ref ql, .ref qc, .ref qtl, .ref qtg, .ref qty, .int (iI sz), .int (iI fr), .int (iI fl)])), (qk, .inl (cI, 120, .inl K)), (ql, .inl (cI, 120, .inl Ln)), (qc, .inl (cI, 4800, .inl C)), (qtl, .inl (cI, 120, .inl TL)), (qtg, .inl (cI, 1920, .inl TG)), (qty, .inl (cI, 120, .inl TY)), (hx, .inr (0, [.ref qx, .int (iI nx), .int (iI sx)])), (qx, .inl (cI, cx, .inl fx)), (hg, .inr (0, [.ref qg, .int (iI ng), .int (iI sg)])), (qg, .inl (cI, cg, .inl fg))] H := xP
  have xD : va_D xA0 [(hT, .inr (1, [.ref qk, .ref ql, .ref qc, .ref qtl, .ref qtg, .ref qty, .int (iI sz), .int (iI fr), .int (iI fl)])), (qk, .inl (cI, 120, .inl K)), (ql, .inl (cI, 120, .inl Ln)), (qc, .inl (cI, 4800, .inl C)), (qtl, .inl (cI, 120, .inl TL)), (qtg, .inl (cI, 1920, .inl TG)), (qty, .inl (cI, 120, .inl TY)), (hx, .inr (0, [.ref qx, .int (iI nx), .int (iI sx)])), (qx, .inl (cI, cx, .inl fx)), (hg, .inr (0, [.ref qg, .int (iI ng), .int (iI sg)])), (qg, .inl (cI, cg, .inl fg))] := xD
  rcases hw_1 with ⟨rfl, hb_4⟩ | ⟨rfl, hb_5⟩
  · refine tk_if_eq (tgt := 91) xe xb d_Terms_isLike_5 (by decide) (by omega) (fun c_6 => absurd c_6 (by omega)) (fun c_6 => ?_)
    refine lv_aload_n xe xb d_Terms_isLike_8 rfl (lv_at xl 0 rfl) ?_
    refine va_get (D := D) (ci := 1) (v := .ref qk) (C := R_Terms) (T := F_Terms) (N := 9) xe xb xt i_Terms xo xK xP 0 rfl rfl 0 (by decide) (xt _ mw_Terms_9) (fun _ h9 => h9) rfl d_Terms_isLike_9 ?_
    refine lv_iload_n xe xb d_Terms_isLike_12 rfl (lv_at xl 1 rfl) ?_
    refine tk_iald xe xb xK xP 1 0 rfl rfl (by omega) d_Terms_isLike_13 ?_
    have hr_7 := tI_rg K t
    refine lv_iload_n xe xb d_Terms_isLike_14 rfl (lv_at xl 2 rfl) ?_
    refine tk_icmp_ne (tgt := 91) xe xb d_Terms_isLike_15 (by decide) (by omega) (fun Ck => ?_) (fun Ck => ?_)
    · refine lv_iconst (v := iI (0)) xe xb d_Terms_isLike_91 rfl ?_
      exact xret _ _ _ _ 0 () d_Terms_isLike_92 (by omega) (by omega) (by first | exact (Or.inl ⟨rfl, by (unfold tmAt; rw [Ck, Cy, Cl, Ct, Hs, Hg])⟩) | exact (Or.inr ⟨rfl, fun h9 => by (simp only [tmAt, Prod.mk.injEq] at h9; obtain ⟨e1, e2, e3, e4⟩ := h9; have l1 := lst_eqn (by omega) (by omega) e2; have l2 := lst_eqn (by omega) (by omega) e3; first | omega | (rw [l1] at e2; exact Hs e2) | (rw [l2] at e3; exact Hg e3))⟩) | omega) xP xD xS
    · refine lv_aload_n xe xb d_Terms_isLike_18 rfl (lv_at xl 0 rfl) ?_
      refine va_get (D := D) (ci := 1) (v := .ref qty) (C := R_Terms) (T := F_Terms) (N := 9) xe xb xt i_Terms xo xK xP 0 rfl rfl 5 (by decide) (xt _ mw_Terms_27) (fun _ h9 => h9) rfl d_Terms_isLike_19 ?_
      refine lv_iload_n xe xb d_Terms_isLike_22 rfl (lv_at xl 1 rfl) ?_
      refine tk_iald xe xb xK xP 6 0 rfl rfl (by omega) d_Terms_isLike_23 ?_
      have hr_8 := tI_rg TY t
      refine lv_iload xe xb d_Terms_isLike_24 (lv_at xl 5 rfl) ?_
      refine tk_icmp_ne (tgt := 91) xe xb d_Terms_isLike_26 (by decide) (by omega) (fun Cy => ?_) (fun Cy => ?_)
      · refine lv_iconst (v := iI (0)) xe xb d_Terms_isLike_91 rfl ?_
        exact xret _ _ _ _ 0 () d_Terms_isLike_92 (by omega) (by omega) (by first | exact (Or.inl ⟨rfl, by (unfold tmAt; rw [Ck, Cy, Cl, Ct, Hs, Hg])⟩) | exact (Or.inr ⟨rfl, fun h9 => by (simp only [tmAt, Prod.mk.injEq] at h9; obtain ⟨e1, e2, e3, e4⟩ := h9; have l1 := lst_eqn (by omega) (by omega) e2; have l2 := lst_eqn (by omega) (by omega) e3; first | omega | (rw [l1] at e2; exact Hs e2) | (rw [l2] at e3; exact Hg e3))⟩) | omega) xP xD xS
      · refine lv_aload_n xe xb d_Terms_isLike_29 rfl (lv_at xl 0 rfl) ?_
        refine va_get (D := D) (ci := 1) (v := .ref ql) (C := R_Terms) (T := F_Terms) (N := 9) xe xb xt i_Terms xo xK xP 0 rfl rfl 1 (by decide) (xt _ mw_Terms_15) (fun _ h9 => h9) rfl d_Terms_isLike_30 ?_
        refine lv_iload_n xe xb d_Terms_isLike_33 rfl (lv_at xl 1 rfl) ?_
        refine tk_iald xe xb xK xP 2 0 rfl rfl (by omega) d_Terms_isLike_34 ?_
        have hr_9 := tI_rg Ln t
        refine lv_aload_n xe xb d_Terms_isLike_35 rfl (lv_at xl 3 rfl) ?_
        refine va_get (D := D) (ci := 0) (v := .int (iI nx)) (C := R_Row) (T := F_Row) (N := 3) xe xb xt i_Row xo xK xP 7 rfl rfl 1 (by decide) (xt _ mw_Terms_53) (fun _ h9 => h9) rfl d_Terms_isLike_36 ?_
        refine tk_icmp_ne (tgt := 91) xe xb d_Terms_isLike_39 (by decide) (by omega) (fun Cl => ?_) (fun Cl => ?_)
        · refine lv_iconst (v := iI (0)) xe xb d_Terms_isLike_91 rfl ?_
          exact xret _ _ _ _ 0 () d_Terms_isLike_92 (by omega) (by omega) (by first | exact (Or.inl ⟨rfl, by (unfold tmAt; rw [Ck, Cy, Cl, Ct, Hs, Hg])⟩) | exact (Or.inr ⟨rfl, fun h9 => by (simp only [tmAt, Prod.mk.injEq] at h9; obtain ⟨e1, e2, e3, e4⟩ := h9; have l1 := lst_eqn (by omega) (by omega) e2; have l2 := lst_eqn (by omega) (by omega) e3; first | omega | (rw [l1] at e2; exact Hs e2) | (rw [l2] at e3; exact Hg e3))⟩) | omega) xP xD xS
        · refine lv_aload_n xe xb d_Terms_isLike_42 rfl (lv_at xl 0 rfl) ?_
          refine va_get (D := D) (ci := 1) (v := .ref qtl) (C := R_Terms) (T := F_Terms) (N := 9) xe xb xt i_Terms xo xK xP 0 rfl rfl 3 (by decide) (xt _ mw_Terms_21) (fun _ h9 => h9) rfl d_Terms_isLike_43 ?_
          refine lv_iload_n xe xb d_Terms_isLike_46 rfl (lv_at xl 1 rfl) ?_
          refine tk_iald xe xb xK xP 4 0 rfl rfl (by omega) d_Terms_isLike_47 ?_
          have hr_10 := tI_rg TL t
          refine lv_aload xe xb d_Terms_isLike_48 (lv_at xl 4 rfl) ?_
          refine va_get (D := D) (ci := 0) (v := .int (iI ng)) (C := R_Row) (T := F_Row) (N := 3) xe xb xt i_Row xo xK xP 9 rfl rfl 1 (by decide) (xt _ mw_Terms_53) (fun _ h9 => h9) rfl d_Terms_isLike_50 ?_
          refine tk_icmp_ne (tgt := 91) xe xb d_Terms_isLike_53 (by decide) (by omega) (fun Ct => ?_) (fun Ct => ?_)
          · refine lv_iconst (v := iI (0)) xe xb d_Terms_isLike_91 rfl ?_
            exact xret _ _ _ _ 0 () d_Terms_isLike_92 (by omega) (by omega) (by first | exact (Or.inl ⟨rfl, by (unfold tmAt; rw [Ck, Cy, Cl, Ct, Hs, Hg])⟩) | exact (Or.inr ⟨rfl, fun h9 => by (simp only [tmAt, Prod.mk.injEq] at h9; obtain ⟨e1, e2, e3, e4⟩ := h9; have l1 := lst_eqn (by omega) (by omega) e2; have l2 := lst_eqn (by omega) (by omega) e3; first | omega | (rw [l1] at e2; exact Hs e2) | (rw [l2] at e3; exact Hg e3))⟩) | omega) xP xD xS
          · refine lv_aload_n xe xb d_Terms_isLike_56 rfl (lv_at xl 0 rfl) ?_
            refine va_get (D := D) (ci := 1) (v := .ref qc) (C := R_Terms) (T := F_Terms) (N := 9) xe xb xt i_Terms xo xK xP 0 rfl rfl 2 (by decide) (xt _ mw_Terms_18) (fun _ h9 => h9) rfl d_Terms_isLike_57 ?_
            refine lv_iload_n xe xb d_Terms_isLike_60 rfl (lv_at xl 1 rfl) ?_
            refine lv_bipush (v := iI (40)) xe xb d_Terms_isLike_61 (by decide) ?_
            refine tk_imul xe xb d_Terms_isLike_63 ?_
            refine lv_aload_n xe xb d_Terms_isLike_64 rfl (lv_at xl 3 rfl) ?_
            refine tk_callSi (As := [.ref qc, .int (iI (t * 40)), .ref hx]) (rest := []) (wr := [(hT, .inr (1, [.ref qk, .ref ql, .ref qc, .ref qtl, .ref qtg, .ref qty, .int (iI sz), .int (iI fr), .int (iI fl)])), (qk, .inl (cI, 120, .inl K)), (ql, .inl (cI, 120, .inl Ln)), (qtl, .inl (cI, 120, .inl TL)), (qtg, .inl (cI, 1920, .inl TG)), (qty, .inl (cI, 120, .inl TY)), (hg, .inr (0, [.ref qg, .int (iI ng), .int (iI sg)])), (qg, .inl (cI, cg, .inl fg))]) (wn := fun u => [(hT, .inr (1, [.ref qk, .ref ql, .ref qc, .ref qtl, .ref qtg, .ref qty, .int (iI sz), .int (iI fr), .int (iI fl)])), (qk, .inl (cI, 120, .inl K)), (ql, .inl (cI, 120, .inl Ln)), (qc, .inl (cI, 4800, .inl C)), (qtl, .inl (cI, 120, .inl TL)), (qtg, .inl (cI, 1920, .inl TG)), (qty, .inl (cI, 120, .inl TY)), (hx, .inr (0, [.ref qx, .int (iI nx), .int (iI sx)])), (qx, .inl (cI, cx, .inl fx)), (hg, .inr (0, [.ref qg, .int (iI ng), .int (iI sg)])), (qg, .inl (cI, cg, .inl fg))]) ⟨xe, xb, xml, xo, xt⟩ (c_Terms_holds l D cI qc 4800 C hx qx cx nx fx sx (t * 40) (by first | assumption | omega) (by first | assumption | omega)) k_Terms_holds mw_Terms_58 ⟨Nat.le_of_ble_eq_true rfl, Nat.le_of_ble_eq_true rfl⟩ xK xP xD xS xA rfl xl.1 rfl (Nat.le_of_ble_eq_true rfl) d_Terms_isLike_65 ⟨Nat.zero_le _, Nat.zero_le _⟩ [3, 7, 8] [0, 1, 2, 4, 5, 6, 9, 10] [0, 1, 2, 8, 3, 4, 5, 9, 10, 6, 7] rfl rfl (by decide) (by decide) (by decide) (by decide) (fun _ => rfl) (fun z_12 u H locs hr_13 hw_11 xP xD xS => ?_)
            try dsimp only at hw_11
            have xP : va_P D classes [(hT, .inr (1, [.ref qk, .ref ql, .ref qc, .ref qtl, .ref qtg, .ref qty, .int (iI sz), .int (iI fr), .int (iI fl)])), (qk, .inl (cI, 120, .inl K)), (ql, .inl (cI, 120, .inl Ln)), (qc, .inl (cI, 4800, .inl C)), (qtl, .inl (cI, 120, .inl TL)), (qtg, .inl (cI, 1920, .inl TG)), (qty, .inl (cI, 120, .inl TY)), (hx, .inr (0, [.ref qx, .int (iI nx), .int (iI sx)])), (qx, .inl (cI, cx, .inl fx)), (hg, .inr (0, [.ref qg, .int (iI ng), .int (iI sg)])), (qg, .inl (cI, cg, .inl fg))] H := xP
            have xD : va_D xA0 [(hT, .inr (1, [.ref qk, .ref ql, .ref qc, .ref qtl, .ref qtg, .ref qty, .int (iI sz), .int (iI fr), .int (iI fl)])), (qk, .inl (cI, 120, .inl K)), (ql, .inl (cI, 120, .inl Ln)), (qc, .inl (cI, 4800, .inl C)), (qtl, .inl (cI, 120, .inl TL)), (qtg, .inl (cI, 1920, .inl TG)), (qty, .inl (cI, 120, .inl TY)), (hx, .inr (0, [.ref qx, .int (iI nx), .int (iI sx)])), (qx, .inl (cI, cx, .inl fx)), (hg, .inr (0, [.ref qg, .int (iI ng), .int (iI sg)])), (qg, .inl (cI, cg, .inl fg))] := xD
            rcases hw_11 with ⟨rfl, Hs⟩ | ⟨rfl, Hs⟩
            · refine tk_if_eq (tgt := 91) xe xb d_Terms_isLike_68 (by decide) (by omega) (fun c_14 => absurd c_14 (by omega)) (fun c_14 => ?_)
              refine lv_aload_n xe xb d_Terms_isLike_71 rfl (lv_at xl 0 rfl) ?_
              refine va_get (D := D) (ci := 1) (v := .ref qtg) (C := R_Terms) (T := F_Terms) (N := 9) xe xb xt i_Terms xo xK xP 0 rfl rfl 4 (by decide) (xt _ mw_Terms_24) (fun _ h9 => h9) rfl d_Terms_isLike_72 ?_
              refine lv_iload_n xe xb d_Terms_isLike_75 rfl (lv_at xl 1 rfl) ?_
              refine lv_bipush (v := iI (16)) xe xb d_Terms_isLike_76 (by decide) ?_
              refine tk_imul xe xb d_Terms_isLike_78 ?_
              refine lv_aload xe xb d_Terms_isLike_79 (lv_at xl 4 rfl) ?_
              refine tk_callSi (As := [.ref qtg, .int (iI (t * 16)), .ref hg]) (rest := []) (wr := [(hT, .inr (1, [.ref qk, .ref ql, .ref qc, .ref qtl, .ref qtg, .ref qty, .int (iI sz), .int (iI fr), .int (iI fl)])), (qk, .inl (cI, 120, .inl K)), (ql, .inl (cI, 120, .inl Ln)), (qc, .inl (cI, 4800, .inl C)), (qtl, .inl (cI, 120, .inl TL)), (qty, .inl (cI, 120, .inl TY)), (hx, .inr (0, [.ref qx, .int (iI nx), .int (iI sx)])), (qx, .inl (cI, cx, .inl fx))]) (wn := fun u => [(hT, .inr (1, [.ref qk, .ref ql, .ref qc, .ref qtl, .ref qtg, .ref qty, .int (iI sz), .int (iI fr), .int (iI fl)])), (qk, .inl (cI, 120, .inl K)), (ql, .inl (cI, 120, .inl Ln)), (qc, .inl (cI, 4800, .inl C)), (qtl, .inl (cI, 120, .inl TL)), (qtg, .inl (cI, 1920, .inl TG)), (qty, .inl (cI, 120, .inl TY)), (hx, .inr (0, [.ref qx, .int (iI nx), .int (iI sx)])), (qx, .inl (cI, cx, .inl fx)), (hg, .inr (0, [.ref qg, .int (iI ng), .int (iI sg)])), (qg, .inl (cI, cg, .inl fg))]) ⟨xe, xb, xml, xo, xt⟩ (c_Terms_holds l D cI qtg 1920 TG hg qg cg ng fg sg (t * 16) (by first | assumption | omega) (by first | assumption | omega)) k_Terms_holds mw_Terms_58 ⟨Nat.le_of_ble_eq_true rfl, Nat.le_of_ble_eq_true rfl⟩ xK xP xD xS xA rfl xl.1 rfl (Nat.le_of_ble_eq_true rfl) d_Terms_isLike_81 ⟨Nat.zero_le _, Nat.zero_le _⟩ [5, 9, 10] [0, 1, 2, 3, 4, 6, 7, 8] [0, 1, 2, 3, 4, 8, 5, 6, 7, 9, 10] rfl rfl (by decide) (by decide) (by decide) (by decide) (fun _ => rfl) (fun z_16 u H locs hr_17 hw_15 xP xD xS => ?_)
              try dsimp only at hw_15
              have xP : va_P D classes [(hT, .inr (1, [.ref qk, .ref ql, .ref qc, .ref qtl, .ref qtg, .ref qty, .int (iI sz), .int (iI fr), .int (iI fl)])), (qk, .inl (cI, 120, .inl K)), (ql, .inl (cI, 120, .inl Ln)), (qc, .inl (cI, 4800, .inl C)), (qtl, .inl (cI, 120, .inl TL)), (qtg, .inl (cI, 1920, .inl TG)), (qty, .inl (cI, 120, .inl TY)), (hx, .inr (0, [.ref qx, .int (iI nx), .int (iI sx)])), (qx, .inl (cI, cx, .inl fx)), (hg, .inr (0, [.ref qg, .int (iI ng), .int (iI sg)])), (qg, .inl (cI, cg, .inl fg))] H := xP
              have xD : va_D xA0 [(hT, .inr (1, [.ref qk, .ref ql, .ref qc, .ref qtl, .ref qtg, .ref qty, .int (iI sz), .int (iI fr), .int (iI fl)])), (qk, .inl (cI, 120, .inl K)), (ql, .inl (cI, 120, .inl Ln)), (qc, .inl (cI, 4800, .inl C)), (qtl, .inl (cI, 120, .inl TL)), (qtg, .inl (cI, 1920, .inl TG)), (qty, .inl (cI, 120, .inl TY)), (hx, .inr (0, [.ref qx, .int (iI nx), .int (iI sx)])), (qx, .inl (cI, cx, .inl fx)), (hg, .inr (0, [.ref qg, .int (iI ng), .int (iI sg)])), (qg, .inl (cI, cg, .inl fg))] := xD
              rcases hw_15 with ⟨rfl, Hg⟩ | ⟨rfl, Hg⟩
              · refine tk_if_eq (tgt := 91) xe xb d_Terms_isLike_84 (by decide) (by omega) (fun c_18 => absurd c_18 (by omega)) (fun c_18 => ?_)
                refine lv_iconst (v := iI (1)) xe xb d_Terms_isLike_87 rfl ?_
                refine lv_goto (tgt := 92) xe xb d_Terms_isLike_88 (by decide) ?_
                exact xret _ _ _ _ 1 () d_Terms_isLike_92 (by omega) (by omega) (by first | exact (Or.inl ⟨rfl, by (unfold tmAt; rw [Ck, Cy, Cl, Ct, Hs, Hg])⟩) | exact (Or.inr ⟨rfl, fun h9 => by (simp only [tmAt, Prod.mk.injEq] at h9; obtain ⟨e1, e2, e3, e4⟩ := h9; have l1 := lst_eqn (by omega) (by omega) e2; have l2 := lst_eqn (by omega) (by omega) e3; first | omega | (rw [l1] at e2; exact Hs e2) | (rw [l2] at e3; exact Hg e3))⟩) | omega) xP xD xS
              · refine tk_if_eq (tgt := 91) xe xb d_Terms_isLike_84 (by decide) (by omega) (fun c_19 => ?_) (fun c_19 => absurd c_19 (by omega))
                refine lv_iconst (v := iI (0)) xe xb d_Terms_isLike_91 rfl ?_
                exact xret _ _ _ _ 0 () d_Terms_isLike_92 (by omega) (by omega) (by first | exact (Or.inl ⟨rfl, by (unfold tmAt; rw [Ck, Cy, Cl, Ct, Hs, Hg])⟩) | exact (Or.inr ⟨rfl, fun h9 => by (simp only [tmAt, Prod.mk.injEq] at h9; obtain ⟨e1, e2, e3, e4⟩ := h9; have l1 := lst_eqn (by omega) (by omega) e2; have l2 := lst_eqn (by omega) (by omega) e3; first | omega | (rw [l1] at e2; exact Hs e2) | (rw [l2] at e3; exact Hg e3))⟩) | omega) xP xD xS
            · refine tk_if_eq (tgt := 91) xe xb d_Terms_isLike_68 (by decide) (by omega) (fun c_20 => ?_) (fun c_20 => absurd c_20 (by omega))
              refine lv_iconst (v := iI (0)) xe xb d_Terms_isLike_91 rfl ?_
              exact xret _ _ _ _ 0 () d_Terms_isLike_92 (by omega) (by omega) (by first | exact (Or.inl ⟨rfl, by (unfold tmAt; rw [Ck, Cy, Cl, Ct, Hs, Hg])⟩) | exact (Or.inr ⟨rfl, fun h9 => by (simp only [tmAt, Prod.mk.injEq] at h9; obtain ⟨e1, e2, e3, e4⟩ := h9; have l1 := lst_eqn (by omega) (by omega) e2; have l2 := lst_eqn (by omega) (by omega) e3; first | omega | (rw [l1] at e2; exact Hs e2) | (rw [l2] at e3; exact Hg e3))⟩) | omega) xP xD xS
  · refine tk_if_eq (tgt := 91) xe xb d_Terms_isLike_5 (by decide) (by omega) (fun c_21 => ?_) (fun c_21 => absurd c_21 (by omega))
    refine lv_iconst (v := iI (0)) xe xb d_Terms_isLike_91 rfl ?_
    exact xret _ _ _ _ 0 () d_Terms_isLike_92 (by omega) (by omega) (by first | exact (Or.inl ⟨rfl, by (unfold tmAt; rw [Ck, Cy, Cl, Ct, Hs, Hg])⟩) | exact (Or.inr ⟨rfl, fun h9 => by (simp only [tmAt, Prod.mk.injEq] at h9; obtain ⟨e1, e2, e3, e4⟩ := h9; have l1 := lst_eqn (by omega) (by omega) e2; have l2 := lst_eqn (by omega) (by omega) e3; first | omega | (rw [l1] at e2; exact Hs e2) | (rw [l2] at e3; exact Hg e3))⟩) | omega) xP xD xS
