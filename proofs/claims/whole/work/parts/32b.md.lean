theorem d_TripleLinesModel_putTerm_0 : decode b_TripleLinesModel_putTerm 0 = .ok (.aload_n 0, 1) := by decide +kernel
theorem d_TripleLinesModel_putTerm_1 : decode b_TripleLinesModel_putTerm 1 = .ok (.getfield 16, 3) := by decide +kernel
theorem d_TripleLinesModel_putTerm_4 : decode b_TripleLinesModel_putTerm 4 = .ok (.iload_n 1, 1) := by decide +kernel
theorem d_TripleLinesModel_putTerm_5 : decode b_TripleLinesModel_putTerm 5 = .ok (.iaload, 1) := by decide +kernel
theorem d_TripleLinesModel_putTerm_6 : decode b_TripleLinesModel_putTerm 6 = .ok (.ifCond .ne 11, 3) := by decide +kernel
theorem d_TripleLinesModel_putTerm_9 : decode b_TripleLinesModel_putTerm 9 = .ok (.aload_n 0, 1) := by decide +kernel
theorem d_TripleLinesModel_putTerm_10 : decode b_TripleLinesModel_putTerm 10 = .ok (.iload_n 1, 1) := by decide +kernel
theorem d_TripleLinesModel_putTerm_11 : decode b_TripleLinesModel_putTerm 11 = .ok (.invokevirtual 247, 3) := by decide +kernel
theorem d_TripleLinesModel_putTerm_14 : decode b_TripleLinesModel_putTerm 14 = .ok (.goto 139, 3) := by decide +kernel
theorem d_TripleLinesModel_putTerm_17 : decode b_TripleLinesModel_putTerm 17 = .ok (.aload_n 0, 1) := by decide +kernel
theorem d_TripleLinesModel_putTerm_18 : decode b_TripleLinesModel_putTerm 18 = .ok (.getfield 16, 3) := by decide +kernel
theorem d_TripleLinesModel_putTerm_21 : decode b_TripleLinesModel_putTerm 21 = .ok (.iload_n 1, 1) := by decide +kernel
theorem d_TripleLinesModel_putTerm_22 : decode b_TripleLinesModel_putTerm 22 = .ok (.iaload, 1) := by decide +kernel
theorem d_TripleLinesModel_putTerm_23 : decode b_TripleLinesModel_putTerm 23 = .ok (.iconst 1, 1) := by decide +kernel
theorem d_TripleLinesModel_putTerm_24 : decode b_TripleLinesModel_putTerm 24 = .ok (.if_icmp .ne 29, 3) := by decide +kernel
theorem d_TripleLinesModel_putTerm_27 : decode b_TripleLinesModel_putTerm 27 = .ok (.aload_n 0, 1) := by decide +kernel
theorem d_TripleLinesModel_putTerm_28 : decode b_TripleLinesModel_putTerm 28 = .ok (.bipush 95, 2) := by decide +kernel
theorem d_TripleLinesModel_putTerm_30 : decode b_TripleLinesModel_putTerm 30 = .ok (.invokevirtual 229, 3) := by decide +kernel
theorem d_TripleLinesModel_putTerm_33 : decode b_TripleLinesModel_putTerm 33 = .ok (.aload_n 0, 1) := by decide +kernel
theorem d_TripleLinesModel_putTerm_34 : decode b_TripleLinesModel_putTerm 34 = .ok (.bipush 58, 2) := by decide +kernel
theorem d_TripleLinesModel_putTerm_36 : decode b_TripleLinesModel_putTerm 36 = .ok (.invokevirtual 229, 3) := by decide +kernel
theorem d_TripleLinesModel_putTerm_39 : decode b_TripleLinesModel_putTerm 39 = .ok (.aload_n 0, 1) := by decide +kernel
theorem d_TripleLinesModel_putTerm_40 : decode b_TripleLinesModel_putTerm 40 = .ok (.bipush 98, 2) := by decide +kernel
theorem d_TripleLinesModel_putTerm_42 : decode b_TripleLinesModel_putTerm 42 = .ok (.invokevirtual 229, 3) := by decide +kernel
theorem d_TripleLinesModel_putTerm_45 : decode b_TripleLinesModel_putTerm 45 = .ok (.aload_n 0, 1) := by decide +kernel
theorem d_TripleLinesModel_putTerm_46 : decode b_TripleLinesModel_putTerm 46 = .ok (.iload_n 1, 1) := by decide +kernel
theorem d_TripleLinesModel_putTerm_47 : decode b_TripleLinesModel_putTerm 47 = .ok (.invokevirtual 250, 3) := by decide +kernel
theorem d_TripleLinesModel_putTerm_50 : decode b_TripleLinesModel_putTerm 50 = .ok (.goto 103, 3) := by decide +kernel
theorem d_TripleLinesModel_putTerm_53 : decode b_TripleLinesModel_putTerm 53 = .ok (.aload_n 0, 1) := by decide +kernel
theorem d_TripleLinesModel_putTerm_54 : decode b_TripleLinesModel_putTerm 54 = .ok (.bipush 34, 2) := by decide +kernel
theorem d_TripleLinesModel_putTerm_56 : decode b_TripleLinesModel_putTerm 56 = .ok (.invokevirtual 229, 3) := by decide +kernel
theorem d_TripleLinesModel_putTerm_59 : decode b_TripleLinesModel_putTerm 59 = .ok (.aload_n 0, 1) := by decide +kernel
theorem d_TripleLinesModel_putTerm_60 : decode b_TripleLinesModel_putTerm 60 = .ok (.iload_n 1, 1) := by decide +kernel
theorem d_TripleLinesModel_putTerm_61 : decode b_TripleLinesModel_putTerm 61 = .ok (.iconst 1, 1) := by decide +kernel
theorem d_TripleLinesModel_putTerm_62 : decode b_TripleLinesModel_putTerm 62 = .ok (.invokevirtual 244, 3) := by decide +kernel
theorem d_TripleLinesModel_putTerm_65 : decode b_TripleLinesModel_putTerm 65 = .ok (.aload_n 0, 1) := by decide +kernel
theorem d_TripleLinesModel_putTerm_66 : decode b_TripleLinesModel_putTerm 66 = .ok (.bipush 34, 2) := by decide +kernel
theorem d_TripleLinesModel_putTerm_68 : decode b_TripleLinesModel_putTerm 68 = .ok (.invokevirtual 229, 3) := by decide +kernel
theorem d_TripleLinesModel_putTerm_71 : decode b_TripleLinesModel_putTerm 71 = .ok (.aload_n 0, 1) := by decide +kernel
theorem d_TripleLinesModel_putTerm_72 : decode b_TripleLinesModel_putTerm 72 = .ok (.getfield 25, 3) := by decide +kernel
theorem d_TripleLinesModel_putTerm_75 : decode b_TripleLinesModel_putTerm 75 = .ok (.iload_n 1, 1) := by decide +kernel
theorem d_TripleLinesModel_putTerm_76 : decode b_TripleLinesModel_putTerm 76 = .ok (.iaload, 1) := by decide +kernel
theorem d_TripleLinesModel_putTerm_77 : decode b_TripleLinesModel_putTerm 77 = .ok (.ifCond .le 45, 3) := by decide +kernel
theorem d_TripleLinesModel_putTerm_80 : decode b_TripleLinesModel_putTerm 80 = .ok (.aload_n 0, 1) := by decide +kernel
theorem d_TripleLinesModel_putTerm_81 : decode b_TripleLinesModel_putTerm 81 = .ok (.bipush 64, 2) := by decide +kernel
theorem d_TripleLinesModel_putTerm_83 : decode b_TripleLinesModel_putTerm 83 = .ok (.invokevirtual 229, 3) := by decide +kernel
theorem d_TripleLinesModel_putTerm_86 : decode b_TripleLinesModel_putTerm 86 = .ok (.iconst 0, 1) := by decide +kernel
theorem d_TripleLinesModel_putTerm_87 : decode b_TripleLinesModel_putTerm 87 = .ok (.istore_n 2, 1) := by decide +kernel
theorem d_TripleLinesModel_putTerm_88 : decode b_TripleLinesModel_putTerm 88 = .ok (.iload_n 2, 1) := by decide +kernel
theorem d_TripleLinesModel_putTerm_89 : decode b_TripleLinesModel_putTerm 89 = .ok (.aload_n 0, 1) := by decide +kernel
theorem d_TripleLinesModel_putTerm_90 : decode b_TripleLinesModel_putTerm 90 = .ok (.getfield 25, 3) := by decide +kernel
theorem d_TripleLinesModel_putTerm_93 : decode b_TripleLinesModel_putTerm 93 = .ok (.iload_n 1, 1) := by decide +kernel
theorem d_TripleLinesModel_putTerm_94 : decode b_TripleLinesModel_putTerm 94 = .ok (.iaload, 1) := by decide +kernel
theorem d_TripleLinesModel_putTerm_95 : decode b_TripleLinesModel_putTerm 95 = .ok (.if_icmp .ge 24, 3) := by decide +kernel
theorem d_TripleLinesModel_putTerm_98 : decode b_TripleLinesModel_putTerm 98 = .ok (.aload_n 0, 1) := by decide +kernel
theorem d_TripleLinesModel_putTerm_99 : decode b_TripleLinesModel_putTerm 99 = .ok (.aload_n 0, 1) := by decide +kernel
theorem d_TripleLinesModel_putTerm_100 : decode b_TripleLinesModel_putTerm 100 = .ok (.getfield 28, 3) := by decide +kernel
theorem d_TripleLinesModel_putTerm_103 : decode b_TripleLinesModel_putTerm 103 = .ok (.bipush 16, 2) := by decide +kernel
theorem d_TripleLinesModel_putTerm_105 : decode b_TripleLinesModel_putTerm 105 = .ok (.iload_n 1, 1) := by decide +kernel
theorem d_TripleLinesModel_putTerm_106 : decode b_TripleLinesModel_putTerm 106 = .ok (.imul, 1) := by decide +kernel
theorem d_TripleLinesModel_putTerm_107 : decode b_TripleLinesModel_putTerm 107 = .ok (.iload_n 2, 1) := by decide +kernel
theorem d_TripleLinesModel_putTerm_108 : decode b_TripleLinesModel_putTerm 108 = .ok (.iadd, 1) := by decide +kernel
theorem d_TripleLinesModel_putTerm_109 : decode b_TripleLinesModel_putTerm 109 = .ok (.iaload, 1) := by decide +kernel
theorem d_TripleLinesModel_putTerm_110 : decode b_TripleLinesModel_putTerm 110 = .ok (.invokevirtual 229, 3) := by decide +kernel
theorem d_TripleLinesModel_putTerm_113 : decode b_TripleLinesModel_putTerm 113 = .ok (.iinc 2 1, 3) := by decide +kernel
theorem d_TripleLinesModel_putTerm_116 : decode b_TripleLinesModel_putTerm 116 = .ok (.goto (-28), 3) := by decide +kernel
theorem d_TripleLinesModel_putTerm_119 : decode b_TripleLinesModel_putTerm 119 = .ok (.goto 34, 3) := by decide +kernel
theorem d_TripleLinesModel_putTerm_122 : decode b_TripleLinesModel_putTerm 122 = .ok (.aload_n 0, 1) := by decide +kernel
theorem d_TripleLinesModel_putTerm_123 : decode b_TripleLinesModel_putTerm 123 = .ok (.getfield 31, 3) := by decide +kernel
theorem d_TripleLinesModel_putTerm_126 : decode b_TripleLinesModel_putTerm 126 = .ok (.iload_n 1, 1) := by decide +kernel
theorem d_TripleLinesModel_putTerm_127 : decode b_TripleLinesModel_putTerm 127 = .ok (.iaload, 1) := by decide +kernel
theorem d_TripleLinesModel_putTerm_128 : decode b_TripleLinesModel_putTerm 128 = .ok (.ifCond .lt 25, 3) := by decide +kernel
theorem d_TripleLinesModel_putTerm_131 : decode b_TripleLinesModel_putTerm 131 = .ok (.aload_n 0, 1) := by decide +kernel
theorem d_TripleLinesModel_putTerm_132 : decode b_TripleLinesModel_putTerm 132 = .ok (.bipush 94, 2) := by decide +kernel
theorem d_TripleLinesModel_putTerm_134 : decode b_TripleLinesModel_putTerm 134 = .ok (.invokevirtual 229, 3) := by decide +kernel
theorem d_TripleLinesModel_putTerm_137 : decode b_TripleLinesModel_putTerm 137 = .ok (.aload_n 0, 1) := by decide +kernel
theorem d_TripleLinesModel_putTerm_138 : decode b_TripleLinesModel_putTerm 138 = .ok (.bipush 94, 2) := by decide +kernel
theorem d_TripleLinesModel_putTerm_140 : decode b_TripleLinesModel_putTerm 140 = .ok (.invokevirtual 229, 3) := by decide +kernel
theorem d_TripleLinesModel_putTerm_143 : decode b_TripleLinesModel_putTerm 143 = .ok (.aload_n 0, 1) := by decide +kernel
theorem d_TripleLinesModel_putTerm_144 : decode b_TripleLinesModel_putTerm 144 = .ok (.aload_n 0, 1) := by decide +kernel
theorem d_TripleLinesModel_putTerm_145 : decode b_TripleLinesModel_putTerm 145 = .ok (.getfield 31, 3) := by decide +kernel
theorem d_TripleLinesModel_putTerm_148 : decode b_TripleLinesModel_putTerm 148 = .ok (.iload_n 1, 1) := by decide +kernel
theorem d_TripleLinesModel_putTerm_149 : decode b_TripleLinesModel_putTerm 149 = .ok (.iaload, 1) := by decide +kernel
theorem d_TripleLinesModel_putTerm_150 : decode b_TripleLinesModel_putTerm 150 = .ok (.invokevirtual 247, 3) := by decide +kernel
theorem d_TripleLinesModel_putTerm_153 : decode b_TripleLinesModel_putTerm 153 = .ok (.aload_n 0, 1) := by decide +kernel
theorem d_TripleLinesModel_putTerm_154 : decode b_TripleLinesModel_putTerm 154 = .ok (.bipush 32, 2) := by decide +kernel
theorem d_TripleLinesModel_putTerm_156 : decode b_TripleLinesModel_putTerm 156 = .ok (.invokevirtual 229, 3) := by decide +kernel
theorem d_TripleLinesModel_putTerm_159 : decode b_TripleLinesModel_putTerm 159 = .ok (.return_, 1) := by decide +kernel
set_option maxHeartbeats 4000000 in
set_option maxRecDepth 100000 in
theorem c_TripleLinesModel_putTerm (l : Launch) (D : va_G) (cI : ClassId) (mM : Nat) (tm : Int) (aT : Nat) (om : Int) (aO : Nat) (tn : Int) (aK : Nat) (aS : Nat) (aC : Nat) (aU : Nat) (aG : Nat) (aY : Nat) (aX : Nat) (qn : Int) (aP : Nat) (tr : Int) (rg : Int) (ll : Int) (p : Int) (f : Int) (ov : Int) (sz : Int) (aM : Nat) (tz : Int) (aA : Nat) (dm : Int) (aD : Nat) (aB : Nat) (aV : Nat) (aE : Nat) (K : Nat → Int32) (Ln : Nat → Int32) (C : Nat → Int32) (TL : Nat → Int32) (TG : Nat → Int32) (TY : Nat → Int32) (DR : Nat → Int32) (t : Int) (hdm : 0 ≤ dm ∧ dm ≤ 1999990000) (hs : tOk Ln TL tn) (ht : 0 ≤ t ∧ t < tn) (hw : wfT K TL TY tn t) : CtV l D [(cI, .int)] y_TripleLinesModel_putTerm b_TripleLinesModel_putTerm 3 5 [.ref mM, .int (iI t)] [(mM, .inr (6, [.int (iI tm), .ref aT, .int (iI om), .ref aO, .int (iI tn), .ref aK, .ref aS, .ref aC, .ref aU, .ref aG, .ref aY, .ref aX, .int (iI qn), .ref aP, .int (iI tr), .int (iI rg), .int (iI ll), .int (iI p), .int (iI f), .int (iI ov), .int (iI sz), .ref aM, .int (iI tz), .ref aA, .int (iI dm), .ref aD, .ref aB, .ref aV, .ref aE])), (aK, .inl (cI, 120, .inl K)), (aS, .inl (cI, 120, .inl Ln)), (aC, .inl (cI, 4800, .inl C)), (aU, .inl (cI, 120, .inl TL)), (aG, .inl (cI, 1920, .inl TG)), (aY, .inl (cI, 120, .inl TY)), (aD, .inl (cI, 3000, .inl DR))] (S := Int × (Nat → Int32)) (fun u => PwM u.1 u.2 dm DR (tx (tmAt K Ln C TL TG TY) tn t)) (fun u => [(mM, .inr (6, [.int (iI tm), .ref aT, .int (iI om), .ref aO, .int (iI tn), .ref aK, .ref aS, .ref aC, .ref aU, .ref aG, .ref aY, .ref aX, .int (iI qn), .ref aP, .int (iI tr), .int (iI rg), .int (iI ll), .int (iI p), .int (iI f), .int (iI ov), .int (iI sz), .ref aM, .int (iI tz), .ref aA, .int (iI u.1), .ref aD, .ref aB, .ref aV, .ref aE])), (aK, .inl (cI, 120, .inl K)), (aS, .inl (cI, 120, .inl Ln)), (aC, .inl (cI, 4800, .inl C)), (aU, .inl (cI, 120, .inl TL)), (aG, .inl (cI, 1920, .inl TG)), (aY, .inl (cI, 120, .inl TY)), (aD, .inl (cI, 3000, .inl u.2))]) := by
  refine CtV.walk (by decide) (Nat.le_of_ble_eq_true rfl) ?_
  intro xp xe0 xs xm xar xbelow xmeth xc xA0 xQ xe xb xml xo xt xP xK xD xA xret ls xl xS
  have xl : lv_has ls 3 [(0, .ref mM), (1, .int (iI t))] := xl
  have xo : xs.vm.findClass R_TripleLinesModel = some xm.cls := xo
  have HC := PwM_nil (D := DR) hdm.1
  have hz : 0 ≤ tn ∧ tn ≤ 120 := ⟨hs.1, hs.2.1⟩
  have htt := hs.2.2 t ht.1 ht.2
  have hln := cts_len 0 (seg C (t * 40) (tI Ln t)); rw [seg_len] at hln
  have hln := cts_len 1 (seg C (t * 40) (tI Ln t)); rw [seg_len] at hln
  obtain ⟨w1, w2, w3, w4⟩ := hw
  have hnl := num_len t
  refine lv_aload_n xe xb d_TripleLinesModel_putTerm_0 rfl (lv_at xl 0 rfl) ?_
  refine va_get (D := D) (ci := 6) (v := .ref aK) (C := R_TripleLinesModel) (T := F_TripleLinesModel) (N := 29) xe xb xt i_TripleLinesModel xo xK xP 0 rfl rfl 5 (by decide) (xt _ mw_TripleLinesModel_16) (fun _ h9 => h9) rfl d_TripleLinesModel_putTerm_1 ?_
  refine lv_iload_n xe xb d_TripleLinesModel_putTerm_4 rfl (lv_at xl 1 rfl) ?_
  refine tk_iald xe xb xK xP 1 0 rfl rfl (by omega) d_TripleLinesModel_putTerm_5 ?_
  have hr_1 := tI_rg K t
  refine tk_if_ne (tgt := 17) xe xb d_TripleLinesModel_putTerm_6 (by decide) (by omega) (fun C6 => ?_) (fun C6 => ?_)
  · refine lv_aload_n xe xb d_TripleLinesModel_putTerm_17 rfl (lv_at xl 0 rfl) ?_
    refine va_get (D := D) (ci := 6) (v := .ref aK) (C := R_TripleLinesModel) (T := F_TripleLinesModel) (N := 29) xe xb xt i_TripleLinesModel xo xK xP 0 rfl rfl 5 (by decide) (xt _ mw_TripleLinesModel_16) (fun _ h9 => h9) rfl d_TripleLinesModel_putTerm_18 ?_
    refine lv_iload_n xe xb d_TripleLinesModel_putTerm_21 rfl (lv_at xl 1 rfl) ?_
    refine tk_iald xe xb xK xP 1 0 rfl rfl (by omega) d_TripleLinesModel_putTerm_22 ?_
    have hr_2 := tI_rg K t
    refine lv_iconst (v := iI (1)) xe xb d_TripleLinesModel_putTerm_23 rfl ?_
    refine tk_icmp_ne (tgt := 53) xe xb d_TripleLinesModel_putTerm_24 (by decide) (by omega) (fun C24 => ?_) (fun C24 => ?_)
    · refine lv_aload_n xe xb d_TripleLinesModel_putTerm_53 rfl (lv_at xl 0 rfl) ?_
      refine lv_bipush (v := iI (34)) xe xb d_TripleLinesModel_putTerm_54 (by decide) ?_
      refine tk_callVv (As := [.int (iI 34)]) (rest := []) (wr := [(aK, .inl (cI, 120, .inl K)), (aS, .inl (cI, 120, .inl Ln)), (aC, .inl (cI, 4800, .inl C)), (aU, .inl (cI, 120, .inl TL)), (aG, .inl (cI, 1920, .inl TG)), (aY, .inl (cI, 120, .inl TY))]) (wn := fun u => [(mM, .inr (6, [.int (iI tm), .ref aT, .int (iI om), .ref aO, .int (iI tn), .ref aK, .ref aS, .ref aC, .ref aU, .ref aG, .ref aY, .ref aX, .int (iI qn), .ref aP, .int (iI tr), .int (iI rg), .int (iI ll), .int (iI p), .int (iI f), .int (iI ov), .int (iI sz), .ref aM, .int (iI tz), .ref aA, .int (iI u.1), .ref aD, .ref aB, .ref aV, .ref aE])), (aK, .inl (cI, 120, .inl K)), (aS, .inl (cI, 120, .inl Ln)), (aC, .inl (cI, 4800, .inl C)), (aU, .inl (cI, 120, .inl TL)), (aG, .inl (cI, 1920, .inl TG)), (aY, .inl (cI, 120, .inl TY)), (aD, .inl (cI, 3000, .inl u.2))]) ⟨xe, xb, xml, xo, xt⟩ (c_TripleLinesModel_put l D cI mM tm aT om aO tn aK aS aC aU aG aY aX qn aP tr rg ll p f ov sz aM tz aA dm aD aB aV aE DR 34 (by first | assumption | omega) (by first | assumption | omega)) k_TripleLinesModel_put mw_TripleLinesModel_229 ⟨Nat.le_of_ble_eq_true rfl, Nat.le_of_ble_eq_true rfl⟩ xK xP xD xS xA rfl xl.1 rfl (Nat.le_of_ble_eq_true rfl) d_TripleLinesModel_putTerm_56 ⟨Nat.zero_le _, Nat.zero_le _⟩ [0, 7] [1, 2, 3, 4, 5, 6] [6, 0, 1, 2, 3, 4, 5, 7] rfl rfl (by decide) (by decide) (by decide) (by decide) (fun _ => rfl) rfl rfl rfl ?_
      clear xP xD xS
      intro u H locs hw_5 xP xD xS
      obtain ⟨dm2_3, DR2_4⟩ := u
      try dsimp only at hw_5
      replace xP : va_P D classes [(mM, .inr (6, [.int (iI tm), .ref aT, .int (iI om), .ref aO, .int (iI tn), .ref aK, .ref aS, .ref aC, .ref aU, .ref aG, .ref aY, .ref aX, .int (iI qn), .ref aP, .int (iI tr), .int (iI rg), .int (iI ll), .int (iI p), .int (iI f), .int (iI ov), .int (iI sz), .ref aM, .int (iI tz), .ref aA, .int (iI dm2_3), .ref aD, .ref aB, .ref aV, .ref aE])), (aK, .inl (cI, 120, .inl K)), (aS, .inl (cI, 120, .inl Ln)), (aC, .inl (cI, 4800, .inl C)), (aU, .inl (cI, 120, .inl TL)), (aG, .inl (cI, 1920, .inl TG)), (aY, .inl (cI, 120, .inl TY)), (aD, .inl (cI, 3000, .inl DR2_4))] H := xP
      replace xD : va_D xA0 [(mM, .inr (6, [.int (iI tm), .ref aT, .int (iI om), .ref aO, .int (iI tn), .ref aK, .ref aS, .ref aC, .ref aU, .ref aG, .ref aY, .ref aX, .int (iI qn), .ref aP, .int (iI tr), .int (iI rg), .int (iI ll), .int (iI p), .int (iI f), .int (iI ov), .int (iI sz), .ref aM, .int (iI tz), .ref aA, .int (iI dm2_3), .ref aD, .ref aB, .ref aV, .ref aE])), (aK, .inl (cI, 120, .inl K)), (aS, .inl (cI, 120, .inl Ln)), (aC, .inl (cI, 4800, .inl C)), (aU, .inl (cI, 120, .inl TL)), (aG, .inl (cI, 1920, .inl TG)), (aY, .inl (cI, 120, .inl TY)), (aD, .inl (cI, 3000, .inl DR2_4))] := xD
      replace HC := PwM_trans hdm.1 HC hw_5
      have hgr := HC.1
      simp only [List.length_append, List.length_cons, List.length_nil] at hgr
      clear hw_5
      refine lv_aload_n xe xb d_TripleLinesModel_putTerm_59 rfl (lv_at xl 0 rfl) ?_
      refine lv_iload_n xe xb d_TripleLinesModel_putTerm_60 rfl (lv_at xl 1 rfl) ?_
      refine lv_iconst (v := iI (1)) xe xb d_TripleLinesModel_putTerm_61 rfl ?_
      refine tk_callVv (As := [.int (iI t), .int (iI 1)]) (rest := []) (wr := [(aK, .inl (cI, 120, .inl K)), (aU, .inl (cI, 120, .inl TL)), (aG, .inl (cI, 1920, .inl TG)), (aY, .inl (cI, 120, .inl TY))]) (wn := fun u => [(mM, .inr (6, [.int (iI tm), .ref aT, .int (iI om), .ref aO, .int (iI tn), .ref aK, .ref aS, .ref aC, .ref aU, .ref aG, .ref aY, .ref aX, .int (iI qn), .ref aP, .int (iI tr), .int (iI rg), .int (iI ll), .int (iI p), .int (iI f), .int (iI ov), .int (iI sz), .ref aM, .int (iI tz), .ref aA, .int (iI u.1), .ref aD, .ref aB, .ref aV, .ref aE])), (aK, .inl (cI, 120, .inl K)), (aS, .inl (cI, 120, .inl Ln)), (aC, .inl (cI, 4800, .inl C)), (aU, .inl (cI, 120, .inl TL)), (aG, .inl (cI, 1920, .inl TG)), (aY, .inl (cI, 120, .inl TY)), (aD, .inl (cI, 3000, .inl u.2))]) ⟨xe, xb, xml, xo, xt⟩ (c_TripleLinesModel_putCodes l D cI mM tm aT om aO tn aK aS aC aU aG aY aX qn aP tr rg ll p f ov sz aM tz aA dm2_3 aD aB aV aE Ln C DR2_4 t 1 TL (by first | assumption | omega) (by first | assumption | omega) (by first | assumption | omega) (by first | assumption | omega)) k_TripleLinesModel_putCodes mw_TripleLinesModel_244 ⟨Nat.le_of_ble_eq_true rfl, Nat.le_of_ble_eq_true rfl⟩ xK xP xD xS xA rfl xl.1 rfl (Nat.le_of_ble_eq_true rfl) d_TripleLinesModel_putTerm_62 ⟨Nat.zero_le _, Nat.zero_le _⟩ [0, 2, 3, 7] [1, 4, 5, 6] [4, 0, 5, 6, 1, 2, 3, 7] rfl rfl (by decide) (by decide) (by decide) (by decide) (fun _ => rfl) rfl rfl rfl ?_
      clear xP xD xS
      intro u H locs hw_9 xP xD xS
      obtain ⟨dm2_7, DR2_8⟩ := u
      try dsimp only at hw_9
      replace xP : va_P D classes [(mM, .inr (6, [.int (iI tm), .ref aT, .int (iI om), .ref aO, .int (iI tn), .ref aK, .ref aS, .ref aC, .ref aU, .ref aG, .ref aY, .ref aX, .int (iI qn), .ref aP, .int (iI tr), .int (iI rg), .int (iI ll), .int (iI p), .int (iI f), .int (iI ov), .int (iI sz), .ref aM, .int (iI tz), .ref aA, .int (iI dm2_7), .ref aD, .ref aB, .ref aV, .ref aE])), (aK, .inl (cI, 120, .inl K)), (aS, .inl (cI, 120, .inl Ln)), (aC, .inl (cI, 4800, .inl C)), (aU, .inl (cI, 120, .inl TL)), (aG, .inl (cI, 1920, .inl TG)), (aY, .inl (cI, 120, .inl TY)), (aD, .inl (cI, 3000, .inl DR2_8))] H := xP
      replace xD : va_D xA0 [(mM, .inr (6, [.int (iI tm), .ref aT, .int (iI om), .ref aO, .int (iI tn), .ref aK, .ref aS, .ref aC, .ref aU, .ref aG, .ref aY, .ref aX, .int (iI qn), .ref aP, .int (iI tr), .int (iI rg), .int (iI ll), .int (iI p), .int (iI f), .int (iI ov), .int (iI sz), .ref aM, .int (iI tz), .ref aA, .int (iI dm2_7), .ref aD, .ref aB, .ref aV, .ref aE])), (aK, .inl (cI, 120, .inl K)), (aS, .inl (cI, 120, .inl Ln)), (aC, .inl (cI, 4800, .inl C)), (aU, .inl (cI, 120, .inl TL)), (aG, .inl (cI, 1920, .inl TG)), (aY, .inl (cI, 120, .inl TY)), (aD, .inl (cI, 3000, .inl DR2_8))] := xD
      replace HC := PwM_trans hdm.1 HC hw_9
      have hgr := HC.1
      simp only [List.length_append, List.length_cons, List.length_nil] at hgr
      clear hw_9
      refine lv_aload_n xe xb d_TripleLinesModel_putTerm_65 rfl (lv_at xl 0 rfl) ?_
      refine lv_bipush (v := iI (34)) xe xb d_TripleLinesModel_putTerm_66 (by decide) ?_
      refine tk_callVv (As := [.int (iI 34)]) (rest := []) (wr := [(aK, .inl (cI, 120, .inl K)), (aS, .inl (cI, 120, .inl Ln)), (aC, .inl (cI, 4800, .inl C)), (aU, .inl (cI, 120, .inl TL)), (aG, .inl (cI, 1920, .inl TG)), (aY, .inl (cI, 120, .inl TY))]) (wn := fun u => [(mM, .inr (6, [.int (iI tm), .ref aT, .int (iI om), .ref aO, .int (iI tn), .ref aK, .ref aS, .ref aC, .ref aU, .ref aG, .ref aY, .ref aX, .int (iI qn), .ref aP, .int (iI tr), .int (iI rg), .int (iI ll), .int (iI p), .int (iI f), .int (iI ov), .int (iI sz), .ref aM, .int (iI tz), .ref aA, .int (iI u.1), .ref aD, .ref aB, .ref aV, .ref aE])), (aK, .inl (cI, 120, .inl K)), (aS, .inl (cI, 120, .inl Ln)), (aC, .inl (cI, 4800, .inl C)), (aU, .inl (cI, 120, .inl TL)), (aG, .inl (cI, 1920, .inl TG)), (aY, .inl (cI, 120, .inl TY)), (aD, .inl (cI, 3000, .inl u.2))]) ⟨xe, xb, xml, xo, xt⟩ (c_TripleLinesModel_put l D cI mM tm aT om aO tn aK aS aC aU aG aY aX qn aP tr rg ll p f ov sz aM tz aA dm2_7 aD aB aV aE DR2_8 34 (by first | assumption | omega) (by first | assumption | omega)) k_TripleLinesModel_put mw_TripleLinesModel_229 ⟨Nat.le_of_ble_eq_true rfl, Nat.le_of_ble_eq_true rfl⟩ xK xP xD xS xA rfl xl.1 rfl (Nat.le_of_ble_eq_true rfl) d_TripleLinesModel_putTerm_68 ⟨Nat.zero_le _, Nat.zero_le _⟩ [0, 7] [1, 2, 3, 4, 5, 6] [6, 0, 1, 2, 3, 4, 5, 7] rfl rfl (by decide) (by decide) (by decide) (by decide) (fun _ => rfl) rfl rfl rfl ?_
      clear xP xD xS
      intro u H locs hw_13 xP xD xS
      obtain ⟨dm2_11, DR2_12⟩ := u
      try dsimp only at hw_13
      replace xP : va_P D classes [(mM, .inr (6, [.int (iI tm), .ref aT, .int (iI om), .ref aO, .int (iI tn), .ref aK, .ref aS, .ref aC, .ref aU, .ref aG, .ref aY, .ref aX, .int (iI qn), .ref aP, .int (iI tr), .int (iI rg), .int (iI ll), .int (iI p), .int (iI f), .int (iI ov), .int (iI sz), .ref aM, .int (iI tz), .ref aA, .int (iI dm2_11), .ref aD, .ref aB, .ref aV, .ref aE])), (aK, .inl (cI, 120, .inl K)), (aS, .inl (cI, 120, .inl Ln)), (aC, .inl (cI, 4800, .inl C)), (aU, .inl (cI, 120, .inl TL)), (aG, .inl (cI, 1920, .inl TG)), (aY, .inl (cI, 120, .inl TY)), (aD, .inl (cI, 3000, .inl DR2_12))] H := xP
      replace xD : va_D xA0 [(mM, .inr (6, [.int (iI tm), .ref aT, .int (iI om), .ref aO, .int (iI tn), .ref aK, .ref aS, .ref aC, .ref aU, .ref aG, .ref aY, .ref aX, .int (iI qn), .ref aP, .int (iI tr), .int (iI rg), .int (iI ll), .int (iI p), .int (iI f), .int (iI ov), .int (iI sz), .ref aM, .int (iI tz), .ref aA, .int (iI dm2_11), .ref aD, .ref aB, .ref aV, .ref aE])), (aK, .inl (cI, 120, .inl K)), (aS, .inl (cI, 120, .inl Ln)), (aC, .inl (cI, 4800, .inl C)), (aU, .inl (cI, 120, .inl TL)), (aG, .inl (cI, 1920, .inl TG)), (aY, .inl (cI, 120, .inl TY)), (aD, .inl (cI, 3000, .inl DR2_12))] := xD
      replace HC := PwM_trans hdm.1 HC hw_13
      have hgr := HC.1
      simp only [List.length_append, List.length_cons, List.length_nil] at hgr
      clear hw_13
      refine lv_aload_n xe xb d_TripleLinesModel_putTerm_71 rfl (lv_at xl 0 rfl) ?_
      refine va_get (D := D) (ci := 6) (v := .ref aU) (C := R_TripleLinesModel) (T := F_TripleLinesModel) (N := 29) xe xb xt i_TripleLinesModel xo xK xP 0 rfl rfl 8 (by decide) (xt _ mw_TripleLinesModel_25) (fun _ h9 => h9) rfl d_TripleLinesModel_putTerm_72 ?_
      refine lv_iload_n xe xb d_TripleLinesModel_putTerm_75 rfl (lv_at xl 1 rfl) ?_
      refine tk_iald xe xb xK xP 4 0 rfl rfl (by omega) d_TripleLinesModel_putTerm_76 ?_
      have hr_15 := tI_rg TL t
      refine tk_if_le (tgt := 122) xe xb d_TripleLinesModel_putTerm_77 (by decide) (by omega) (fun C77 => ?_) (fun C77 => ?_)
      · refine lv_aload_n xe xb d_TripleLinesModel_putTerm_122 rfl (lv_at xl 0 rfl) ?_
        refine va_get (D := D) (ci := 6) (v := .ref aY) (C := R_TripleLinesModel) (T := F_TripleLinesModel) (N := 29) xe xb xt i_TripleLinesModel xo xK xP 0 rfl rfl 10 (by decide) (xt _ mw_TripleLinesModel_31) (fun _ h9 => h9) rfl d_TripleLinesModel_putTerm_123 ?_
        refine lv_iload_n xe xb d_TripleLinesModel_putTerm_126 rfl (lv_at xl 1 rfl) ?_
        refine tk_iald xe xb xK xP 6 0 rfl rfl (by omega) d_TripleLinesModel_putTerm_127 ?_
        have hr_16 := tI_rg TY t
        refine tk_if_lt (tgt := 153) xe xb d_TripleLinesModel_putTerm_128 (by decide) (by omega) (fun C128 => ?_) (fun C128 => ?_)
        · refine lv_aload_n xe xb d_TripleLinesModel_putTerm_153 rfl (lv_at xl 0 rfl) ?_
          refine lv_bipush (v := iI (32)) xe xb d_TripleLinesModel_putTerm_154 (by decide) ?_
          refine tk_callVv (As := [.int (iI 32)]) (rest := []) (wr := [(aK, .inl (cI, 120, .inl K)), (aS, .inl (cI, 120, .inl Ln)), (aC, .inl (cI, 4800, .inl C)), (aU, .inl (cI, 120, .inl TL)), (aG, .inl (cI, 1920, .inl TG)), (aY, .inl (cI, 120, .inl TY))]) (wn := fun u => [(mM, .inr (6, [.int (iI tm), .ref aT, .int (iI om), .ref aO, .int (iI tn), .ref aK, .ref aS, .ref aC, .ref aU, .ref aG, .ref aY, .ref aX, .int (iI qn), .ref aP, .int (iI tr), .int (iI rg), .int (iI ll), .int (iI p), .int (iI f), .int (iI ov), .int (iI sz), .ref aM, .int (iI tz), .ref aA, .int (iI u.1), .ref aD, .ref aB, .ref aV, .ref aE])), (aK, .inl (cI, 120, .inl K)), (aS, .inl (cI, 120, .inl Ln)), (aC, .inl (cI, 4800, .inl C)), (aU, .inl (cI, 120, .inl TL)), (aG, .inl (cI, 1920, .inl TG)), (aY, .inl (cI, 120, .inl TY)), (aD, .inl (cI, 3000, .inl u.2))]) ⟨xe, xb, xml, xo, xt⟩ (c_TripleLinesModel_put l D cI mM tm aT om aO tn aK aS aC aU aG aY aX qn aP tr rg ll p f ov sz aM tz aA dm2_11 aD aB aV aE DR2_12 32 (by first | assumption | omega) (by first | assumption | omega)) k_TripleLinesModel_put mw_TripleLinesModel_229 ⟨Nat.le_of_ble_eq_true rfl, Nat.le_of_ble_eq_true rfl⟩ xK xP xD xS xA rfl xl.1 rfl (Nat.le_of_ble_eq_true rfl) d_TripleLinesModel_putTerm_156 ⟨Nat.zero_le _, Nat.zero_le _⟩ [0, 7] [1, 2, 3, 4, 5, 6] [6, 0, 1, 2, 3, 4, 5, 7] rfl rfl (by decide) (by decide) (by decide) (by decide) (fun _ => rfl) rfl rfl rfl ?_
          clear xP xD xS
          intro u H locs hw_19 xP xD xS
          obtain ⟨dm2_17, DR2_18⟩ := u
          try dsimp only at hw_19
          replace xP : va_P D classes [(mM, .inr (6, [.int (iI tm), .ref aT, .int (iI om), .ref aO, .int (iI tn), .ref aK, .ref aS, .ref aC, .ref aU, .ref aG, .ref aY, .ref aX, .int (iI qn), .ref aP, .int (iI tr), .int (iI rg), .int (iI ll), .int (iI p), .int (iI f), .int (iI ov), .int (iI sz), .ref aM, .int (iI tz), .ref aA, .int (iI dm2_17), .ref aD, .ref aB, .ref aV, .ref aE])), (aK, .inl (cI, 120, .inl K)), (aS, .inl (cI, 120, .inl Ln)), (aC, .inl (cI, 4800, .inl C)), (aU, .inl (cI, 120, .inl TL)), (aG, .inl (cI, 1920, .inl TG)), (aY, .inl (cI, 120, .inl TY)), (aD, .inl (cI, 3000, .inl DR2_18))] H := xP
          replace xD : va_D xA0 [(mM, .inr (6, [.int (iI tm), .ref aT, .int (iI om), .ref aO, .int (iI tn), .ref aK, .ref aS, .ref aC, .ref aU, .ref aG, .ref aY, .ref aX, .int (iI qn), .ref aP, .int (iI tr), .int (iI rg), .int (iI ll), .int (iI p), .int (iI f), .int (iI ov), .int (iI sz), .ref aM, .int (iI tz), .ref aA, .int (iI dm2_17), .ref aD, .ref aB, .ref aV, .ref aE])), (aK, .inl (cI, 120, .inl K)), (aS, .inl (cI, 120, .inl Ln)), (aC, .inl (cI, 4800, .inl C)), (aU, .inl (cI, 120, .inl TL)), (aG, .inl (cI, 1920, .inl TG)), (aY, .inl (cI, 120, .inl TY)), (aD, .inl (cI, 3000, .inl DR2_18))] := xD
          replace HC := PwM_trans hdm.1 HC hw_19
          have hgr := HC.1
          simp only [List.length_append, List.length_cons, List.length_nil] at hgr
          clear hw_19
          exact xret _ _ _ _ (dm2_17, DR2_18) d_TripleLinesModel_putTerm_159 (by first | exact (PwM_cast HC (txM_pl ht (by omega) (by omega) (by omega))) | (dsimp only; exact (PwM_cast HC (txM_pl ht (by omega) (by omega) (by omega))))) xP xD xS
        · have hy0 : 0 ≤ tI TY t ∧ tI TY t < tn ∧ tI K (tI TY t) = 0 := by rcases w4 with h | h; (exfalso; omega); exact h
          have hty := hs.2.2 _ hy0.1 hy0.2.1
          have hly := cts_len 0 (seg C (tI TY t * 40) (tI Ln (tI TY t))); rw [seg_len] at hly
          refine lv_aload_n xe xb d_TripleLinesModel_putTerm_131 rfl (lv_at xl 0 rfl) ?_
          refine lv_bipush (v := iI (94)) xe xb d_TripleLinesModel_putTerm_132 (by decide) ?_
          refine tk_callVv (As := [.int (iI 94)]) (rest := []) (wr := [(aK, .inl (cI, 120, .inl K)), (aS, .inl (cI, 120, .inl Ln)), (aC, .inl (cI, 4800, .inl C)), (aU, .inl (cI, 120, .inl TL)), (aG, .inl (cI, 1920, .inl TG)), (aY, .inl (cI, 120, .inl TY))]) (wn := fun u => [(mM, .inr (6, [.int (iI tm), .ref aT, .int (iI om), .ref aO, .int (iI tn), .ref aK, .ref aS, .ref aC, .ref aU, .ref aG, .ref aY, .ref aX, .int (iI qn), .ref aP, .int (iI tr), .int (iI rg), .int (iI ll), .int (iI p), .int (iI f), .int (iI ov), .int (iI sz), .ref aM, .int (iI tz), .ref aA, .int (iI u.1), .ref aD, .ref aB, .ref aV, .ref aE])), (aK, .inl (cI, 120, .inl K)), (aS, .inl (cI, 120, .inl Ln)), (aC, .inl (cI, 4800, .inl C)), (aU, .inl (cI, 120, .inl TL)), (aG, .inl (cI, 1920, .inl TG)), (aY, .inl (cI, 120, .inl TY)), (aD, .inl (cI, 3000, .inl u.2))]) ⟨xe, xb, xml, xo, xt⟩ (c_TripleLinesModel_put l D cI mM tm aT om aO tn aK aS aC aU aG aY aX qn aP tr rg ll p f ov sz aM tz aA dm2_11 aD aB aV aE DR2_12 94 (by first | assumption | omega) (by first | assumption | omega)) k_TripleLinesModel_put mw_TripleLinesModel_229 ⟨Nat.le_of_ble_eq_true rfl, Nat.le_of_ble_eq_true rfl⟩ xK xP xD xS xA rfl xl.1 rfl (Nat.le_of_ble_eq_true rfl) d_TripleLinesModel_putTerm_134 ⟨Nat.zero_le _, Nat.zero_le _⟩ [0, 7] [1, 2, 3, 4, 5, 6] [6, 0, 1, 2, 3, 4, 5, 7] rfl rfl (by decide) (by decide) (by decide) (by decide) (fun _ => rfl) rfl rfl rfl ?_
          clear xP xD xS
          intro u H locs hw_23 xP xD xS
          obtain ⟨dm2_21, DR2_22⟩ := u
          try dsimp only at hw_23
          replace xP : va_P D classes [(mM, .inr (6, [.int (iI tm), .ref aT, .int (iI om), .ref aO, .int (iI tn), .ref aK, .ref aS, .ref aC, .ref aU, .ref aG, .ref aY, .ref aX, .int (iI qn), .ref aP, .int (iI tr), .int (iI rg), .int (iI ll), .int (iI p), .int (iI f), .int (iI ov), .int (iI sz), .ref aM, .int (iI tz), .ref aA, .int (iI dm2_21), .ref aD, .ref aB, .ref aV, .ref aE])), (aK, .inl (cI, 120, .inl K)), (aS, .inl (cI, 120, .inl Ln)), (aC, .inl (cI, 4800, .inl C)), (aU, .inl (cI, 120, .inl TL)), (aG, .inl (cI, 1920, .inl TG)), (aY, .inl (cI, 120, .inl TY)), (aD, .inl (cI, 3000, .inl DR2_22))] H := xP
          replace xD : va_D xA0 [(mM, .inr (6, [.int (iI tm), .ref aT, .int (iI om), .ref aO, .int (iI tn), .ref aK, .ref aS, .ref aC, .ref aU, .ref aG, .ref aY, .ref aX, .int (iI qn), .ref aP, .int (iI tr), .int (iI rg), .int (iI ll), .int (iI p), .int (iI f), .int (iI ov), .int (iI sz), .ref aM, .int (iI tz), .ref aA, .int (iI dm2_21), .ref aD, .ref aB, .ref aV, .ref aE])), (aK, .inl (cI, 120, .inl K)), (aS, .inl (cI, 120, .inl Ln)), (aC, .inl (cI, 4800, .inl C)), (aU, .inl (cI, 120, .inl TL)), (aG, .inl (cI, 1920, .inl TG)), (aY, .inl (cI, 120, .inl TY)), (aD, .inl (cI, 3000, .inl DR2_22))] := xD
          replace HC := PwM_trans hdm.1 HC hw_23
          have hgr := HC.1
          simp only [List.length_append, List.length_cons, List.length_nil] at hgr
          clear hw_23
          refine lv_aload_n xe xb d_TripleLinesModel_putTerm_137 rfl (lv_at xl 0 rfl) ?_
          refine lv_bipush (v := iI (94)) xe xb d_TripleLinesModel_putTerm_138 (by decide) ?_
          refine tk_callVv (As := [.int (iI 94)]) (rest := []) (wr := [(aK, .inl (cI, 120, .inl K)), (aS, .inl (cI, 120, .inl Ln)), (aC, .inl (cI, 4800, .inl C)), (aU, .inl (cI, 120, .inl TL)), (aG, .inl (cI, 1920, .inl TG)), (aY, .inl (cI, 120, .inl TY))]) (wn := fun u => [(mM, .inr (6, [.int (iI tm), .ref aT, .int (iI om), .ref aO, .int (iI tn), .ref aK, .ref aS, .ref aC, .ref aU, .ref aG, .ref aY, .ref aX, .int (iI qn), .ref aP, .int (iI tr), .int (iI rg), .int (iI ll), .int (iI p), .int (iI f), .int (iI ov), .int (iI sz), .ref aM, .int (iI tz), .ref aA, .int (iI u.1), .ref aD, .ref aB, .ref aV, .ref aE])), (aK, .inl (cI, 120, .inl K)), (aS, .inl (cI, 120, .inl Ln)), (aC, .inl (cI, 4800, .inl C)), (aU, .inl (cI, 120, .inl TL)), (aG, .inl (cI, 1920, .inl TG)), (aY, .inl (cI, 120, .inl TY)), (aD, .inl (cI, 3000, .inl u.2))]) ⟨xe, xb, xml, xo, xt⟩ (c_TripleLinesModel_put l D cI mM tm aT om aO tn aK aS aC aU aG aY aX qn aP tr rg ll p f ov sz aM tz aA dm2_21 aD aB aV aE DR2_22 94 (by first | assumption | omega) (by first | assumption | omega)) k_TripleLinesModel_put mw_TripleLinesModel_229 ⟨Nat.le_of_ble_eq_true rfl, Nat.le_of_ble_eq_true rfl⟩ xK xP xD xS xA rfl xl.1 rfl (Nat.le_of_ble_eq_true rfl) d_TripleLinesModel_putTerm_140 ⟨Nat.zero_le _, Nat.zero_le _⟩ [0, 7] [1, 2, 3, 4, 5, 6] [6, 0, 1, 2, 3, 4, 5, 7] rfl rfl (by decide) (by decide) (by decide) (by decide) (fun _ => rfl) rfl rfl rfl ?_
          clear xP xD xS
          intro u H locs hw_27 xP xD xS
          obtain ⟨dm2_25, DR2_26⟩ := u
          try dsimp only at hw_27
          replace xP : va_P D classes [(mM, .inr (6, [.int (iI tm), .ref aT, .int (iI om), .ref aO, .int (iI tn), .ref aK, .ref aS, .ref aC, .ref aU, .ref aG, .ref aY, .ref aX, .int (iI qn), .ref aP, .int (iI tr), .int (iI rg), .int (iI ll), .int (iI p), .int (iI f), .int (iI ov), .int (iI sz), .ref aM, .int (iI tz), .ref aA, .int (iI dm2_25), .ref aD, .ref aB, .ref aV, .ref aE])), (aK, .inl (cI, 120, .inl K)), (aS, .inl (cI, 120, .inl Ln)), (aC, .inl (cI, 4800, .inl C)), (aU, .inl (cI, 120, .inl TL)), (aG, .inl (cI, 1920, .inl TG)), (aY, .inl (cI, 120, .inl TY)), (aD, .inl (cI, 3000, .inl DR2_26))] H := xP
          replace xD : va_D xA0 [(mM, .inr (6, [.int (iI tm), .ref aT, .int (iI om), .ref aO, .int (iI tn), .ref aK, .ref aS, .ref aC, .ref aU, .ref aG, .ref aY, .ref aX, .int (iI qn), .ref aP, .int (iI tr), .int (iI rg), .int (iI ll), .int (iI p), .int (iI f), .int (iI ov), .int (iI sz), .ref aM, .int (iI tz), .ref aA, .int (iI dm2_25), .ref aD, .ref aB, .ref aV, .ref aE])), (aK, .inl (cI, 120, .inl K)), (aS, .inl (cI, 120, .inl Ln)), (aC, .inl (cI, 4800, .inl C)), (aU, .inl (cI, 120, .inl TL)), (aG, .inl (cI, 1920, .inl TG)), (aY, .inl (cI, 120, .inl TY)), (aD, .inl (cI, 3000, .inl DR2_26))] := xD
          replace HC := PwM_trans hdm.1 HC hw_27
          have hgr := HC.1
          simp only [List.length_append, List.length_cons, List.length_nil] at hgr
          clear hw_27
          refine lv_aload_n xe xb d_TripleLinesModel_putTerm_143 rfl (lv_at xl 0 rfl) ?_
          refine lv_aload_n xe xb d_TripleLinesModel_putTerm_144 rfl (lv_at xl 0 rfl) ?_
          refine va_get (D := D) (ci := 6) (v := .ref aY) (C := R_TripleLinesModel) (T := F_TripleLinesModel) (N := 29) xe xb xt i_TripleLinesModel xo xK xP 0 rfl rfl 10 (by decide) (xt _ mw_TripleLinesModel_31) (fun _ h9 => h9) rfl d_TripleLinesModel_putTerm_145 ?_
          refine lv_iload_n xe xb d_TripleLinesModel_putTerm_148 rfl (lv_at xl 1 rfl) ?_
          refine tk_iald xe xb xK xP 6 0 rfl rfl (by omega) d_TripleLinesModel_putTerm_149 ?_
          have hr_29 := tI_rg TY t
          refine tk_callVv (As := [.int (iI (tI TY t))]) (rest := []) (wr := [(aK, .inl (cI, 120, .inl K)), (aU, .inl (cI, 120, .inl TL)), (aG, .inl (cI, 1920, .inl TG)), (aY, .inl (cI, 120, .inl TY))]) (wn := fun u => [(mM, .inr (6, [.int (iI tm), .ref aT, .int (iI om), .ref aO, .int (iI tn), .ref aK, .ref aS, .ref aC, .ref aU, .ref aG, .ref aY, .ref aX, .int (iI qn), .ref aP, .int (iI tr), .int (iI rg), .int (iI ll), .int (iI p), .int (iI f), .int (iI ov), .int (iI sz), .ref aM, .int (iI tz), .ref aA, .int (iI u.1), .ref aD, .ref aB, .ref aV, .ref aE])), (aK, .inl (cI, 120, .inl K)), (aS, .inl (cI, 120, .inl Ln)), (aC, .inl (cI, 4800, .inl C)), (aU, .inl (cI, 120, .inl TL)), (aG, .inl (cI, 1920, .inl TG)), (aY, .inl (cI, 120, .inl TY)), (aD, .inl (cI, 3000, .inl u.2))]) ⟨xe, xb, xml, xo, xt⟩ (c_TripleLinesModel_putNode l D cI mM tm aT om aO tn aK aS aC aU aG aY aX qn aP tr rg ll p f ov sz aM tz aA dm2_25 aD aB aV aE Ln C DR2_26 (tI TY t) TL (by first | assumption | omega) (by first | assumption | omega) ⟨hy0.1, hy0.2.1⟩) k_TripleLinesModel_putNode mw_TripleLinesModel_247 ⟨Nat.le_of_ble_eq_true rfl, Nat.le_of_ble_eq_true rfl⟩ xK xP xD xS xA rfl xl.1 rfl (Nat.le_of_ble_eq_true rfl) d_TripleLinesModel_putTerm_150 ⟨Nat.zero_le _, Nat.zero_le _⟩ [0, 2, 3, 7] [1, 4, 5, 6] [4, 0, 5, 6, 1, 2, 3, 7] rfl rfl (by decide) (by decide) (by decide) (by decide) (fun _ => rfl) rfl rfl rfl ?_
          clear xP xD xS
          intro u H locs hw_32 xP xD xS
          obtain ⟨dm2_30, DR2_31⟩ := u
          try dsimp only at hw_32
          replace xP : va_P D classes [(mM, .inr (6, [.int (iI tm), .ref aT, .int (iI om), .ref aO, .int (iI tn), .ref aK, .ref aS, .ref aC, .ref aU, .ref aG, .ref aY, .ref aX, .int (iI qn), .ref aP, .int (iI tr), .int (iI rg), .int (iI ll), .int (iI p), .int (iI f), .int (iI ov), .int (iI sz), .ref aM, .int (iI tz), .ref aA, .int (iI dm2_30), .ref aD, .ref aB, .ref aV, .ref aE])), (aK, .inl (cI, 120, .inl K)), (aS, .inl (cI, 120, .inl Ln)), (aC, .inl (cI, 4800, .inl C)), (aU, .inl (cI, 120, .inl TL)), (aG, .inl (cI, 1920, .inl TG)), (aY, .inl (cI, 120, .inl TY)), (aD, .inl (cI, 3000, .inl DR2_31))] H := xP
          replace xD : va_D xA0 [(mM, .inr (6, [.int (iI tm), .ref aT, .int (iI om), .ref aO, .int (iI tn), .ref aK, .ref aS, .ref aC, .ref aU, .ref aG, .ref aY, .ref aX, .int (iI qn), .ref aP, .int (iI tr), .int (iI rg), .int (iI ll), .int (iI p), .int (iI f), .int (iI ov), .int (iI sz), .ref aM, .int (iI tz), .ref aA, .int (iI dm2_30), .ref aD, .ref aB, .ref aV, .ref aE])), (aK, .inl (cI, 120, .inl K)), (aS, .inl (cI, 120, .inl Ln)), (aC, .inl (cI, 4800, .inl C)), (aU, .inl (cI, 120, .inl TL)), (aG, .inl (cI, 1920, .inl TG)), (aY, .inl (cI, 120, .inl TY)), (aD, .inl (cI, 3000, .inl DR2_31))] := xD
          replace HC := PwM_trans hdm.1 HC hw_32
          have hgr := HC.1
          simp only [List.length_append, List.length_cons, List.length_nil] at hgr
          clear hw_32
          refine lv_aload_n xe xb d_TripleLinesModel_putTerm_153 rfl (lv_at xl 0 rfl) ?_
          refine lv_bipush (v := iI (32)) xe xb d_TripleLinesModel_putTerm_154 (by decide) ?_
          refine tk_callVv (As := [.int (iI 32)]) (rest := []) (wr := [(aK, .inl (cI, 120, .inl K)), (aS, .inl (cI, 120, .inl Ln)), (aC, .inl (cI, 4800, .inl C)), (aU, .inl (cI, 120, .inl TL)), (aG, .inl (cI, 1920, .inl TG)), (aY, .inl (cI, 120, .inl TY))]) (wn := fun u => [(mM, .inr (6, [.int (iI tm), .ref aT, .int (iI om), .ref aO, .int (iI tn), .ref aK, .ref aS, .ref aC, .ref aU, .ref aG, .ref aY, .ref aX, .int (iI qn), .ref aP, .int (iI tr), .int (iI rg), .int (iI ll), .int (iI p), .int (iI f), .int (iI ov), .int (iI sz), .ref aM, .int (iI tz), .ref aA, .int (iI u.1), .ref aD, .ref aB, .ref aV, .ref aE])), (aK, .inl (cI, 120, .inl K)), (aS, .inl (cI, 120, .inl Ln)), (aC, .inl (cI, 4800, .inl C)), (aU, .inl (cI, 120, .inl TL)), (aG, .inl (cI, 1920, .inl TG)), (aY, .inl (cI, 120, .inl TY)), (aD, .inl (cI, 3000, .inl u.2))]) ⟨xe, xb, xml, xo, xt⟩ (c_TripleLinesModel_put l D cI mM tm aT om aO tn aK aS aC aU aG aY aX qn aP tr rg ll p f ov sz aM tz aA dm2_30 aD aB aV aE DR2_31 32 (by first | assumption | omega) (by first | assumption | omega)) k_TripleLinesModel_put mw_TripleLinesModel_229 ⟨Nat.le_of_ble_eq_true rfl, Nat.le_of_ble_eq_true rfl⟩ xK xP xD xS xA rfl xl.1 rfl (Nat.le_of_ble_eq_true rfl) d_TripleLinesModel_putTerm_156 ⟨Nat.zero_le _, Nat.zero_le _⟩ [0, 7] [1, 2, 3, 4, 5, 6] [6, 0, 1, 2, 3, 4, 5, 7] rfl rfl (by decide) (by decide) (by decide) (by decide) (fun _ => rfl) rfl rfl rfl ?_
          clear xP xD xS
          intro u H locs hw_36 xP xD xS
          obtain ⟨dm2_34, DR2_35⟩ := u
          try dsimp only at hw_36
          replace xP : va_P D classes [(mM, .inr (6, [.int (iI tm), .ref aT, .int (iI om), .ref aO, .int (iI tn), .ref aK, .ref aS, .ref aC, .ref aU, .ref aG, .ref aY, .ref aX, .int (iI qn), .ref aP, .int (iI tr), .int (iI rg), .int (iI ll), .int (iI p), .int (iI f), .int (iI ov), .int (iI sz), .ref aM, .int (iI tz), .ref aA, .int (iI dm2_34), .ref aD, .ref aB, .ref aV, .ref aE])), (aK, .inl (cI, 120, .inl K)), (aS, .inl (cI, 120, .inl Ln)), (aC, .inl (cI, 4800, .inl C)), (aU, .inl (cI, 120, .inl TL)), (aG, .inl (cI, 1920, .inl TG)), (aY, .inl (cI, 120, .inl TY)), (aD, .inl (cI, 3000, .inl DR2_35))] H := xP
          replace xD : va_D xA0 [(mM, .inr (6, [.int (iI tm), .ref aT, .int (iI om), .ref aO, .int (iI tn), .ref aK, .ref aS, .ref aC, .ref aU, .ref aG, .ref aY, .ref aX, .int (iI qn), .ref aP, .int (iI tr), .int (iI rg), .int (iI ll), .int (iI p), .int (iI f), .int (iI ov), .int (iI sz), .ref aM, .int (iI tz), .ref aA, .int (iI dm2_34), .ref aD, .ref aB, .ref aV, .ref aE])), (aK, .inl (cI, 120, .inl K)), (aS, .inl (cI, 120, .inl Ln)), (aC, .inl (cI, 4800, .inl C)), (aU, .inl (cI, 120, .inl TL)), (aG, .inl (cI, 1920, .inl TG)), (aY, .inl (cI, 120, .inl TY)), (aD, .inl (cI, 3000, .inl DR2_35))] := xD
          replace HC := PwM_trans hdm.1 HC hw_36
          have hgr := HC.1
          simp only [List.length_append, List.length_cons, List.length_nil] at hgr
          clear hw_36
          exact xret _ _ _ _ (dm2_34, DR2_35) d_TripleLinesModel_putTerm_159 (by first | exact (PwM_cast HC (txM_ty ht (by omega) (by omega) hy0)) | (dsimp only; exact (PwM_cast HC (txM_ty ht (by omega) (by omega) hy0)))) xP xD xS
      · refine lv_aload_n xe xb d_TripleLinesModel_putTerm_80 rfl (lv_at xl 0 rfl) ?_
        refine lv_bipush (v := iI (64)) xe xb d_TripleLinesModel_putTerm_81 (by decide) ?_
        refine tk_callVv (As := [.int (iI 64)]) (rest := []) (wr := [(aK, .inl (cI, 120, .inl K)), (aS, .inl (cI, 120, .inl Ln)), (aC, .inl (cI, 4800, .inl C)), (aU, .inl (cI, 120, .inl TL)), (aG, .inl (cI, 1920, .inl TG)), (aY, .inl (cI, 120, .inl TY))]) (wn := fun u => [(mM, .inr (6, [.int (iI tm), .ref aT, .int (iI om), .ref aO, .int (iI tn), .ref aK, .ref aS, .ref aC, .ref aU, .ref aG, .ref aY, .ref aX, .int (iI qn), .ref aP, .int (iI tr), .int (iI rg), .int (iI ll), .int (iI p), .int (iI f), .int (iI ov), .int (iI sz), .ref aM, .int (iI tz), .ref aA, .int (iI u.1), .ref aD, .ref aB, .ref aV, .ref aE])), (aK, .inl (cI, 120, .inl K)), (aS, .inl (cI, 120, .inl Ln)), (aC, .inl (cI, 4800, .inl C)), (aU, .inl (cI, 120, .inl TL)), (aG, .inl (cI, 1920, .inl TG)), (aY, .inl (cI, 120, .inl TY)), (aD, .inl (cI, 3000, .inl u.2))]) ⟨xe, xb, xml, xo, xt⟩ (c_TripleLinesModel_put l D cI mM tm aT om aO tn aK aS aC aU aG aY aX qn aP tr rg ll p f ov sz aM tz aA dm2_11 aD aB aV aE DR2_12 64 (by first | assumption | omega) (by first | assumption | omega)) k_TripleLinesModel_put mw_TripleLinesModel_229 ⟨Nat.le_of_ble_eq_true rfl, Nat.le_of_ble_eq_true rfl⟩ xK xP xD xS xA rfl xl.1 rfl (Nat.le_of_ble_eq_true rfl) d_TripleLinesModel_putTerm_83 ⟨Nat.zero_le _, Nat.zero_le _⟩ [0, 7] [1, 2, 3, 4, 5, 6] [6, 0, 1, 2, 3, 4, 5, 7] rfl rfl (by decide) (by decide) (by decide) (by decide) (fun _ => rfl) rfl rfl rfl ?_
        clear xP xD xS
        intro u H locs hw_40 xP xD xS
        obtain ⟨dm2_38, DR2_39⟩ := u
        try dsimp only at hw_40
        replace xP : va_P D classes [(mM, .inr (6, [.int (iI tm), .ref aT, .int (iI om), .ref aO, .int (iI tn), .ref aK, .ref aS, .ref aC, .ref aU, .ref aG, .ref aY, .ref aX, .int (iI qn), .ref aP, .int (iI tr), .int (iI rg), .int (iI ll), .int (iI p), .int (iI f), .int (iI ov), .int (iI sz), .ref aM, .int (iI tz), .ref aA, .int (iI dm2_38), .ref aD, .ref aB, .ref aV, .ref aE])), (aK, .inl (cI, 120, .inl K)), (aS, .inl (cI, 120, .inl Ln)), (aC, .inl (cI, 4800, .inl C)), (aU, .inl (cI, 120, .inl TL)), (aG, .inl (cI, 1920, .inl TG)), (aY, .inl (cI, 120, .inl TY)), (aD, .inl (cI, 3000, .inl DR2_39))] H := xP
        replace xD : va_D xA0 [(mM, .inr (6, [.int (iI tm), .ref aT, .int (iI om), .ref aO, .int (iI tn), .ref aK, .ref aS, .ref aC, .ref aU, .ref aG, .ref aY, .ref aX, .int (iI qn), .ref aP, .int (iI tr), .int (iI rg), .int (iI ll), .int (iI p), .int (iI f), .int (iI ov), .int (iI sz), .ref aM, .int (iI tz), .ref aA, .int (iI dm2_38), .ref aD, .ref aB, .ref aV, .ref aE])), (aK, .inl (cI, 120, .inl K)), (aS, .inl (cI, 120, .inl Ln)), (aC, .inl (cI, 4800, .inl C)), (aU, .inl (cI, 120, .inl TL)), (aG, .inl (cI, 1920, .inl TG)), (aY, .inl (cI, 120, .inl TY)), (aD, .inl (cI, 3000, .inl DR2_39))] := xD
        replace HC := PwM_trans hdm.1 HC hw_40
        have hgr := HC.1
        simp only [List.length_append, List.length_cons, List.length_nil] at hgr
        clear hw_40
        refine lv_iconst (v := iI (0)) xe xb d_TripleLinesModel_putTerm_86 rfl ?_
        refine lv_istore_n (lv' := [(2, .int (iI 0)), (0, .ref mM), (1, .int (iI t))]) xe xb d_TripleLinesModel_putTerm_87 rfl xl (by decide) rfl ?_
        clear xl
        intro ls xl
        have loop_88 : ∀ (n9 : Nat) (k : Int) (dv : Int) (Dv : Nat → Int32), (16 - k).toNat < n9 → (0 ≤ k ∧ k ≤ tI TL t) → (PwM dv Dv dm DR (34 :: (cts 1 (seg C (t * 40) (tI Ln t)) ++ [34, 64] ++ seg TG (t * 16) k))) → ∀ (H : Heap) (locs : List Loc), va_P D classes [(mM, .inr (6, [.int (iI tm), .ref aT, .int (iI om), .ref aO, .int (iI tn), .ref aK, .ref aS, .ref aC, .ref aU, .ref aG, .ref aY, .ref aX, .int (iI qn), .ref aP, .int (iI tr), .int (iI rg), .int (iI ll), .int (iI p), .int (iI f), .int (iI ov), .int (iI sz), .ref aM, .int (iI tz), .ref aA, .int (iI dv), .ref aD, .ref aB, .ref aV, .ref aE])), (aK, .inl (cI, 120, .inl K)), (aS, .inl (cI, 120, .inl Ln)), (aC, .inl (cI, 4800, .inl C)), (aU, .inl (cI, 120, .inl TL)), (aG, .inl (cI, 1920, .inl TG)), (aY, .inl (cI, 120, .inl TY)), (aD, .inl (cI, 3000, .inl Dv))] H → va_D xA0 [(mM, .inr (6, [.int (iI tm), .ref aT, .int (iI om), .ref aO, .int (iI tn), .ref aK, .ref aS, .ref aC, .ref aU, .ref aG, .ref aY, .ref aX, .int (iI qn), .ref aP, .int (iI tr), .int (iI rg), .int (iI ll), .int (iI p), .int (iI f), .int (iI ov), .int (iI sz), .ref aM, .int (iI tz), .ref aA, .int (iI dv), .ref aD, .ref aB, .ref aV, .ref aE])), (aK, .inl (cI, 120, .inl K)), (aS, .inl (cI, 120, .inl Ln)), (aC, .inl (cI, 4800, .inl C)), (aU, .inl (cI, 120, .inl TL)), (aG, .inl (cI, 1920, .inl TG)), (aY, .inl (cI, 120, .inl TY)), (aD, .inl (cI, 3000, .inl Dv))] → va_S xA0 xs.heap H locs → ∀ ls : Array Slot, lv_has ls 3 [(0, .ref mM), (1, .int (iI t)), (2, .int (iI k))] → W xp l xe0 (tk_rm 5) xs xm xar xbelow xmeth xc H locs 0 0 xQ (F0 xm 88 ls []) := by
          intro n9
          induction n9 with
          | zero => intro k dv Dv h9; exact absurd h9 (Nat.not_lt_zero _)
          | succ n9 ih9 =>
            intro k dv Dv hm9 hk hP H locs xP xD xS ls xl
            have ih_88 := ih9
            have hm_88 := hm9
            have HC := hP
            have hgr := HC.1
            try simp only [List.length_append, List.length_cons, List.length_nil] at hgr
            rw [seg_len] at hgr
            refine lv_iload_n xe xb d_TripleLinesModel_putTerm_88 rfl (lv_at xl 2 rfl) ?_
            refine lv_aload_n xe xb d_TripleLinesModel_putTerm_89 rfl (lv_at xl 0 rfl) ?_
            refine va_get (D := D) (ci := 6) (v := .ref aU) (C := R_TripleLinesModel) (T := F_TripleLinesModel) (N := 29) xe xb xt i_TripleLinesModel xo xK xP 0 rfl rfl 8 (by decide) (xt _ mw_TripleLinesModel_25) (fun _ h9 => h9) rfl d_TripleLinesModel_putTerm_90 ?_
            refine lv_iload_n xe xb d_TripleLinesModel_putTerm_93 rfl (lv_at xl 1 rfl) ?_
            refine tk_iald xe xb xK xP 4 0 rfl rfl (by omega) d_TripleLinesModel_putTerm_94 ?_
            have hr_42 := tI_rg TL t
            refine tk_icmp_ge (tgt := 119) xe xb d_TripleLinesModel_putTerm_95 (by decide) (by omega) (fun c_43 => ?_) (fun c_43 => ?_)
            · refine lv_goto (tgt := 153) xe xb d_TripleLinesModel_putTerm_119 (by decide) ?_
              refine lv_aload_n xe xb d_TripleLinesModel_putTerm_153 rfl (lv_at xl 0 rfl) ?_
              refine lv_bipush (v := iI (32)) xe xb d_TripleLinesModel_putTerm_154 (by decide) ?_
              refine tk_callVv (As := [.int (iI 32)]) (rest := []) (wr := [(aK, .inl (cI, 120, .inl K)), (aS, .inl (cI, 120, .inl Ln)), (aC, .inl (cI, 4800, .inl C)), (aU, .inl (cI, 120, .inl TL)), (aG, .inl (cI, 1920, .inl TG)), (aY, .inl (cI, 120, .inl TY))]) (wn := fun u => [(mM, .inr (6, [.int (iI tm), .ref aT, .int (iI om), .ref aO, .int (iI tn), .ref aK, .ref aS, .ref aC, .ref aU, .ref aG, .ref aY, .ref aX, .int (iI qn), .ref aP, .int (iI tr), .int (iI rg), .int (iI ll), .int (iI p), .int (iI f), .int (iI ov), .int (iI sz), .ref aM, .int (iI tz), .ref aA, .int (iI u.1), .ref aD, .ref aB, .ref aV, .ref aE])), (aK, .inl (cI, 120, .inl K)), (aS, .inl (cI, 120, .inl Ln)), (aC, .inl (cI, 4800, .inl C)), (aU, .inl (cI, 120, .inl TL)), (aG, .inl (cI, 1920, .inl TG)), (aY, .inl (cI, 120, .inl TY)), (aD, .inl (cI, 3000, .inl u.2))]) ⟨xe, xb, xml, xo, xt⟩ (c_TripleLinesModel_put l D cI mM tm aT om aO tn aK aS aC aU aG aY aX qn aP tr rg ll p f ov sz aM tz aA dv aD aB aV aE Dv 32 (by first | assumption | omega) (by first | assumption | omega)) k_TripleLinesModel_put mw_TripleLinesModel_229 ⟨Nat.le_of_ble_eq_true rfl, Nat.le_of_ble_eq_true rfl⟩ xK xP xD xS xA rfl xl.1 rfl (Nat.le_of_ble_eq_true rfl) d_TripleLinesModel_putTerm_156 ⟨Nat.zero_le _, Nat.zero_le _⟩ [0, 7] [1, 2, 3, 4, 5, 6] [6, 0, 1, 2, 3, 4, 5, 7] rfl rfl (by decide) (by decide) (by decide) (by decide) (fun _ => rfl) rfl rfl rfl ?_
              clear xP xD xS
              intro u H locs hw_46 xP xD xS
              obtain ⟨dm2_44, DR2_45⟩ := u
              try dsimp only at hw_46
              replace xP : va_P D classes [(mM, .inr (6, [.int (iI tm), .ref aT, .int (iI om), .ref aO, .int (iI tn), .ref aK, .ref aS, .ref aC, .ref aU, .ref aG, .ref aY, .ref aX, .int (iI qn), .ref aP, .int (iI tr), .int (iI rg), .int (iI ll), .int (iI p), .int (iI f), .int (iI ov), .int (iI sz), .ref aM, .int (iI tz), .ref aA, .int (iI dm2_44), .ref aD, .ref aB, .ref aV, .ref aE])), (aK, .inl (cI, 120, .inl K)), (aS, .inl (cI, 120, .inl Ln)), (aC, .inl (cI, 4800, .inl C)), (aU, .inl (cI, 120, .inl TL)), (aG, .inl (cI, 1920, .inl TG)), (aY, .inl (cI, 120, .inl TY)), (aD, .inl (cI, 3000, .inl DR2_45))] H := xP
              replace xD : va_D xA0 [(mM, .inr (6, [.int (iI tm), .ref aT, .int (iI om), .ref aO, .int (iI tn), .ref aK, .ref aS, .ref aC, .ref aU, .ref aG, .ref aY, .ref aX, .int (iI qn), .ref aP, .int (iI tr), .int (iI rg), .int (iI ll), .int (iI p), .int (iI f), .int (iI ov), .int (iI sz), .ref aM, .int (iI tz), .ref aA, .int (iI dm2_44), .ref aD, .ref aB, .ref aV, .ref aE])), (aK, .inl (cI, 120, .inl K)), (aS, .inl (cI, 120, .inl Ln)), (aC, .inl (cI, 4800, .inl C)), (aU, .inl (cI, 120, .inl TL)), (aG, .inl (cI, 1920, .inl TG)), (aY, .inl (cI, 120, .inl TY)), (aD, .inl (cI, 3000, .inl DR2_45))] := xD
              replace HC := PwM_trans hdm.1 HC hw_46
              have hgr := HC.1
              simp only [List.length_append, List.length_cons, List.length_nil] at hgr
              clear hw_46
              exact xret _ _ _ _ (dm2_44, DR2_45) d_TripleLinesModel_putTerm_159 (by first | exact (PwM_cast HC (txM_tag ht (by omega) C77 (w3 C77) (show k = tI TL t by omega))) | (dsimp only; exact (PwM_cast HC (txM_tag ht (by omega) C77 (w3 C77) (show k = tI TL t by omega))))) xP xD xS
            · refine lv_aload_n xe xb d_TripleLinesModel_putTerm_98 rfl (lv_at xl 0 rfl) ?_
              refine lv_aload_n xe xb d_TripleLinesModel_putTerm_99 rfl (lv_at xl 0 rfl) ?_
              refine va_get (D := D) (ci := 6) (v := .ref aG) (C := R_TripleLinesModel) (T := F_TripleLinesModel) (N := 29) xe xb xt i_TripleLinesModel xo xK xP 0 rfl rfl 9 (by decide) (xt _ mw_TripleLinesModel_28) (fun _ h9 => h9) rfl d_TripleLinesModel_putTerm_100 ?_
              refine lv_bipush (v := iI (16)) xe xb d_TripleLinesModel_putTerm_103 (by decide) ?_
              refine lv_iload_n xe xb d_TripleLinesModel_putTerm_105 rfl (lv_at xl 1 rfl) ?_
              refine tk_imul xe xb d_TripleLinesModel_putTerm_106 ?_
              refine lv_iload_n xe xb d_TripleLinesModel_putTerm_107 rfl (lv_at xl 2 rfl) ?_
              refine tk_iadd xe xb d_TripleLinesModel_putTerm_108 ?_
              refine tk_iald xe xb xK xP 5 0 rfl rfl (by omega) d_TripleLinesModel_putTerm_109 ?_
              have hr_48 := tI_rg TG ((16 * t) + k)
              refine tk_callVv (As := [.int (iI (tI TG ((16 * t) + k)))]) (rest := []) (wr := [(aK, .inl (cI, 120, .inl K)), (aS, .inl (cI, 120, .inl Ln)), (aC, .inl (cI, 4800, .inl C)), (aU, .inl (cI, 120, .inl TL)), (aG, .inl (cI, 1920, .inl TG)), (aY, .inl (cI, 120, .inl TY))]) (wn := fun u => [(mM, .inr (6, [.int (iI tm), .ref aT, .int (iI om), .ref aO, .int (iI tn), .ref aK, .ref aS, .ref aC, .ref aU, .ref aG, .ref aY, .ref aX, .int (iI qn), .ref aP, .int (iI tr), .int (iI rg), .int (iI ll), .int (iI p), .int (iI f), .int (iI ov), .int (iI sz), .ref aM, .int (iI tz), .ref aA, .int (iI u.1), .ref aD, .ref aB, .ref aV, .ref aE])), (aK, .inl (cI, 120, .inl K)), (aS, .inl (cI, 120, .inl Ln)), (aC, .inl (cI, 4800, .inl C)), (aU, .inl (cI, 120, .inl TL)), (aG, .inl (cI, 1920, .inl TG)), (aY, .inl (cI, 120, .inl TY)), (aD, .inl (cI, 3000, .inl u.2))]) ⟨xe, xb, xml, xo, xt⟩ (c_TripleLinesModel_put l D cI mM tm aT om aO tn aK aS aC aU aG aY aX qn aP tr rg ll p f ov sz aM tz aA dv aD aB aV aE Dv (tI TG ((16 * t) + k)) (by first | assumption | omega) (by first | assumption | omega)) k_TripleLinesModel_put mw_TripleLinesModel_229 ⟨Nat.le_of_ble_eq_true rfl, Nat.le_of_ble_eq_true rfl⟩ xK xP xD xS xA rfl xl.1 rfl (Nat.le_of_ble_eq_true rfl) d_TripleLinesModel_putTerm_110 ⟨Nat.zero_le _, Nat.zero_le _⟩ [0, 7] [1, 2, 3, 4, 5, 6] [6, 0, 1, 2, 3, 4, 5, 7] rfl rfl (by decide) (by decide) (by decide) (by decide) (fun _ => rfl) rfl rfl rfl ?_
              clear xP xD xS
              intro u H locs hw_51 xP xD xS
              obtain ⟨dm2_49, DR2_50⟩ := u
              try dsimp only at hw_51
              replace xP : va_P D classes [(mM, .inr (6, [.int (iI tm), .ref aT, .int (iI om), .ref aO, .int (iI tn), .ref aK, .ref aS, .ref aC, .ref aU, .ref aG, .ref aY, .ref aX, .int (iI qn), .ref aP, .int (iI tr), .int (iI rg), .int (iI ll), .int (iI p), .int (iI f), .int (iI ov), .int (iI sz), .ref aM, .int (iI tz), .ref aA, .int (iI dm2_49), .ref aD, .ref aB, .ref aV, .ref aE])), (aK, .inl (cI, 120, .inl K)), (aS, .inl (cI, 120, .inl Ln)), (aC, .inl (cI, 4800, .inl C)), (aU, .inl (cI, 120, .inl TL)), (aG, .inl (cI, 1920, .inl TG)), (aY, .inl (cI, 120, .inl TY)), (aD, .inl (cI, 3000, .inl DR2_50))] H := xP
              replace xD : va_D xA0 [(mM, .inr (6, [.int (iI tm), .ref aT, .int (iI om), .ref aO, .int (iI tn), .ref aK, .ref aS, .ref aC, .ref aU, .ref aG, .ref aY, .ref aX, .int (iI qn), .ref aP, .int (iI tr), .int (iI rg), .int (iI ll), .int (iI p), .int (iI f), .int (iI ov), .int (iI sz), .ref aM, .int (iI tz), .ref aA, .int (iI dm2_49), .ref aD, .ref aB, .ref aV, .ref aE])), (aK, .inl (cI, 120, .inl K)), (aS, .inl (cI, 120, .inl Ln)), (aC, .inl (cI, 4800, .inl C)), (aU, .inl (cI, 120, .inl TL)), (aG, .inl (cI, 1920, .inl TG)), (aY, .inl (cI, 120, .inl TY)), (aD, .inl (cI, 3000, .inl DR2_50))] := xD
              replace HC := PwM_trans hdm.1 HC hw_51
              have hgr := HC.1
              simp only [List.length_append, List.length_cons, List.length_nil] at hgr
              clear hw_51
              refine tk_iinc (v := (k + 1)) (lv' := [(2, .int (iI (k + 1))), (0, .ref mM), (1, .int (iI t))]) xe xb d_TripleLinesModel_putTerm_113 xl (k := 2) rfl rfl (by decide) rfl ?_
              clear xl
              intro ls xl
              refine lv_goto (tgt := 88) xe xb d_TripleLinesModel_putTerm_116 (by decide) ?_
              exact ih_88 (k + 1) dm2_49 DR2_50 (by omega) (by first | assumption | omega) (PwM_cast HC (by rw [seg_succ hk.1, Int.mul_comm t 16]; simp)) _ _ xP xD xS ls (lv_sub xl [1, 2, 0] rfl)
        exact loop_88 _ 0 dm2_38 DR2_39 (Nat.lt_succ_self _) ⟨Int.le_refl 0, htt.2.2.1⟩ (PwM_cast HC (by rw [show seg TG (t * 16) 0 = [] from lst_neg (Int.le_refl 0)]; simp)) _ _ xP xD xS ls (lv_sub xl [1, 2, 0] rfl)
    · refine lv_aload_n xe xb d_TripleLinesModel_putTerm_27 rfl (lv_at xl 0 rfl) ?_
      refine lv_bipush (v := iI (95)) xe xb d_TripleLinesModel_putTerm_28 (by decide) ?_
      refine tk_callVv (As := [.int (iI 95)]) (rest := []) (wr := [(aK, .inl (cI, 120, .inl K)), (aS, .inl (cI, 120, .inl Ln)), (aC, .inl (cI, 4800, .inl C)), (aU, .inl (cI, 120, .inl TL)), (aG, .inl (cI, 1920, .inl TG)), (aY, .inl (cI, 120, .inl TY))]) (wn := fun u => [(mM, .inr (6, [.int (iI tm), .ref aT, .int (iI om), .ref aO, .int (iI tn), .ref aK, .ref aS, .ref aC, .ref aU, .ref aG, .ref aY, .ref aX, .int (iI qn), .ref aP, .int (iI tr), .int (iI rg), .int (iI ll), .int (iI p), .int (iI f), .int (iI ov), .int (iI sz), .ref aM, .int (iI tz), .ref aA, .int (iI u.1), .ref aD, .ref aB, .ref aV, .ref aE])), (aK, .inl (cI, 120, .inl K)), (aS, .inl (cI, 120, .inl Ln)), (aC, .inl (cI, 4800, .inl C)), (aU, .inl (cI, 120, .inl TL)), (aG, .inl (cI, 1920, .inl TG)), (aY, .inl (cI, 120, .inl TY)), (aD, .inl (cI, 3000, .inl u.2))]) ⟨xe, xb, xml, xo, xt⟩ (c_TripleLinesModel_put l D cI mM tm aT om aO tn aK aS aC aU aG aY aX qn aP tr rg ll p f ov sz aM tz aA dm aD aB aV aE DR 95 (by first | assumption | omega) (by first | assumption | omega)) k_TripleLinesModel_put mw_TripleLinesModel_229 ⟨Nat.le_of_ble_eq_true rfl, Nat.le_of_ble_eq_true rfl⟩ xK xP xD xS xA rfl xl.1 rfl (Nat.le_of_ble_eq_true rfl) d_TripleLinesModel_putTerm_30 ⟨Nat.zero_le _, Nat.zero_le _⟩ [0, 7] [1, 2, 3, 4, 5, 6] [6, 0, 1, 2, 3, 4, 5, 7] rfl rfl (by decide) (by decide) (by decide) (by decide) (fun _ => rfl) rfl rfl rfl ?_
      clear xP xD xS
      intro u H locs hw_55 xP xD xS
      obtain ⟨dm2_53, DR2_54⟩ := u
      try dsimp only at hw_55
      replace xP : va_P D classes [(mM, .inr (6, [.int (iI tm), .ref aT, .int (iI om), .ref aO, .int (iI tn), .ref aK, .ref aS, .ref aC, .ref aU, .ref aG, .ref aY, .ref aX, .int (iI qn), .ref aP, .int (iI tr), .int (iI rg), .int (iI ll), .int (iI p), .int (iI f), .int (iI ov), .int (iI sz), .ref aM, .int (iI tz), .ref aA, .int (iI dm2_53), .ref aD, .ref aB, .ref aV, .ref aE])), (aK, .inl (cI, 120, .inl K)), (aS, .inl (cI, 120, .inl Ln)), (aC, .inl (cI, 4800, .inl C)), (aU, .inl (cI, 120, .inl TL)), (aG, .inl (cI, 1920, .inl TG)), (aY, .inl (cI, 120, .inl TY)), (aD, .inl (cI, 3000, .inl DR2_54))] H := xP
      replace xD : va_D xA0 [(mM, .inr (6, [.int (iI tm), .ref aT, .int (iI om), .ref aO, .int (iI tn), .ref aK, .ref aS, .ref aC, .ref aU, .ref aG, .ref aY, .ref aX, .int (iI qn), .ref aP, .int (iI tr), .int (iI rg), .int (iI ll), .int (iI p), .int (iI f), .int (iI ov), .int (iI sz), .ref aM, .int (iI tz), .ref aA, .int (iI dm2_53), .ref aD, .ref aB, .ref aV, .ref aE])), (aK, .inl (cI, 120, .inl K)), (aS, .inl (cI, 120, .inl Ln)), (aC, .inl (cI, 4800, .inl C)), (aU, .inl (cI, 120, .inl TL)), (aG, .inl (cI, 1920, .inl TG)), (aY, .inl (cI, 120, .inl TY)), (aD, .inl (cI, 3000, .inl DR2_54))] := xD
      replace HC := PwM_trans hdm.1 HC hw_55
      have hgr := HC.1
      simp only [List.length_append, List.length_cons, List.length_nil] at hgr
      clear hw_55
      refine lv_aload_n xe xb d_TripleLinesModel_putTerm_33 rfl (lv_at xl 0 rfl) ?_
      refine lv_bipush (v := iI (58)) xe xb d_TripleLinesModel_putTerm_34 (by decide) ?_
      refine tk_callVv (As := [.int (iI 58)]) (rest := []) (wr := [(aK, .inl (cI, 120, .inl K)), (aS, .inl (cI, 120, .inl Ln)), (aC, .inl (cI, 4800, .inl C)), (aU, .inl (cI, 120, .inl TL)), (aG, .inl (cI, 1920, .inl TG)), (aY, .inl (cI, 120, .inl TY))]) (wn := fun u => [(mM, .inr (6, [.int (iI tm), .ref aT, .int (iI om), .ref aO, .int (iI tn), .ref aK, .ref aS, .ref aC, .ref aU, .ref aG, .ref aY, .ref aX, .int (iI qn), .ref aP, .int (iI tr), .int (iI rg), .int (iI ll), .int (iI p), .int (iI f), .int (iI ov), .int (iI sz), .ref aM, .int (iI tz), .ref aA, .int (iI u.1), .ref aD, .ref aB, .ref aV, .ref aE])), (aK, .inl (cI, 120, .inl K)), (aS, .inl (cI, 120, .inl Ln)), (aC, .inl (cI, 4800, .inl C)), (aU, .inl (cI, 120, .inl TL)), (aG, .inl (cI, 1920, .inl TG)), (aY, .inl (cI, 120, .inl TY)), (aD, .inl (cI, 3000, .inl u.2))]) ⟨xe, xb, xml, xo, xt⟩ (c_TripleLinesModel_put l D cI mM tm aT om aO tn aK aS aC aU aG aY aX qn aP tr rg ll p f ov sz aM tz aA dm2_53 aD aB aV aE DR2_54 58 (by first | assumption | omega) (by first | assumption | omega)) k_TripleLinesModel_put mw_TripleLinesModel_229 ⟨Nat.le_of_ble_eq_true rfl, Nat.le_of_ble_eq_true rfl⟩ xK xP xD xS xA rfl xl.1 rfl (Nat.le_of_ble_eq_true rfl) d_TripleLinesModel_putTerm_36 ⟨Nat.zero_le _, Nat.zero_le _⟩ [0, 7] [1, 2, 3, 4, 5, 6] [6, 0, 1, 2, 3, 4, 5, 7] rfl rfl (by decide) (by decide) (by decide) (by decide) (fun _ => rfl) rfl rfl rfl ?_
      clear xP xD xS
      intro u H locs hw_59 xP xD xS
      obtain ⟨dm2_57, DR2_58⟩ := u
      try dsimp only at hw_59
      replace xP : va_P D classes [(mM, .inr (6, [.int (iI tm), .ref aT, .int (iI om), .ref aO, .int (iI tn), .ref aK, .ref aS, .ref aC, .ref aU, .ref aG, .ref aY, .ref aX, .int (iI qn), .ref aP, .int (iI tr), .int (iI rg), .int (iI ll), .int (iI p), .int (iI f), .int (iI ov), .int (iI sz), .ref aM, .int (iI tz), .ref aA, .int (iI dm2_57), .ref aD, .ref aB, .ref aV, .ref aE])), (aK, .inl (cI, 120, .inl K)), (aS, .inl (cI, 120, .inl Ln)), (aC, .inl (cI, 4800, .inl C)), (aU, .inl (cI, 120, .inl TL)), (aG, .inl (cI, 1920, .inl TG)), (aY, .inl (cI, 120, .inl TY)), (aD, .inl (cI, 3000, .inl DR2_58))] H := xP
      replace xD : va_D xA0 [(mM, .inr (6, [.int (iI tm), .ref aT, .int (iI om), .ref aO, .int (iI tn), .ref aK, .ref aS, .ref aC, .ref aU, .ref aG, .ref aY, .ref aX, .int (iI qn), .ref aP, .int (iI tr), .int (iI rg), .int (iI ll), .int (iI p), .int (iI f), .int (iI ov), .int (iI sz), .ref aM, .int (iI tz), .ref aA, .int (iI dm2_57), .ref aD, .ref aB, .ref aV, .ref aE])), (aK, .inl (cI, 120, .inl K)), (aS, .inl (cI, 120, .inl Ln)), (aC, .inl (cI, 4800, .inl C)), (aU, .inl (cI, 120, .inl TL)), (aG, .inl (cI, 1920, .inl TG)), (aY, .inl (cI, 120, .inl TY)), (aD, .inl (cI, 3000, .inl DR2_58))] := xD
      replace HC := PwM_trans hdm.1 HC hw_59
      have hgr := HC.1
      simp only [List.length_append, List.length_cons, List.length_nil] at hgr
      clear hw_59
      refine lv_aload_n xe xb d_TripleLinesModel_putTerm_39 rfl (lv_at xl 0 rfl) ?_
      refine lv_bipush (v := iI (98)) xe xb d_TripleLinesModel_putTerm_40 (by decide) ?_
      refine tk_callVv (As := [.int (iI 98)]) (rest := []) (wr := [(aK, .inl (cI, 120, .inl K)), (aS, .inl (cI, 120, .inl Ln)), (aC, .inl (cI, 4800, .inl C)), (aU, .inl (cI, 120, .inl TL)), (aG, .inl (cI, 1920, .inl TG)), (aY, .inl (cI, 120, .inl TY))]) (wn := fun u => [(mM, .inr (6, [.int (iI tm), .ref aT, .int (iI om), .ref aO, .int (iI tn), .ref aK, .ref aS, .ref aC, .ref aU, .ref aG, .ref aY, .ref aX, .int (iI qn), .ref aP, .int (iI tr), .int (iI rg), .int (iI ll), .int (iI p), .int (iI f), .int (iI ov), .int (iI sz), .ref aM, .int (iI tz), .ref aA, .int (iI u.1), .ref aD, .ref aB, .ref aV, .ref aE])), (aK, .inl (cI, 120, .inl K)), (aS, .inl (cI, 120, .inl Ln)), (aC, .inl (cI, 4800, .inl C)), (aU, .inl (cI, 120, .inl TL)), (aG, .inl (cI, 1920, .inl TG)), (aY, .inl (cI, 120, .inl TY)), (aD, .inl (cI, 3000, .inl u.2))]) ⟨xe, xb, xml, xo, xt⟩ (c_TripleLinesModel_put l D cI mM tm aT om aO tn aK aS aC aU aG aY aX qn aP tr rg ll p f ov sz aM tz aA dm2_57 aD aB aV aE DR2_58 98 (by first | assumption | omega) (by first | assumption | omega)) k_TripleLinesModel_put mw_TripleLinesModel_229 ⟨Nat.le_of_ble_eq_true rfl, Nat.le_of_ble_eq_true rfl⟩ xK xP xD xS xA rfl xl.1 rfl (Nat.le_of_ble_eq_true rfl) d_TripleLinesModel_putTerm_42 ⟨Nat.zero_le _, Nat.zero_le _⟩ [0, 7] [1, 2, 3, 4, 5, 6] [6, 0, 1, 2, 3, 4, 5, 7] rfl rfl (by decide) (by decide) (by decide) (by decide) (fun _ => rfl) rfl rfl rfl ?_
      clear xP xD xS
      intro u H locs hw_63 xP xD xS
      obtain ⟨dm2_61, DR2_62⟩ := u
      try dsimp only at hw_63
      replace xP : va_P D classes [(mM, .inr (6, [.int (iI tm), .ref aT, .int (iI om), .ref aO, .int (iI tn), .ref aK, .ref aS, .ref aC, .ref aU, .ref aG, .ref aY, .ref aX, .int (iI qn), .ref aP, .int (iI tr), .int (iI rg), .int (iI ll), .int (iI p), .int (iI f), .int (iI ov), .int (iI sz), .ref aM, .int (iI tz), .ref aA, .int (iI dm2_61), .ref aD, .ref aB, .ref aV, .ref aE])), (aK, .inl (cI, 120, .inl K)), (aS, .inl (cI, 120, .inl Ln)), (aC, .inl (cI, 4800, .inl C)), (aU, .inl (cI, 120, .inl TL)), (aG, .inl (cI, 1920, .inl TG)), (aY, .inl (cI, 120, .inl TY)), (aD, .inl (cI, 3000, .inl DR2_62))] H := xP
      replace xD : va_D xA0 [(mM, .inr (6, [.int (iI tm), .ref aT, .int (iI om), .ref aO, .int (iI tn), .ref aK, .ref aS, .ref aC, .ref aU, .ref aG, .ref aY, .ref aX, .int (iI qn), .ref aP, .int (iI tr), .int (iI rg), .int (iI ll), .int (iI p), .int (iI f), .int (iI ov), .int (iI sz), .ref aM, .int (iI tz), .ref aA, .int (iI dm2_61), .ref aD, .ref aB, .ref aV, .ref aE])), (aK, .inl (cI, 120, .inl K)), (aS, .inl (cI, 120, .inl Ln)), (aC, .inl (cI, 4800, .inl C)), (aU, .inl (cI, 120, .inl TL)), (aG, .inl (cI, 1920, .inl TG)), (aY, .inl (cI, 120, .inl TY)), (aD, .inl (cI, 3000, .inl DR2_62))] := xD
      replace HC := PwM_trans hdm.1 HC hw_63
      have hgr := HC.1
      simp only [List.length_append, List.length_cons, List.length_nil] at hgr
      clear hw_63
      refine lv_aload_n xe xb d_TripleLinesModel_putTerm_45 rfl (lv_at xl 0 rfl) ?_
      refine lv_iload_n xe xb d_TripleLinesModel_putTerm_46 rfl (lv_at xl 1 rfl) ?_
      refine tk_callVv (As := [.int (iI t)]) (rest := []) (wr := [(aK, .inl (cI, 120, .inl K)), (aS, .inl (cI, 120, .inl Ln)), (aC, .inl (cI, 4800, .inl C)), (aU, .inl (cI, 120, .inl TL)), (aG, .inl (cI, 1920, .inl TG)), (aY, .inl (cI, 120, .inl TY))]) (wn := fun u => [(mM, .inr (6, [.int (iI tm), .ref aT, .int (iI om), .ref aO, .int (iI tn), .ref aK, .ref aS, .ref aC, .ref aU, .ref aG, .ref aY, .ref aX, .int (iI qn), .ref aP, .int (iI tr), .int (iI rg), .int (iI ll), .int (iI p), .int (iI f), .int (iI ov), .int (iI sz), .ref aM, .int (iI tz), .ref aA, .int (iI u.1), .ref aD, .ref aB, .ref aV, .ref aE])), (aK, .inl (cI, 120, .inl K)), (aS, .inl (cI, 120, .inl Ln)), (aC, .inl (cI, 4800, .inl C)), (aU, .inl (cI, 120, .inl TL)), (aG, .inl (cI, 1920, .inl TG)), (aY, .inl (cI, 120, .inl TY)), (aD, .inl (cI, 3000, .inl u.2))]) ⟨xe, xb, xml, xo, xt⟩ (c_TripleLinesModel_putNumber l D cI mM tm aT om aO tn aK aS aC aU aG aY aX qn aP tr rg ll p f ov sz aM tz aA dm2_61 aD aB aV aE DR2_62 t (by first | assumption | omega) (by first | assumption | omega)) k_TripleLinesModel_putNumber mw_TripleLinesModel_250 ⟨Nat.le_of_ble_eq_true rfl, Nat.le_of_ble_eq_true rfl⟩ xK xP xD xS xA rfl xl.1 rfl (Nat.le_of_ble_eq_true rfl) d_TripleLinesModel_putTerm_47 ⟨Nat.zero_le _, Nat.zero_le _⟩ [0, 7] [1, 2, 3, 4, 5, 6] [6, 0, 1, 2, 3, 4, 5, 7] rfl rfl (by decide) (by decide) (by decide) (by decide) (fun _ => rfl) rfl rfl rfl ?_
      clear xP xD xS
      intro u H locs hw_67 xP xD xS
      obtain ⟨dm2_65, DR2_66⟩ := u
      try dsimp only at hw_67
      replace xP : va_P D classes [(mM, .inr (6, [.int (iI tm), .ref aT, .int (iI om), .ref aO, .int (iI tn), .ref aK, .ref aS, .ref aC, .ref aU, .ref aG, .ref aY, .ref aX, .int (iI qn), .ref aP, .int (iI tr), .int (iI rg), .int (iI ll), .int (iI p), .int (iI f), .int (iI ov), .int (iI sz), .ref aM, .int (iI tz), .ref aA, .int (iI dm2_65), .ref aD, .ref aB, .ref aV, .ref aE])), (aK, .inl (cI, 120, .inl K)), (aS, .inl (cI, 120, .inl Ln)), (aC, .inl (cI, 4800, .inl C)), (aU, .inl (cI, 120, .inl TL)), (aG, .inl (cI, 1920, .inl TG)), (aY, .inl (cI, 120, .inl TY)), (aD, .inl (cI, 3000, .inl DR2_66))] H := xP
      replace xD : va_D xA0 [(mM, .inr (6, [.int (iI tm), .ref aT, .int (iI om), .ref aO, .int (iI tn), .ref aK, .ref aS, .ref aC, .ref aU, .ref aG, .ref aY, .ref aX, .int (iI qn), .ref aP, .int (iI tr), .int (iI rg), .int (iI ll), .int (iI p), .int (iI f), .int (iI ov), .int (iI sz), .ref aM, .int (iI tz), .ref aA, .int (iI dm2_65), .ref aD, .ref aB, .ref aV, .ref aE])), (aK, .inl (cI, 120, .inl K)), (aS, .inl (cI, 120, .inl Ln)), (aC, .inl (cI, 4800, .inl C)), (aU, .inl (cI, 120, .inl TL)), (aG, .inl (cI, 1920, .inl TG)), (aY, .inl (cI, 120, .inl TY)), (aD, .inl (cI, 3000, .inl DR2_66))] := xD
      replace HC := PwM_trans hdm.1 HC hw_67
      have hgr := HC.1
      simp only [List.length_append, List.length_cons, List.length_nil] at hgr
      clear hw_67
      refine lv_goto (tgt := 153) xe xb d_TripleLinesModel_putTerm_50 (by decide) ?_
      refine lv_aload_n xe xb d_TripleLinesModel_putTerm_153 rfl (lv_at xl 0 rfl) ?_
      refine lv_bipush (v := iI (32)) xe xb d_TripleLinesModel_putTerm_154 (by decide) ?_
      refine tk_callVv (As := [.int (iI 32)]) (rest := []) (wr := [(aK, .inl (cI, 120, .inl K)), (aS, .inl (cI, 120, .inl Ln)), (aC, .inl (cI, 4800, .inl C)), (aU, .inl (cI, 120, .inl TL)), (aG, .inl (cI, 1920, .inl TG)), (aY, .inl (cI, 120, .inl TY))]) (wn := fun u => [(mM, .inr (6, [.int (iI tm), .ref aT, .int (iI om), .ref aO, .int (iI tn), .ref aK, .ref aS, .ref aC, .ref aU, .ref aG, .ref aY, .ref aX, .int (iI qn), .ref aP, .int (iI tr), .int (iI rg), .int (iI ll), .int (iI p), .int (iI f), .int (iI ov), .int (iI sz), .ref aM, .int (iI tz), .ref aA, .int (iI u.1), .ref aD, .ref aB, .ref aV, .ref aE])), (aK, .inl (cI, 120, .inl K)), (aS, .inl (cI, 120, .inl Ln)), (aC, .inl (cI, 4800, .inl C)), (aU, .inl (cI, 120, .inl TL)), (aG, .inl (cI, 1920, .inl TG)), (aY, .inl (cI, 120, .inl TY)), (aD, .inl (cI, 3000, .inl u.2))]) ⟨xe, xb, xml, xo, xt⟩ (c_TripleLinesModel_put l D cI mM tm aT om aO tn aK aS aC aU aG aY aX qn aP tr rg ll p f ov sz aM tz aA dm2_65 aD aB aV aE DR2_66 32 (by first | assumption | omega) (by first | assumption | omega)) k_TripleLinesModel_put mw_TripleLinesModel_229 ⟨Nat.le_of_ble_eq_true rfl, Nat.le_of_ble_eq_true rfl⟩ xK xP xD xS xA rfl xl.1 rfl (Nat.le_of_ble_eq_true rfl) d_TripleLinesModel_putTerm_156 ⟨Nat.zero_le _, Nat.zero_le _⟩ [0, 7] [1, 2, 3, 4, 5, 6] [6, 0, 1, 2, 3, 4, 5, 7] rfl rfl (by decide) (by decide) (by decide) (by decide) (fun _ => rfl) rfl rfl rfl ?_
      clear xP xD xS
      intro u H locs hw_71 xP xD xS
      obtain ⟨dm2_69, DR2_70⟩ := u
      try dsimp only at hw_71
      replace xP : va_P D classes [(mM, .inr (6, [.int (iI tm), .ref aT, .int (iI om), .ref aO, .int (iI tn), .ref aK, .ref aS, .ref aC, .ref aU, .ref aG, .ref aY, .ref aX, .int (iI qn), .ref aP, .int (iI tr), .int (iI rg), .int (iI ll), .int (iI p), .int (iI f), .int (iI ov), .int (iI sz), .ref aM, .int (iI tz), .ref aA, .int (iI dm2_69), .ref aD, .ref aB, .ref aV, .ref aE])), (aK, .inl (cI, 120, .inl K)), (aS, .inl (cI, 120, .inl Ln)), (aC, .inl (cI, 4800, .inl C)), (aU, .inl (cI, 120, .inl TL)), (aG, .inl (cI, 1920, .inl TG)), (aY, .inl (cI, 120, .inl TY)), (aD, .inl (cI, 3000, .inl DR2_70))] H := xP
      replace xD : va_D xA0 [(mM, .inr (6, [.int (iI tm), .ref aT, .int (iI om), .ref aO, .int (iI tn), .ref aK, .ref aS, .ref aC, .ref aU, .ref aG, .ref aY, .ref aX, .int (iI qn), .ref aP, .int (iI tr), .int (iI rg), .int (iI ll), .int (iI p), .int (iI f), .int (iI ov), .int (iI sz), .ref aM, .int (iI tz), .ref aA, .int (iI dm2_69), .ref aD, .ref aB, .ref aV, .ref aE])), (aK, .inl (cI, 120, .inl K)), (aS, .inl (cI, 120, .inl Ln)), (aC, .inl (cI, 4800, .inl C)), (aU, .inl (cI, 120, .inl TL)), (aG, .inl (cI, 1920, .inl TG)), (aY, .inl (cI, 120, .inl TY)), (aD, .inl (cI, 3000, .inl DR2_70))] := xD
      replace HC := PwM_trans hdm.1 HC hw_71
      have hgr := HC.1
      simp only [List.length_append, List.length_cons, List.length_nil] at hgr
      clear hw_71
      exact xret _ _ _ _ (dm2_69, DR2_70) d_TripleLinesModel_putTerm_159 (by first | exact (PwM_cast HC (txM_lab ht C24 (w2 (by omega)).1 (w2 (by omega)).2)) | (dsimp only; exact (PwM_cast HC (txM_lab ht C24 (w2 (by omega)).1 (w2 (by omega)).2)))) xP xD xS
  · refine lv_aload_n xe xb d_TripleLinesModel_putTerm_9 rfl (lv_at xl 0 rfl) ?_
    refine lv_iload_n xe xb d_TripleLinesModel_putTerm_10 rfl (lv_at xl 1 rfl) ?_
    refine tk_callVv (As := [.int (iI t)]) (rest := []) (wr := [(aK, .inl (cI, 120, .inl K)), (aU, .inl (cI, 120, .inl TL)), (aG, .inl (cI, 1920, .inl TG)), (aY, .inl (cI, 120, .inl TY))]) (wn := fun u => [(mM, .inr (6, [.int (iI tm), .ref aT, .int (iI om), .ref aO, .int (iI tn), .ref aK, .ref aS, .ref aC, .ref aU, .ref aG, .ref aY, .ref aX, .int (iI qn), .ref aP, .int (iI tr), .int (iI rg), .int (iI ll), .int (iI p), .int (iI f), .int (iI ov), .int (iI sz), .ref aM, .int (iI tz), .ref aA, .int (iI u.1), .ref aD, .ref aB, .ref aV, .ref aE])), (aK, .inl (cI, 120, .inl K)), (aS, .inl (cI, 120, .inl Ln)), (aC, .inl (cI, 4800, .inl C)), (aU, .inl (cI, 120, .inl TL)), (aG, .inl (cI, 1920, .inl TG)), (aY, .inl (cI, 120, .inl TY)), (aD, .inl (cI, 3000, .inl u.2))]) ⟨xe, xb, xml, xo, xt⟩ (c_TripleLinesModel_putNode l D cI mM tm aT om aO tn aK aS aC aU aG aY aX qn aP tr rg ll p f ov sz aM tz aA dm aD aB aV aE Ln C DR t TL (by first | assumption | omega) (by first | assumption | omega) (by first | assumption | omega)) k_TripleLinesModel_putNode mw_TripleLinesModel_247 ⟨Nat.le_of_ble_eq_true rfl, Nat.le_of_ble_eq_true rfl⟩ xK xP xD xS xA rfl xl.1 rfl (Nat.le_of_ble_eq_true rfl) d_TripleLinesModel_putTerm_11 ⟨Nat.zero_le _, Nat.zero_le _⟩ [0, 2, 3, 7] [1, 4, 5, 6] [4, 0, 5, 6, 1, 2, 3, 7] rfl rfl (by decide) (by decide) (by decide) (by decide) (fun _ => rfl) rfl rfl rfl ?_
    clear xP xD xS
    intro u H locs hw_75 xP xD xS
    obtain ⟨dm2_73, DR2_74⟩ := u
    try dsimp only at hw_75
    replace xP : va_P D classes [(mM, .inr (6, [.int (iI tm), .ref aT, .int (iI om), .ref aO, .int (iI tn), .ref aK, .ref aS, .ref aC, .ref aU, .ref aG, .ref aY, .ref aX, .int (iI qn), .ref aP, .int (iI tr), .int (iI rg), .int (iI ll), .int (iI p), .int (iI f), .int (iI ov), .int (iI sz), .ref aM, .int (iI tz), .ref aA, .int (iI dm2_73), .ref aD, .ref aB, .ref aV, .ref aE])), (aK, .inl (cI, 120, .inl K)), (aS, .inl (cI, 120, .inl Ln)), (aC, .inl (cI, 4800, .inl C)), (aU, .inl (cI, 120, .inl TL)), (aG, .inl (cI, 1920, .inl TG)), (aY, .inl (cI, 120, .inl TY)), (aD, .inl (cI, 3000, .inl DR2_74))] H := xP
    replace xD : va_D xA0 [(mM, .inr (6, [.int (iI tm), .ref aT, .int (iI om), .ref aO, .int (iI tn), .ref aK, .ref aS, .ref aC, .ref aU, .ref aG, .ref aY, .ref aX, .int (iI qn), .ref aP, .int (iI tr), .int (iI rg), .int (iI ll), .int (iI p), .int (iI f), .int (iI ov), .int (iI sz), .ref aM, .int (iI tz), .ref aA, .int (iI dm2_73), .ref aD, .ref aB, .ref aV, .ref aE])), (aK, .inl (cI, 120, .inl K)), (aS, .inl (cI, 120, .inl Ln)), (aC, .inl (cI, 4800, .inl C)), (aU, .inl (cI, 120, .inl TL)), (aG, .inl (cI, 1920, .inl TG)), (aY, .inl (cI, 120, .inl TY)), (aD, .inl (cI, 3000, .inl DR2_74))] := xD
    replace HC := PwM_trans hdm.1 HC hw_75
    have hgr := HC.1
    simp only [List.length_append, List.length_cons, List.length_nil] at hgr
    clear hw_75
    refine lv_goto (tgt := 153) xe xb d_TripleLinesModel_putTerm_14 (by decide) ?_
    refine lv_aload_n xe xb d_TripleLinesModel_putTerm_153 rfl (lv_at xl 0 rfl) ?_
    refine lv_bipush (v := iI (32)) xe xb d_TripleLinesModel_putTerm_154 (by decide) ?_
    refine tk_callVv (As := [.int (iI 32)]) (rest := []) (wr := [(aK, .inl (cI, 120, .inl K)), (aS, .inl (cI, 120, .inl Ln)), (aC, .inl (cI, 4800, .inl C)), (aU, .inl (cI, 120, .inl TL)), (aG, .inl (cI, 1920, .inl TG)), (aY, .inl (cI, 120, .inl TY))]) (wn := fun u => [(mM, .inr (6, [.int (iI tm), .ref aT, .int (iI om), .ref aO, .int (iI tn), .ref aK, .ref aS, .ref aC, .ref aU, .ref aG, .ref aY, .ref aX, .int (iI qn), .ref aP, .int (iI tr), .int (iI rg), .int (iI ll), .int (iI p), .int (iI f), .int (iI ov), .int (iI sz), .ref aM, .int (iI tz), .ref aA, .int (iI u.1), .ref aD, .ref aB, .ref aV, .ref aE])), (aK, .inl (cI, 120, .inl K)), (aS, .inl (cI, 120, .inl Ln)), (aC, .inl (cI, 4800, .inl C)), (aU, .inl (cI, 120, .inl TL)), (aG, .inl (cI, 1920, .inl TG)), (aY, .inl (cI, 120, .inl TY)), (aD, .inl (cI, 3000, .inl u.2))]) ⟨xe, xb, xml, xo, xt⟩ (c_TripleLinesModel_put l D cI mM tm aT om aO tn aK aS aC aU aG aY aX qn aP tr rg ll p f ov sz aM tz aA dm2_73 aD aB aV aE DR2_74 32 (by first | assumption | omega) (by first | assumption | omega)) k_TripleLinesModel_put mw_TripleLinesModel_229 ⟨Nat.le_of_ble_eq_true rfl, Nat.le_of_ble_eq_true rfl⟩ xK xP xD xS xA rfl xl.1 rfl (Nat.le_of_ble_eq_true rfl) d_TripleLinesModel_putTerm_156 ⟨Nat.zero_le _, Nat.zero_le _⟩ [0, 7] [1, 2, 3, 4, 5, 6] [6, 0, 1, 2, 3, 4, 5, 7] rfl rfl (by decide) (by decide) (by decide) (by decide) (fun _ => rfl) rfl rfl rfl ?_
    clear xP xD xS
    intro u H locs hw_79 xP xD xS
    obtain ⟨dm2_77, DR2_78⟩ := u
    try dsimp only at hw_79
    replace xP : va_P D classes [(mM, .inr (6, [.int (iI tm), .ref aT, .int (iI om), .ref aO, .int (iI tn), .ref aK, .ref aS, .ref aC, .ref aU, .ref aG, .ref aY, .ref aX, .int (iI qn), .ref aP, .int (iI tr), .int (iI rg), .int (iI ll), .int (iI p), .int (iI f), .int (iI ov), .int (iI sz), .ref aM, .int (iI tz), .ref aA, .int (iI dm2_77), .ref aD, .ref aB, .ref aV, .ref aE])), (aK, .inl (cI, 120, .inl K)), (aS, .inl (cI, 120, .inl Ln)), (aC, .inl (cI, 4800, .inl C)), (aU, .inl (cI, 120, .inl TL)), (aG, .inl (cI, 1920, .inl TG)), (aY, .inl (cI, 120, .inl TY)), (aD, .inl (cI, 3000, .inl DR2_78))] H := xP
    replace xD : va_D xA0 [(mM, .inr (6, [.int (iI tm), .ref aT, .int (iI om), .ref aO, .int (iI tn), .ref aK, .ref aS, .ref aC, .ref aU, .ref aG, .ref aY, .ref aX, .int (iI qn), .ref aP, .int (iI tr), .int (iI rg), .int (iI ll), .int (iI p), .int (iI f), .int (iI ov), .int (iI sz), .ref aM, .int (iI tz), .ref aA, .int (iI dm2_77), .ref aD, .ref aB, .ref aV, .ref aE])), (aK, .inl (cI, 120, .inl K)), (aS, .inl (cI, 120, .inl Ln)), (aC, .inl (cI, 4800, .inl C)), (aU, .inl (cI, 120, .inl TL)), (aG, .inl (cI, 1920, .inl TG)), (aY, .inl (cI, 120, .inl TY)), (aD, .inl (cI, 3000, .inl DR2_78))] := xD
    replace HC := PwM_trans hdm.1 HC hw_79
    have hgr := HC.1
    simp only [List.length_append, List.length_cons, List.length_nil] at hgr
    clear hw_79
    exact xret _ _ _ _ (dm2_77, DR2_78) d_TripleLinesModel_putTerm_159 (by first | exact (PwM_cast HC (txM_node ht C6 (w2 (by omega)).1 (w2 (by omega)).2)) | (dsimp only; exact (PwM_cast HC (txM_node ht C6 (w2 (by omega)).1 (w2 (by omega)).2)))) xP xD xS
