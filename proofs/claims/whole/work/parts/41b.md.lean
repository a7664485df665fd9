theorem d_TripleLinesModel_readCodes_0 : decode b_TripleLinesModel_readCodes 0 = .ok (.aload_n 0, 1) := by decide +kernel
theorem d_TripleLinesModel_readCodes_1 : decode b_TripleLinesModel_readCodes 1 = .ok (.iconst 0, 1) := by decide +kernel
theorem d_TripleLinesModel_readCodes_2 : decode b_TripleLinesModel_readCodes 2 = .ok (.putfield 129, 3) := by decide +kernel
theorem d_TripleLinesModel_readCodes_5 : decode b_TripleLinesModel_readCodes 5 = .ok (.aload_n 0, 1) := by decide +kernel
theorem d_TripleLinesModel_readCodes_6 : decode b_TripleLinesModel_readCodes 6 = .ok (.invokevirtual 86, 3) := by decide +kernel
theorem d_TripleLinesModel_readCodes_9 : decode b_TripleLinesModel_readCodes 9 = .ok (.ifCond .eq 135, 3) := by decide +kernel
theorem d_TripleLinesModel_readCodes_12 : decode b_TripleLinesModel_readCodes 12 = .ok (.aload_n 0, 1) := by decide +kernel
theorem d_TripleLinesModel_readCodes_13 : decode b_TripleLinesModel_readCodes 13 = .ok (.invokevirtual 90, 3) := by decide +kernel
theorem d_TripleLinesModel_readCodes_16 : decode b_TripleLinesModel_readCodes 16 = .ok (.bipush 34, 2) := by decide +kernel
theorem d_TripleLinesModel_readCodes_18 : decode b_TripleLinesModel_readCodes 18 = .ok (.if_icmp .eq 126, 3) := by decide +kernel
theorem d_TripleLinesModel_readCodes_21 : decode b_TripleLinesModel_readCodes 21 = .ok (.aload_n 0, 1) := by decide +kernel
theorem d_TripleLinesModel_readCodes_22 : decode b_TripleLinesModel_readCodes 22 = .ok (.invokevirtual 90, 3) := by decide +kernel
theorem d_TripleLinesModel_readCodes_25 : decode b_TripleLinesModel_readCodes 25 = .ok (.istore_n 1, 1) := by decide +kernel
theorem d_TripleLinesModel_readCodes_26 : decode b_TripleLinesModel_readCodes 26 = .ok (.iload_n 1, 1) := by decide +kernel
theorem d_TripleLinesModel_readCodes_27 : decode b_TripleLinesModel_readCodes 27 = .ok (.bipush 92, 2) := by decide +kernel
theorem d_TripleLinesModel_readCodes_29 : decode b_TripleLinesModel_readCodes 29 = .ok (.if_icmp .ne 77, 3) := by decide +kernel
theorem d_TripleLinesModel_readCodes_32 : decode b_TripleLinesModel_readCodes 32 = .ok (.aload_n 0, 1) := by decide +kernel
theorem d_TripleLinesModel_readCodes_33 : decode b_TripleLinesModel_readCodes 33 = .ok (.invokevirtual 152, 3) := by decide +kernel
theorem d_TripleLinesModel_readCodes_36 : decode b_TripleLinesModel_readCodes 36 = .ok (.istore_n 2, 1) := by decide +kernel
theorem d_TripleLinesModel_readCodes_37 : decode b_TripleLinesModel_readCodes 37 = .ok (.aload_n 0, 1) := by decide +kernel
theorem d_TripleLinesModel_readCodes_38 : decode b_TripleLinesModel_readCodes 38 = .ok (.aload_n 0, 1) := by decide +kernel
theorem d_TripleLinesModel_readCodes_39 : decode b_TripleLinesModel_readCodes 39 = .ok (.getfield 79, 3) := by decide +kernel
theorem d_TripleLinesModel_readCodes_42 : decode b_TripleLinesModel_readCodes 42 = .ok (.iconst 1, 1) := by decide +kernel
theorem d_TripleLinesModel_readCodes_43 : decode b_TripleLinesModel_readCodes 43 = .ok (.iadd, 1) := by decide +kernel
theorem d_TripleLinesModel_readCodes_44 : decode b_TripleLinesModel_readCodes 44 = .ok (.invokevirtual 82, 3) := by decide +kernel
theorem d_TripleLinesModel_readCodes_47 : decode b_TripleLinesModel_readCodes 47 = .ok (.invokestatic 179, 3) := by decide +kernel
theorem d_TripleLinesModel_readCodes_50 : decode b_TripleLinesModel_readCodes 50 = .ok (.istore_n 3, 1) := by decide +kernel
theorem d_TripleLinesModel_readCodes_51 : decode b_TripleLinesModel_readCodes 51 = .ok (.iload_n 3, 1) := by decide +kernel
theorem d_TripleLinesModel_readCodes_52 : decode b_TripleLinesModel_readCodes 52 = .ok (.ifCond .lt 13, 3) := by decide +kernel
theorem d_TripleLinesModel_readCodes_55 : decode b_TripleLinesModel_readCodes 55 = .ok (.aload_n 0, 1) := by decide +kernel
theorem d_TripleLinesModel_readCodes_56 : decode b_TripleLinesModel_readCodes 56 = .ok (.iload_n 3, 1) := by decide +kernel
theorem d_TripleLinesModel_readCodes_57 : decode b_TripleLinesModel_readCodes 57 = .ok (.i2l, 1) := by decide +kernel
theorem d_TripleLinesModel_readCodes_58 : decode b_TripleLinesModel_readCodes 58 = .ok (.iconst 2, 1) := by decide +kernel
theorem d_TripleLinesModel_readCodes_59 : decode b_TripleLinesModel_readCodes 59 = .ok (.invokevirtual 166, 3) := by decide +kernel
theorem d_TripleLinesModel_readCodes_62 : decode b_TripleLinesModel_readCodes 62 = .ok (.goto 41, 3) := by decide +kernel
theorem d_TripleLinesModel_readCodes_65 : decode b_TripleLinesModel_readCodes 65 = .ok (.iload_n 2, 1) := by decide +kernel
theorem d_TripleLinesModel_readCodes_66 : decode b_TripleLinesModel_readCodes 66 = .ok (.ifCond .le 29, 3) := by decide +kernel
theorem d_TripleLinesModel_readCodes_69 : decode b_TripleLinesModel_readCodes 69 = .ok (.aload_n 0, 1) := by decide +kernel
theorem d_TripleLinesModel_readCodes_70 : decode b_TripleLinesModel_readCodes 70 = .ok (.iload_n 2, 1) := by decide +kernel
theorem d_TripleLinesModel_readCodes_71 : decode b_TripleLinesModel_readCodes 71 = .ok (.invokevirtual 155, 3) := by decide +kernel
theorem d_TripleLinesModel_readCodes_74 : decode b_TripleLinesModel_readCodes 74 = .ok (.invokestatic 159, 3) := by decide +kernel
theorem d_TripleLinesModel_readCodes_77 : decode b_TripleLinesModel_readCodes 77 = .ok (.ifCond .eq 18, 3) := by decide +kernel
theorem d_TripleLinesModel_readCodes_80 : decode b_TripleLinesModel_readCodes 80 = .ok (.aload_n 0, 1) := by decide +kernel
theorem d_TripleLinesModel_readCodes_81 : decode b_TripleLinesModel_readCodes 81 = .ok (.aload_n 0, 1) := by decide +kernel
theorem d_TripleLinesModel_readCodes_82 : decode b_TripleLinesModel_readCodes 82 = .ok (.iload_n 2, 1) := by decide +kernel
theorem d_TripleLinesModel_readCodes_83 : decode b_TripleLinesModel_readCodes 83 = .ok (.invokevirtual 155, 3) := by decide +kernel
theorem d_TripleLinesModel_readCodes_86 : decode b_TripleLinesModel_readCodes 86 = .ok (.iload_n 2, 1) := by decide +kernel
theorem d_TripleLinesModel_readCodes_87 : decode b_TripleLinesModel_readCodes 87 = .ok (.iconst 2, 1) := by decide +kernel
theorem d_TripleLinesModel_readCodes_88 : decode b_TripleLinesModel_readCodes 88 = .ok (.iadd, 1) := by decide +kernel
theorem d_TripleLinesModel_readCodes_89 : decode b_TripleLinesModel_readCodes 89 = .ok (.invokevirtual 166, 3) := by decide +kernel
theorem d_TripleLinesModel_readCodes_92 : decode b_TripleLinesModel_readCodes 92 = .ok (.goto 11, 3) := by decide +kernel
theorem d_TripleLinesModel_readCodes_95 : decode b_TripleLinesModel_readCodes 95 = .ok (.aload_n 0, 1) := by decide +kernel
theorem d_TripleLinesModel_readCodes_96 : decode b_TripleLinesModel_readCodes 96 = .ok (.aload_n 0, 1) := by decide +kernel
theorem d_TripleLinesModel_readCodes_97 : decode b_TripleLinesModel_readCodes 97 = .ok (.getfield 79, 3) := by decide +kernel
theorem d_TripleLinesModel_readCodes_100 : decode b_TripleLinesModel_readCodes 100 = .ok (.invokevirtual 94, 3) := by decide +kernel
theorem d_TripleLinesModel_readCodes_103 : decode b_TripleLinesModel_readCodes 103 = .ok (.goto 38, 3) := by decide +kernel
theorem d_TripleLinesModel_readCodes_106 : decode b_TripleLinesModel_readCodes 106 = .ok (.iload_n 1, 1) := by decide +kernel
theorem d_TripleLinesModel_readCodes_107 : decode b_TripleLinesModel_readCodes 107 = .ok (.bipush 9, 2) := by decide +kernel
theorem d_TripleLinesModel_readCodes_109 : decode b_TripleLinesModel_readCodes 109 = .ok (.if_icmp .eq 14, 3) := by decide +kernel
theorem d_TripleLinesModel_readCodes_112 : decode b_TripleLinesModel_readCodes 112 = .ok (.iload_n 1, 1) := by decide +kernel
theorem d_TripleLinesModel_readCodes_113 : decode b_TripleLinesModel_readCodes 113 = .ok (.bipush 32, 2) := by decide +kernel
theorem d_TripleLinesModel_readCodes_115 : decode b_TripleLinesModel_readCodes 115 = .ok (.bipush 126, 2) := by decide +kernel
theorem d_TripleLinesModel_readCodes_117 : decode b_TripleLinesModel_readCodes 117 = .ok (.invokestatic 63, 3) := by decide +kernel
theorem d_TripleLinesModel_readCodes_120 : decode b_TripleLinesModel_readCodes 120 = .ok (.ifCond .eq 13, 3) := by decide +kernel
theorem d_TripleLinesModel_readCodes_123 : decode b_TripleLinesModel_readCodes 123 = .ok (.aload_n 0, 1) := by decide +kernel
theorem d_TripleLinesModel_readCodes_124 : decode b_TripleLinesModel_readCodes 124 = .ok (.iload_n 1, 1) := by decide +kernel
theorem d_TripleLinesModel_readCodes_125 : decode b_TripleLinesModel_readCodes 125 = .ok (.i2l, 1) := by decide +kernel
theorem d_TripleLinesModel_readCodes_126 : decode b_TripleLinesModel_readCodes 126 = .ok (.iconst 1, 1) := by decide +kernel
theorem d_TripleLinesModel_readCodes_127 : decode b_TripleLinesModel_readCodes 127 = .ok (.invokevirtual 166, 3) := by decide +kernel
theorem d_TripleLinesModel_readCodes_130 : decode b_TripleLinesModel_readCodes 130 = .ok (.goto 11, 3) := by decide +kernel
theorem d_TripleLinesModel_readCodes_133 : decode b_TripleLinesModel_readCodes 133 = .ok (.aload_n 0, 1) := by decide +kernel
theorem d_TripleLinesModel_readCodes_134 : decode b_TripleLinesModel_readCodes 134 = .ok (.aload_n 0, 1) := by decide +kernel
theorem d_TripleLinesModel_readCodes_135 : decode b_TripleLinesModel_readCodes 135 = .ok (.getfield 79, 3) := by decide +kernel
theorem d_TripleLinesModel_readCodes_138 : decode b_TripleLinesModel_readCodes 138 = .ok (.invokevirtual 94, 3) := by decide +kernel
theorem d_TripleLinesModel_readCodes_141 : decode b_TripleLinesModel_readCodes 141 = .ok (.goto (-136), 3) := by decide +kernel
theorem d_TripleLinesModel_readCodes_144 : decode b_TripleLinesModel_readCodes 144 = .ok (.return_, 1) := by decide +kernel
set_option maxHeartbeats 4000000 in
set_option maxRecDepth 100000 in
theorem c_TripleLinesModel_readCodes (l : Launch) (D : va_G) (cI : ClassId) (mM : Nat) (tm : Int) (aT : Nat) (om : Int) (aO : Nat) (tn : Int) (aK : Nat) (aS : Nat) (aC : Nat) (aU : Nat) (aG : Nat) (aY : Nat) (aX : Nat) (qn : Int) (aP : Nat) (tr : Int) (rg : Int) (ll : Int) (p : Int) (f : Int) (ov : Int) (sz : Int) (aM : Nat) (tz : Int) (aA : Nat) (dm : Int) (aD : Nat) (aB : Nat) (aV : Nat) (aE : Nat) (fT : Nat → Int32) (MD : Nat → Int32) (f0 : Int) (p0 : Int) (h0 : 0 ≤ tm ∧ tm ≤ 3000) (hB : byt (lst (tI fT) tm)) (hS0 : ScI (lst (tI fT) tm) 2 tm f0 p0 p f 0 MD) (hf0 : f0 = -1 ∨ (0 ≤ f0 ∧ f0 ≤ tm)) : CtV l D [(cI, .int)] y_TripleLinesModel_readCodes b_TripleLinesModel_readCodes 4 4 [.ref mM] [(mM, .inr (6, [.int (iI tm), .ref aT, .int (iI om), .ref aO, .int (iI tn), .ref aK, .ref aS, .ref aC, .ref aU, .ref aG, .ref aY, .ref aX, .int (iI qn), .ref aP, .int (iI tr), .int (iI rg), .int (iI ll), .int (iI p), .int (iI f), .int (iI ov), .int (iI sz), .ref aM, .int (iI tz), .ref aA, .int (iI dm), .ref aD, .ref aB, .ref aV, .ref aE])), (aT, .inl (cI, 3000, .inl fT)), (aM, .inl (cI, 40, .inl MD))] (S := Int × Int × Int × (Nat → Int32)) (fun u => ScI (lst (tI fT) tm) 2 tm f0 p0 u.1 u.2.1 u.2.2.1 u.2.2.2 ∧ (u.2.1 < 0 → rd (lst (tI fT) tm) u.1 = 34)) (fun u => [(mM, .inr (6, [.int (iI tm), .ref aT, .int (iI om), .ref aO, .int (iI tn), .ref aK, .ref aS, .ref aC, .ref aU, .ref aG, .ref aY, .ref aX, .int (iI qn), .ref aP, .int (iI tr), .int (iI rg), .int (iI ll), .int (iI u.1), .int (iI u.2.1), .int (iI ov), .int (iI u.2.2.1), .ref aM, .int (iI tz), .ref aA, .int (iI dm), .ref aD, .ref aB, .ref aV, .ref aE])), (aT, .inl (cI, 3000, .inl fT)), (aM, .inl (cI, 40, .inl u.2.2.2))]) := by
  refine CtV.walk (by decide) (Nat.le_of_ble_eq_true rfl) ?_
  intro xp xe0 xs xm xar xbelow xmeth xc xA0 xQ xe xb xml xo xt xP xK xD xA xret ls xl xS
  have xl : lv_has ls 4 [(0, .ref mM)] := xl
  have xo : xs.vm.findClass R_TripleLinesModel = some xm.cls := xo
  have hL : (((lst (tI fT) tm)).length : Int) = tm := by rw [lst_length]; omega
  refine lv_aload_n xe xb d_TripleLinesModel_readCodes_0 rfl (lv_at xl 0 rfl) ?_
  refine lv_iconst (v := iI (0)) xe xb d_TripleLinesModel_readCodes_1 rfl ?_
  refine va_put (D := D) (ci := 6) (v := .int (iI 0)) (ty := .int) (C := R_TripleLinesModel) (T := F_TripleLinesModel) (N := 29) xe xb xt i_TripleLinesModel t_TripleLinesModel t_TripleLinesModel_ok n_TripleLinesModel xo xK xP xD xS 0 rfl rfl 20 (by decide) (xt _ mw_TripleLinesModel_129) (fun _ h9 => h9) rfl (by decide +kernel) rfl rfl (Nat.le_of_ble_eq_true rfl) d_TripleLinesModel_readCodes_2 ?_
  clear xP xD xS
  intro H locs xP xD xS
  replace xP : va_P D classes [(mM, .inr (6, [.int (iI tm), .ref aT, .int (iI om), .ref aO, .int (iI tn), .ref aK, .ref aS, .ref aC, .ref aU, .ref aG, .ref aY, .ref aX, .int (iI qn), .ref aP, .int (iI tr), .int (iI rg), .int (iI ll), .int (iI p), .int (iI f), .int (iI ov), .int (iI 0), .ref aM, .int (iI tz), .ref aA, .int (iI dm), .ref aD, .ref aB, .ref aV, .ref aE])), (aT, .inl (cI, 3000, .inl fT)), (aM, .inl (cI, 40, .inl MD))] H := xP
  replace xD : va_D xA0 [(mM, .inr (6, [.int (iI tm), .ref aT, .int (iI om), .ref aO, .int (iI tn), .ref aK, .ref aS, .ref aC, .ref aU, .ref aG, .ref aY, .ref aX, .int (iI qn), .ref aP, .int (iI tr), .int (iI rg), .int (iI ll), .int (iI p), .int (iI f), .int (iI ov), .int (iI 0), .ref aM, .int (iI tz), .ref aA, .int (iI dm), .ref aD, .ref aB, .ref aV, .ref aE])), (aT, .inl (cI, 3000, .inl fT)), (aM, .inl (cI, 40, .inl MD))] := xD
  have loop_5 : ∀ (n9 : Nat) (pv : Int) (fv : Int) (sv : Int) (MDv : Nat → Int32), msr tm pv fv < n9 → (ScI (lst (tI fT) tm) 2 tm f0 p0 pv fv sv MDv) → ∀ (H : Heap) (locs : List Loc), va_P D classes [(mM, .inr (6, [.int (iI tm), .ref aT, .int (iI om), .ref aO, .int (iI tn), .ref aK, .ref aS, .ref aC, .ref aU, .ref aG, .ref aY, .ref aX, .int (iI qn), .ref aP, .int (iI tr), .int (iI rg), .int (iI ll), .int (iI pv), .int (iI fv), .int (iI ov), .int (iI sv), .ref aM, .int (iI tz), .ref aA, .int (iI dm), .ref aD, .ref aB, .ref aV, .ref aE])), (aT, .inl (cI, 3000, .inl fT)), (aM, .inl (cI, 40, .inl MDv))] H → va_D xA0 [(mM, .inr (6, [.int (iI tm), .ref aT, .int (iI om), .ref aO, .int (iI tn), .ref aK, .ref aS, .ref aC, .ref aU, .ref aG, .ref aY, .ref aX, .int (iI qn), .ref aP, .int (iI tr), .int (iI rg), .int (iI ll), .int (iI pv), .int (iI fv), .int (iI ov), .int (iI sv), .ref aM, .int (iI tz), .ref aA, .int (iI dm), .ref aD, .ref aB, .ref aV, .ref aE])), (aT, .inl (cI, 3000, .inl fT)), (aM, .inl (cI, 40, .inl MDv))] → va_S xA0 xs.heap H locs → ∀ ls : Array Slot, lv_has ls 4 [(0, .ref mM)] → W xp l xe0 (tk_rm 4) xs xm xar xbelow xmeth xc H locs 0 0 xQ (F0 xm 5 ls []) := by
    intro n9
    induction n9 with
    | zero => intro pv fv sv MDv h9; exact absurd h9 (Nat.not_lt_zero _)
    | succ n9 ih9 =>
      intro pv fv sv MDv hm9 hS H locs xP xD xS ls xl
      have ih_5 := ih9
      have hm_5 := hm9
      have hS1 := hS.1
      have hS2 := hS.2.1
      have hSf := ScI_f hS
      refine lv_aload_n xe xb d_TripleLinesModel_readCodes_5 rfl (lv_at xl 0 rfl) ?_
      refine tk_callVi (As := []) (rest := []) (wr := [(aT, .inl (cI, 3000, .inl fT)), (aM, .inl (cI, 40, .inl MDv))]) (wn := fun u => [(mM, .inr (6, [.int (iI tm), .ref aT, .int (iI om), .ref aO, .int (iI tn), .ref aK, .ref aS, .ref aC, .ref aU, .ref aG, .ref aY, .ref aX, .int (iI qn), .ref aP, .int (iI tr), .int (iI rg), .int (iI ll), .int (iI pv), .int (iI fv), .int (iI ov), .int (iI sv), .ref aM, .int (iI tz), .ref aA, .int (iI dm), .ref aD, .ref aB, .ref aV, .ref aE])), (aT, .inl (cI, 3000, .inl fT)), (aM, .inl (cI, 40, .inl MDv))]) ⟨xe, xb, xml, xo, xt⟩ (c_TripleLinesModel_goes l D cI mM tm aT om aO tn aK aS aC aU aG aY aX qn aP tr rg ll pv fv ov sv aM tz aA dm aD aB aV aE (by first | assumption | omega)) k_TripleLinesModel_goes mw_TripleLinesModel_86 ⟨Nat.le_of_ble_eq_true rfl, Nat.le_of_ble_eq_true rfl⟩ xK xP xD xS xA rfl xl.1 rfl (Nat.le_of_ble_eq_true rfl) d_TripleLinesModel_readCodes_6 ⟨Nat.zero_le _, Nat.zero_le _⟩ [0] [1, 2] [2, 0, 1] rfl rfl (by decide) (by decide) (by decide) (by decide) (fun _ => rfl) rfl rfl rfl ?_
      clear xP xD xS
      intro z_2 u H locs hr_3 hw_1 xP xD xS
      try dsimp only at hw_1
      replace xP : va_P D classes [(mM, .inr (6, [.int (iI tm), .ref aT, .int (iI om), .ref aO, .int (iI tn), .ref aK, .ref aS, .ref aC, .ref aU, .ref aG, .ref aY, .ref aX, .int (iI qn), .ref aP, .int (iI tr), .int (iI rg), .int (iI ll), .int (iI pv), .int (iI fv), .int (iI ov), .int (iI sv), .ref aM, .int (iI tz), .ref aA, .int (iI dm), .ref aD, .ref aB, .ref aV, .ref aE])), (aT, .inl (cI, 3000, .inl fT)), (aM, .inl (cI, 40, .inl MDv))] H := xP
      replace xD : va_D xA0 [(mM, .inr (6, [.int (iI tm), .ref aT, .int (iI om), .ref aO, .int (iI tn), .ref aK, .ref aS, .ref aC, .ref aU, .ref aG, .ref aY, .ref aX, .int (iI qn), .ref aP, .int (iI tr), .int (iI rg), .int (iI ll), .int (iI pv), .int (iI fv), .int (iI ov), .int (iI sv), .ref aM, .int (iI tz), .ref aA, .int (iI dm), .ref aD, .ref aB, .ref aV, .ref aE])), (aT, .inl (cI, 3000, .inl fT)), (aM, .inl (cI, 40, .inl MDv))] := xD
      rcases hw_1 with ⟨rfl, Hg⟩ | ⟨rfl, Hg⟩
      · refine tk_if_eq (tgt := 144) xe xb d_TripleLinesModel_readCodes_9 (by decide) (by omega) (fun c_4 => absurd c_4 (by omega)) (fun c_4 => ?_)
        refine lv_aload_n xe xb d_TripleLinesModel_readCodes_12 rfl (lv_at xl 0 rfl) ?_
        refine tk_callVi (As := []) (rest := []) (wr := [(aM, .inl (cI, 40, .inl MDv))]) (wn := fun u => [(mM, .inr (6, [.int (iI tm), .ref aT, .int (iI om), .ref aO, .int (iI tn), .ref aK, .ref aS, .ref aC, .ref aU, .ref aG, .ref aY, .ref aX, .int (iI qn), .ref aP, .int (iI tr), .int (iI rg), .int (iI ll), .int (iI pv), .int (iI fv), .int (iI ov), .int (iI sv), .ref aM, .int (iI tz), .ref aA, .int (iI dm), .ref aD, .ref aB, .ref aV, .ref aE])), (aT, .inl (cI, 3000, .inl fT)), (aM, .inl (cI, 40, .inl MDv))]) ⟨xe, xb, xml, xo, xt⟩ (c_TripleLinesModel_peek l D cI mM tm aT om aO tn aK aS aC aU aG aY aX qn aP tr rg ll pv fv ov sv aM tz aA dm aD aB aV aE fT (by first | assumption | omega) (by first | assumption | omega)) k_TripleLinesModel_peek mw_TripleLinesModel_90 ⟨Nat.le_of_ble_eq_true rfl, Nat.le_of_ble_eq_true rfl⟩ xK xP xD xS xA rfl xl.1 rfl (Nat.le_of_ble_eq_true rfl) d_TripleLinesModel_readCodes_13 ⟨Nat.zero_le _, Nat.zero_le _⟩ [0, 1] [2] [1, 2, 0] rfl rfl (by decide) (by decide) (by decide) (by decide) (fun _ => rfl) rfl rfl rfl ?_
        clear xP xD xS
        intro z_6 u H locs hr_7 hw_5 xP xD xS
        try dsimp only at hw_5
        replace xP : va_P D classes [(mM, .inr (6, [.int (iI tm), .ref aT, .int (iI om), .ref aO, .int (iI tn), .ref aK, .ref aS, .ref aC, .ref aU, .ref aG, .ref aY, .ref aX, .int (iI qn), .ref aP, .int (iI tr), .int (iI rg), .int (iI ll), .int (iI pv), .int (iI fv), .int (iI ov), .int (iI sv), .ref aM, .int (iI tz), .ref aA, .int (iI dm), .ref aD, .ref aB, .ref aV, .ref aE])), (aT, .inl (cI, 3000, .inl fT)), (aM, .inl (cI, 40, .inl MDv))] H := xP
        replace xD : va_D xA0 [(mM, .inr (6, [.int (iI tm), .ref aT, .int (iI om), .ref aO, .int (iI tn), .ref aK, .ref aS, .ref aC, .ref aU, .ref aG, .ref aY, .ref aX, .int (iI qn), .ref aP, .int (iI tr), .int (iI rg), .int (iI ll), .int (iI pv), .int (iI fv), .int (iI ov), .int (iI sv), .ref aM, .int (iI tz), .ref aA, .int (iI dm), .ref aD, .ref aB, .ref aV, .ref aE])), (aT, .inl (cI, 3000, .inl fT)), (aM, .inl (cI, 40, .inl MDv))] := xD
        have HP1 := hw_5
        refine lv_bipush (v := iI (34)) xe xb d_TripleLinesModel_readCodes_16 (by decide) ?_
        refine tk_icmp_eq (tgt := 144) xe xb d_TripleLinesModel_readCodes_18 (by decide) (by omega) (fun C18 => ?_) (fun C18 => ?_)
        · exact xret _ _ _ _ (pv, fv, sv, MDv) d_TripleLinesModel_readCodes_144 (by first | exact (⟨hS, fun _ => HP1.symm.trans C18⟩) | (dsimp only; exact (⟨hS, fun _ => HP1.symm.trans C18⟩))) xP xD xS
        · refine lv_aload_n xe xb d_TripleLinesModel_readCodes_21 rfl (lv_at xl 0 rfl) ?_
          refine tk_callVi (As := []) (rest := []) (wr := [(aM, .inl (cI, 40, .inl MDv))]) (wn := fun u => [(mM, .inr (6, [.int (iI tm), .ref aT, .int (iI om), .ref aO, .int (iI tn), .ref aK, .ref aS, .ref aC, .ref aU, .ref aG, .ref aY, .ref aX, .int (iI qn), .ref aP, .int (iI tr), .int (iI rg), .int (iI ll), .int (iI pv), .int (iI fv), .int (iI ov), .int (iI sv), .ref aM, .int (iI tz), .ref aA, .int (iI dm), .ref aD, .ref aB, .ref aV, .ref aE])), (aT, .inl (cI, 3000, .inl fT)), (aM, .inl (cI, 40, .inl MDv))]) ⟨xe, xb, xml, xo, xt⟩ (c_TripleLinesModel_peek l D cI mM tm aT om aO tn aK aS aC aU aG aY aX qn aP tr rg ll pv fv ov sv aM tz aA dm aD aB aV aE fT (by first | assumption | omega) (by first | assumption | omega)) k_TripleLinesModel_peek mw_TripleLinesModel_90 ⟨Nat.le_of_ble_eq_true rfl, Nat.le_of_ble_eq_true rfl⟩ xK xP xD xS xA rfl xl.1 rfl (Nat.le_of_ble_eq_true rfl) d_TripleLinesModel_readCodes_22 ⟨Nat.zero_le _, Nat.zero_le _⟩ [0, 1] [2] [1, 2, 0] rfl rfl (by decide) (by decide) (by decide) (by decide) (fun _ => rfl) rfl rfl rfl ?_
          clear xP xD xS
          intro z_9 u H locs hr_10 hw_8 xP xD xS
          try dsimp only at hw_8
          replace xP : va_P D classes [(mM, .inr (6, [.int (iI tm), .ref aT, .int (iI om), .ref aO, .int (iI tn), .ref aK, .ref aS, .ref aC, .ref aU, .ref aG, .ref aY, .ref aX, .int (iI qn), .ref aP, .int (iI tr), .int (iI rg), .int (iI ll), .int (iI pv), .int (iI fv), .int (iI ov), .int (iI sv), .ref aM, .int (iI tz), .ref aA, .int (iI dm), .ref aD, .ref aB, .ref aV, .ref aE])), (aT, .inl (cI, 3000, .inl fT)), (aM, .inl (cI, 40, .inl MDv))] H := xP
          replace xD : va_D xA0 [(mM, .inr (6, [.int (iI tm), .ref aT, .int (iI om), .ref aO, .int (iI tn), .ref aK, .ref aS, .ref aC, .ref aU, .ref aG, .ref aY, .ref aX, .int (iI qn), .ref aP, .int (iI tr), .int (iI rg), .int (iI ll), .int (iI pv), .int (iI fv), .int (iI ov), .int (iI sv), .ref aM, .int (iI tz), .ref aA, .int (iI dm), .ref aD, .ref aB, .ref aV, .ref aE])), (aT, .inl (cI, 3000, .inl fT)), (aM, .inl (cI, 40, .inl MDv))] := xD
          have HP2 := hw_8
          have hbt := rd_byt hB pv
          rw [← HP2] at hbt
          refine lv_istore_n (lv' := [(1, .int (iI z_9)), (0, .ref mM)]) xe xb d_TripleLinesModel_readCodes_25 rfl xl (by decide) rfl ?_
          clear xl
          intro ls xl
          refine lv_iload_n xe xb d_TripleLinesModel_readCodes_26 rfl (lv_at xl 0 rfl) ?_
          refine lv_bipush (v := iI (92)) xe xb d_TripleLinesModel_readCodes_27 (by decide) ?_
          refine tk_icmp_ne (tgt := 106) xe xb d_TripleLinesModel_readCodes_29 (by decide) (by omega) (fun C29 => ?_) (fun C29 => ?_)
          · refine lv_iload_n xe xb d_TripleLinesModel_readCodes_106 rfl (lv_at xl 0 rfl) ?_
            refine lv_bipush (v := iI (9)) xe xb d_TripleLinesModel_readCodes_107 (by decide) ?_
            refine tk_icmp_eq (tgt := 123) xe xb d_TripleLinesModel_readCodes_109 (by decide) (by omega) (fun C109 => ?_) (fun C109 => ?_)
            · refine lv_aload_n xe xb d_TripleLinesModel_readCodes_123 rfl (lv_at xl 1 rfl) ?_
              refine lv_iload_n xe xb d_TripleLinesModel_readCodes_124 rfl (lv_at xl 0 rfl) ?_
              refine tk_i2l xe xb d_TripleLinesModel_readCodes_125 (by omega) ?_
              refine lv_iconst (v := iI (1)) xe xb d_TripleLinesModel_readCodes_126 rfl ?_
              refine tk_callVv (As := [.long (jI z_9), .int (iI 1)]) (rest := []) (wr := [(aT, .inl (cI, 3000, .inl fT))]) (wn := fun u => [(mM, .inr (6, [.int (iI tm), .ref aT, .int (iI om), .ref aO, .int (iI tn), .ref aK, .ref aS, .ref aC, .ref aU, .ref aG, .ref aY, .ref aX, .int (iI qn), .ref aP, .int (iI tr), .int (iI rg), .int (iI ll), .int (iI u.1), .int (iI u.2.1), .int (iI ov), .int (iI u.2.2.1), .ref aM, .int (iI tz), .ref aA, .int (iI dm), .ref aD, .ref aB, .ref aV, .ref aE])), (aT, .inl (cI, 3000, .inl fT)), (aM, .inl (cI, 40, .inl u.2.2.2))]) ⟨xe, xb, xml, xo, xt⟩ (c_TripleLinesModel_take l D cI mM tm aT om aO tn aK aS aC aU aG aY aX qn aP tr rg ll pv fv ov sv aM tz aA dm aD aB aV aE MDv z_9 1 (by first | assumption | omega) (by first | assumption | omega)) k_TripleLinesModel_take mw_TripleLinesModel_166 ⟨Nat.le_of_ble_eq_true rfl, Nat.le_of_ble_eq_true rfl⟩ xK xP xD xS xA rfl xl.1 rfl (Nat.le_of_ble_eq_true rfl) d_TripleLinesModel_readCodes_127 ⟨Nat.zero_le _, Nat.zero_le _⟩ [0, 2] [1] [1, 0, 2] rfl rfl (by decide) (by decide) (by decide) (by decide) (fun _ => rfl) rfl rfl rfl ?_
              clear xP xD xS
              intro u H locs hw_15 xP xD xS
              obtain ⟨p2_11, f2_12, sz2_13, MD2_14⟩ := u
              try dsimp only at hw_15
              replace xP : va_P D classes [(mM, .inr (6, [.int (iI tm), .ref aT, .int (iI om), .ref aO, .int (iI tn), .ref aK, .ref aS, .ref aC, .ref aU, .ref aG, .ref aY, .ref aX, .int (iI qn), .ref aP, .int (iI tr), .int (iI rg), .int (iI ll), .int (iI p2_11), .int (iI f2_12), .int (iI ov), .int (iI sz2_13), .ref aM, .int (iI tz), .ref aA, .int (iI dm), .ref aD, .ref aB, .ref aV, .ref aE])), (aT, .inl (cI, 3000, .inl fT)), (aM, .inl (cI, 40, .inl MD2_14))] H := xP
              replace xD : va_D xA0 [(mM, .inr (6, [.int (iI tm), .ref aT, .int (iI om), .ref aO, .int (iI tn), .ref aK, .ref aS, .ref aC, .ref aU, .ref aG, .ref aY, .ref aX, .int (iI qn), .ref aP, .int (iI tr), .int (iI rg), .int (iI ll), .int (iI p2_11), .int (iI f2_12), .int (iI ov), .int (iI sz2_13), .ref aM, .int (iI tz), .ref aA, .int (iI dm), .ref aD, .ref aB, .ref aV, .ref aE])), (aT, .inl (cI, 3000, .inl fT)), (aM, .inl (cI, 40, .inl MD2_14))] := xD
              have HT := hw_15
              refine lv_goto (tgt := 141) xe xb d_TripleLinesModel_readCodes_130 (by decide) ?_
              have hS9 := ScI_take hL hS Hg (by rw [← HP1]; exact C18) (sk_raw2y HP2 C29 (Or.inl C109)) (by omega) HT
              have hd9 := ScI_adv hS9 hS1.1 Hg (by omega) HT
              clear HT
              refine lv_goto (tgt := 5) xe xb d_TripleLinesModel_readCodes_141 (by decide) ?_
              exact ih_5 p2_11 f2_12 sz2_13 MD2_14 (msr_dec Hg hm_5 hd9) hS9 _ _ xP xD xS ls (lv_sub xl [1] rfl)
            · refine lv_iload_n xe xb d_TripleLinesModel_readCodes_112 rfl (lv_at xl 0 rfl) ?_
              refine lv_bipush (v := iI (32)) xe xb d_TripleLinesModel_readCodes_113 (by decide) ?_
              refine lv_bipush (v := iI (126)) xe xb d_TripleLinesModel_readCodes_115 (by decide) ?_
              refine tk_callSi (As := [.int (iI z_9), .int (iI 32), .int (iI 126)]) (rest := []) (wr := [(mM, .inr (6, [.int (iI tm), .ref aT, .int (iI om), .ref aO, .int (iI tn), .ref aK, .ref aS, .ref aC, .ref aU, .ref aG, .ref aY, .ref aX, .int (iI qn), .ref aP, .int (iI tr), .int (iI rg), .int (iI ll), .int (iI pv), .int (iI fv), .int (iI ov), .int (iI sv), .ref aM, .int (iI tz), .ref aA, .int (iI dm), .ref aD, .ref aB, .ref aV, .ref aE])), (aT, .inl (cI, 3000, .inl fT)), (aM, .inl (cI, 40, .inl MDv))]) (wn := fun u => [(mM, .inr (6, [.int (iI tm), .ref aT, .int (iI om), .ref aO, .int (iI tn), .ref aK, .ref aS, .ref aC, .ref aU, .ref aG, .ref aY, .ref aX, .int (iI qn), .ref aP, .int (iI tr), .int (iI rg), .int (iI ll), .int (iI pv), .int (iI fv), .int (iI ov), .int (iI sv), .ref aM, .int (iI tz), .ref aA, .int (iI dm), .ref aD, .ref aB, .ref aV, .ref aE])), (aT, .inl (cI, 3000, .inl fT)), (aM, .inl (cI, 40, .inl MDv))]) ⟨xe, xb, xml, xo, xt⟩ (c_TripleLinesModel_in l D cI z_9 32 126 (by first | assumption | omega) (by first | assumption | omega) (by first | assumption | omega)) k_TripleLinesModel_in mw_TripleLinesModel_63 ⟨Nat.le_of_ble_eq_true rfl, Nat.le_of_ble_eq_true rfl⟩ xK xP xD xS xA rfl xl.1 rfl (Nat.le_of_ble_eq_true rfl) d_TripleLinesModel_readCodes_117 ⟨Nat.zero_le _, Nat.zero_le _⟩ [] [0, 1, 2] [0, 1, 2] rfl rfl (by decide) (by decide) (by decide) (by decide) (fun _ => rfl) ?_
              clear xP xD xS
              intro z_18 u H locs hr_19 hw_17 xP xD xS
              try dsimp only at hw_17
              replace xP : va_P D classes [(mM, .inr (6, [.int (iI tm), .ref aT, .int (iI om), .ref aO, .int (iI tn), .ref aK, .ref aS, .ref aC, .ref aU, .ref aG, .ref aY, .ref aX, .int (iI qn), .ref aP, .int (iI tr), .int (iI rg), .int (iI ll), .int (iI pv), .int (iI fv), .int (iI ov), .int (iI sv), .ref aM, .int (iI tz), .ref aA, .int (iI dm), .ref aD, .ref aB, .ref aV, .ref aE])), (aT, .inl (cI, 3000, .inl fT)), (aM, .inl (cI, 40, .inl MDv))] H := xP
              replace xD : va_D xA0 [(mM, .inr (6, [.int (iI tm), .ref aT, .int (iI om), .ref aO, .int (iI tn), .ref aK, .ref aS, .ref aC, .ref aU, .ref aG, .ref aY, .ref aX, .int (iI qn), .ref aP, .int (iI tr), .int (iI rg), .int (iI ll), .int (iI pv), .int (iI fv), .int (iI ov), .int (iI sv), .ref aM, .int (iI tz), .ref aA, .int (iI dm), .ref aD, .ref aB, .ref aV, .ref aE])), (aT, .inl (cI, 3000, .inl fT)), (aM, .inl (cI, 40, .inl MDv))] := xD
              rcases hw_17 with ⟨rfl, Hi⟩ | ⟨rfl, Hi⟩
              · refine tk_if_eq (tgt := 133) xe xb d_TripleLinesModel_readCodes_120 (by decide) (by omega) (fun c_20 => absurd c_20 (by omega)) (fun c_20 => ?_)
                refine lv_aload_n xe xb d_TripleLinesModel_readCodes_123 rfl (lv_at xl 1 rfl) ?_
                refine lv_iload_n xe xb d_TripleLinesModel_readCodes_124 rfl (lv_at xl 0 rfl) ?_
                refine tk_i2l xe xb d_TripleLinesModel_readCodes_125 (by omega) ?_
                refine lv_iconst (v := iI (1)) xe xb d_TripleLinesModel_readCodes_126 rfl ?_
                refine tk_callVv (As := [.long (jI z_9), .int (iI 1)]) (rest := []) (wr := [(aT, .inl (cI, 3000, .inl fT))]) (wn := fun u => [(mM, .inr (6, [.int (iI tm), .ref aT, .int (iI om), .ref aO, .int (iI tn), .ref aK, .ref aS, .ref aC, .ref aU, .ref aG, .ref aY, .ref aX, .int (iI qn), .ref aP, .int (iI tr), .int (iI rg), .int (iI ll), .int (iI u.1), .int (iI u.2.1), .int (iI ov), .int (iI u.2.2.1), .ref aM, .int (iI tz), .ref aA, .int (iI dm), .ref aD, .ref aB, .ref aV, .ref aE])), (aT, .inl (cI, 3000, .inl fT)), (aM, .inl (cI, 40, .inl u.2.2.2))]) ⟨xe, xb, xml, xo, xt⟩ (c_TripleLinesModel_take l D cI mM tm aT om aO tn aK aS aC aU aG aY aX qn aP tr rg ll pv fv ov sv aM tz aA dm aD aB aV aE MDv z_9 1 (by first | assumption | omega) (by first | assumption | omega)) k_TripleLinesModel_take mw_TripleLinesModel_166 ⟨Nat.le_of_ble_eq_true rfl, Nat.le_of_ble_eq_true rfl⟩ xK xP xD xS xA rfl xl.1 rfl (Nat.le_of_ble_eq_true rfl) d_TripleLinesModel_readCodes_127 ⟨Nat.zero_le _, Nat.zero_le _⟩ [0, 2] [1] [1, 0, 2] rfl rfl (by decide) (by decide) (by decide) (by decide) (fun _ => rfl) rfl rfl rfl ?_
                clear xP xD xS
                intro u H locs hw_25 xP xD xS
                obtain ⟨p2_21, f2_22, sz2_23, MD2_24⟩ := u
                try dsimp only at hw_25
                replace xP : va_P D classes [(mM, .inr (6, [.int (iI tm), .ref aT, .int (iI om), .ref aO, .int (iI tn), .ref aK, .ref aS, .ref aC, .ref aU, .ref aG, .ref aY, .ref aX, .int (iI qn), .ref aP, .int (iI tr), .int (iI rg), .int (iI ll), .int (iI p2_21), .int (iI f2_22), .int (iI ov), .int (iI sz2_23), .ref aM, .int (iI tz), .ref aA, .int (iI dm), .ref aD, .ref aB, .ref aV, .ref aE])), (aT, .inl (cI, 3000, .inl fT)), (aM, .inl (cI, 40, .inl MD2_24))] H := xP
                replace xD : va_D xA0 [(mM, .inr (6, [.int (iI tm), .ref aT, .int (iI om), .ref aO, .int (iI tn), .ref aK, .ref aS, .ref aC, .ref aU, .ref aG, .ref aY, .ref aX, .int (iI qn), .ref aP, .int (iI tr), .int (iI rg), .int (iI ll), .int (iI p2_21), .int (iI f2_22), .int (iI ov), .int (iI sz2_23), .ref aM, .int (iI tz), .ref aA, .int (iI dm), .ref aD, .ref aB, .ref aV, .ref aE])), (aT, .inl (cI, 3000, .inl fT)), (aM, .inl (cI, 40, .inl MD2_24))] := xD
                have HT := hw_25
                refine lv_goto (tgt := 141) xe xb d_TripleLinesModel_readCodes_130 (by decide) ?_
                have hS9 := ScI_take hL hS Hg (by rw [← HP1]; exact C18) (sk_raw2y HP2 C29 (Or.inr Hi)) (by omega) HT
                have hd9 := ScI_adv hS9 hS1.1 Hg (by omega) HT
                clear HT
                refine lv_goto (tgt := 5) xe xb d_TripleLinesModel_readCodes_141 (by decide) ?_
                exact ih_5 p2_21 f2_22 sz2_23 MD2_24 (msr_dec Hg hm_5 hd9) hS9 _ _ xP xD xS ls (lv_sub xl [1] rfl)
              · refine tk_if_eq (tgt := 133) xe xb d_TripleLinesModel_readCodes_120 (by decide) (by omega) (fun c_27 => ?_) (fun c_27 => absurd c_27 (by omega))
                refine lv_aload_n xe xb d_TripleLinesModel_readCodes_133 rfl (lv_at xl 1 rfl) ?_
                refine lv_aload_n xe xb d_TripleLinesModel_readCodes_134 rfl (lv_at xl 1 rfl) ?_
                refine va_get (D := D) (ci := 6) (v := .int (iI pv)) (C := R_TripleLinesModel) (T := F_TripleLinesModel) (N := 29) xe xb xt i_TripleLinesModel xo xK xP 0 rfl rfl 17 (by decide) (xt _ mw_TripleLinesModel_79) (fun _ h9 => h9) rfl d_TripleLinesModel_readCodes_135 ?_
                refine tk_callVv (As := [.int (iI pv)]) (rest := []) (wr := [(aT, .inl (cI, 3000, .inl fT)), (aM, .inl (cI, 40, .inl MDv))]) (wn := fun u => [(mM, .inr (6, [.int (iI tm), .ref aT, .int (iI om), .ref aO, .int (iI tn), .ref aK, .ref aS, .ref aC, .ref aU, .ref aG, .ref aY, .ref aX, .int (iI qn), .ref aP, .int (iI tr), .int (iI rg), .int (iI ll), .int (iI pv), .int (iI u), .int (iI ov), .int (iI sv), .ref aM, .int (iI tz), .ref aA, .int (iI dm), .ref aD, .ref aB, .ref aV, .ref aE])), (aT, .inl (cI, 3000, .inl fT)), (aM, .inl (cI, 40, .inl MDv))]) ⟨xe, xb, xml, xo, xt⟩ (c_TripleLinesModel_fail l D cI mM tm aT om aO tn aK aS aC aU aG aY aX qn aP tr rg ll pv fv ov sv aM tz aA dm aD aB aV aE pv (by first | assumption | omega)) k_TripleLinesModel_fail mw_TripleLinesModel_94 ⟨Nat.le_of_ble_eq_true rfl, Nat.le_of_ble_eq_true rfl⟩ xK xP xD xS xA rfl xl.1 rfl (Nat.le_of_ble_eq_true rfl) d_TripleLinesModel_readCodes_138 ⟨Nat.zero_le _, Nat.zero_le _⟩ [0] [1, 2] [2, 0, 1] rfl rfl (by decide) (by decide) (by decide) (by decide) (fun _ => rfl) rfl rfl rfl ?_
                clear xP xD xS
                intro u H locs hw_29 xP xD xS
                obtain ⟨f2_28, rfl⟩ : ∃ v, v = u := ⟨_, rfl⟩
                try dsimp only at hw_29
                replace xP : va_P D classes [(mM, .inr (6, [.int (iI tm), .ref aT, .int (iI om), .ref aO, .int (iI tn), .ref aK, .ref aS, .ref aC, .ref aU, .ref aG, .ref aY, .ref aX, .int (iI qn), .ref aP, .int (iI tr), .int (iI rg), .int (iI ll), .int (iI pv), .int (iI f2_28), .int (iI ov), .int (iI sv), .ref aM, .int (iI tz), .ref aA, .int (iI dm), .ref aD, .ref aB, .ref aV, .ref aE])), (aT, .inl (cI, 3000, .inl fT)), (aM, .inl (cI, 40, .inl MDv))] H := xP
                replace xD : va_D xA0 [(mM, .inr (6, [.int (iI tm), .ref aT, .int (iI om), .ref aO, .int (iI tn), .ref aK, .ref aS, .ref aC, .ref aU, .ref aG, .ref aY, .ref aX, .int (iI qn), .ref aP, .int (iI tr), .int (iI rg), .int (iI ll), .int (iI pv), .int (iI f2_28), .int (iI ov), .int (iI sv), .ref aM, .int (iI tz), .ref aA, .int (iI dm), .ref aD, .ref aB, .ref aV, .ref aE])), (aT, .inl (cI, 3000, .inl fT)), (aM, .inl (cI, 40, .inl MDv))] := xD
                have HF := hw_29
                have hS9 := ScI_bad hS Hg (by rw [← HP1]; exact C18) (sk_raw2n HP2 C29 (fun h => h.elim C109 Hi)) HF
                have hd9 := bad_adv (n := tm) (q := pv) Hg hS1.1 HF
                clear HF
                refine lv_goto (tgt := 5) xe xb d_TripleLinesModel_readCodes_141 (by decide) ?_
                exact ih_5 pv f2_28 sv MDv (msr_dec Hg hm_5 hd9) hS9 _ _ xP xD xS ls (lv_sub xl [1] rfl)
          · refine lv_aload_n xe xb d_TripleLinesModel_readCodes_32 rfl (lv_at xl 1 rfl) ?_
            refine tk_callVi (As := []) (rest := []) (wr := [(aM, .inl (cI, 40, .inl MDv))]) (wn := fun u => [(mM, .inr (6, [.int (iI tm), .ref aT, .int (iI om), .ref aO, .int (iI tn), .ref aK, .ref aS, .ref aC, .ref aU, .ref aG, .ref aY, .ref aX, .int (iI qn), .ref aP, .int (iI tr), .int (iI rg), .int (iI ll), .int (iI pv), .int (iI fv), .int (iI ov), .int (iI sv), .ref aM, .int (iI tz), .ref aA, .int (iI dm), .ref aD, .ref aB, .ref aV, .ref aE])), (aT, .inl (cI, 3000, .inl fT)), (aM, .inl (cI, 40, .inl MDv))]) ⟨xe, xb, xml, xo, xt⟩ (c_TripleLinesModel_digits l D cI mM tm aT om aO tn aK aS aC aU aG aY aX qn aP tr rg ll pv fv ov sv aM tz aA dm aD aB aV aE fT (by first | assumption | omega) (by first | assumption | omega)) k_TripleLinesModel_digits mw_TripleLinesModel_152 ⟨Nat.le_of_ble_eq_true rfl, Nat.le_of_ble_eq_true rfl⟩ xK xP xD xS xA rfl xl.1 rfl (Nat.le_of_ble_eq_true rfl) d_TripleLinesModel_readCodes_33 ⟨Nat.zero_le _, Nat.zero_le _⟩ [0, 1] [2] [1, 2, 0] rfl rfl (by decide) (by decide) (by decide) (by decide) (fun _ => rfl) rfl rfl rfl ?_
            clear xP xD xS
            intro z_32 u H locs hr_33 hw_31 xP xD xS
            try dsimp only at hw_31
            replace xP : va_P D classes [(mM, .inr (6, [.int (iI tm), .ref aT, .int (iI om), .ref aO, .int (iI tn), .ref aK, .ref aS, .ref aC, .ref aU, .ref aG, .ref aY, .ref aX, .int (iI qn), .ref aP, .int (iI tr), .int (iI rg), .int (iI ll), .int (iI pv), .int (iI fv), .int (iI ov), .int (iI sv), .ref aM, .int (iI tz), .ref aA, .int (iI dm), .ref aD, .ref aB, .ref aV, .ref aE])), (aT, .inl (cI, 3000, .inl fT)), (aM, .inl (cI, 40, .inl MDv))] H := xP
            replace xD : va_D xA0 [(mM, .inr (6, [.int (iI tm), .ref aT, .int (iI om), .ref aO, .int (iI tn), .ref aK, .ref aS, .ref aC, .ref aU, .ref aG, .ref aY, .ref aX, .int (iI qn), .ref aP, .int (iI tr), .int (iI rg), .int (iI ll), .int (iI pv), .int (iI fv), .int (iI ov), .int (iI sv), .ref aM, .int (iI tz), .ref aA, .int (iI dm), .ref aD, .ref aB, .ref aV, .ref aE])), (aT, .inl (cI, 3000, .inl fT)), (aM, .inl (cI, 40, .inl MDv))] := xD
            have HD := hw_31
            have hdr := dgt_rg (lst (tI fT) tm) pv
            rw [← HD] at hdr
            refine lv_istore_n (lv' := [(2, .int (iI z_32)), (1, .int (iI z_9)), (0, .ref mM)]) xe xb d_TripleLinesModel_readCodes_36 rfl xl (by decide) rfl ?_
            clear xl
            intro ls xl
            refine lv_aload_n xe xb d_TripleLinesModel_readCodes_37 rfl (lv_at xl 2 rfl) ?_
            refine lv_aload_n xe xb d_TripleLinesModel_readCodes_38 rfl (lv_at xl 2 rfl) ?_
            refine va_get (D := D) (ci := 6) (v := .int (iI pv)) (C := R_TripleLinesModel) (T := F_TripleLinesModel) (N := 29) xe xb xt i_TripleLinesModel xo xK xP 0 rfl rfl 17 (by decide) (xt _ mw_TripleLinesModel_79) (fun _ h9 => h9) rfl d_TripleLinesModel_readCodes_39 ?_
            refine lv_iconst (v := iI (1)) xe xb d_TripleLinesModel_readCodes_42 rfl ?_
            refine tk_iadd xe xb d_TripleLinesModel_readCodes_43 ?_
            refine tk_callVi (As := [.int (iI (pv + 1))]) (rest := []) (wr := [(aM, .inl (cI, 40, .inl MDv))]) (wn := fun u => [(mM, .inr (6, [.int (iI tm), .ref aT, .int (iI om), .ref aO, .int (iI tn), .ref aK, .ref aS, .ref aC, .ref aU, .ref aG, .ref aY, .ref aX, .int (iI qn), .ref aP, .int (iI tr), .int (iI rg), .int (iI ll), .int (iI pv), .int (iI fv), .int (iI ov), .int (iI sv), .ref aM, .int (iI tz), .ref aA, .int (iI dm), .ref aD, .ref aB, .ref aV, .ref aE])), (aT, .inl (cI, 3000, .inl fT)), (aM, .inl (cI, 40, .inl MDv))]) ⟨xe, xb, xml, xo, xt⟩ (c_TripleLinesModel_look l D cI mM tm aT om aO tn aK aS aC aU aG aY aX qn aP tr rg ll pv fv ov sv aM tz aA dm aD aB aV aE fT (pv + 1) (by first | assumption | omega) (by first | assumption | omega)) k_TripleLinesModel_look mw_TripleLinesModel_82 ⟨Nat.le_of_ble_eq_true rfl, Nat.le_of_ble_eq_true rfl⟩ xK xP xD xS xA rfl xl.1 rfl (Nat.le_of_ble_eq_true rfl) d_TripleLinesModel_readCodes_44 ⟨Nat.zero_le _, Nat.zero_le _⟩ [0, 1] [2] [1, 2, 0] rfl rfl (by decide) (by decide) (by decide) (by decide) (fun _ => rfl) rfl rfl rfl ?_
            clear xP xD xS
            intro z_35 u H locs hr_36 hw_34 xP xD xS
            try dsimp only at hw_34
            replace xP : va_P D classes [(mM, .inr (6, [.int (iI tm), .ref aT, .int (iI om), .ref aO, .int (iI tn), .ref aK, .ref aS, .ref aC, .ref aU, .ref aG, .ref aY, .ref aX, .int (iI qn), .ref aP, .int (iI tr), .int (iI rg), .int (iI ll), .int (iI pv), .int (iI fv), .int (iI ov), .int (iI sv), .ref aM, .int (iI tz), .ref aA, .int (iI dm), .ref aD, .ref aB, .ref aV, .ref aE])), (aT, .inl (cI, 3000, .inl fT)), (aM, .inl (cI, 40, .inl MDv))] H := xP
            replace xD : va_D xA0 [(mM, .inr (6, [.int (iI tm), .ref aT, .int (iI om), .ref aO, .int (iI tn), .ref aK, .ref aS, .ref aC, .ref aU, .ref aG, .ref aY, .ref aX, .int (iI qn), .ref aP, .int (iI tr), .int (iI rg), .int (iI ll), .int (iI pv), .int (iI fv), .int (iI ov), .int (iI sv), .ref aM, .int (iI tz), .ref aA, .int (iI dm), .ref aD, .ref aB, .ref aV, .ref aE])), (aT, .inl (cI, 3000, .inl fT)), (aM, .inl (cI, 40, .inl MDv))] := xD
            have HLk := hw_34
            have hbk := rd_byt hB (pv + 1)
            rw [← HLk] at hbk
            refine tk_callSi (As := [.int (iI z_35)]) (rest := []) (wr := [(mM, .inr (6, [.int (iI tm), .ref aT, .int (iI om), .ref aO, .int (iI tn), .ref aK, .ref aS, .ref aC, .ref aU, .ref aG, .ref aY, .ref aX, .int (iI qn), .ref aP, .int (iI tr), .int (iI rg), .int (iI ll), .int (iI pv), .int (iI fv), .int (iI ov), .int (iI sv), .ref aM, .int (iI tz), .ref aA, .int (iI dm), .ref aD, .ref aB, .ref aV, .ref aE])), (aT, .inl (cI, 3000, .inl fT)), (aM, .inl (cI, 40, .inl MDv))]) (wn := fun u => [(mM, .inr (6, [.int (iI tm), .ref aT, .int (iI om), .ref aO, .int (iI tn), .ref aK, .ref aS, .ref aC, .ref aU, .ref aG, .ref aY, .ref aX, .int (iI qn), .ref aP, .int (iI tr), .int (iI rg), .int (iI ll), .int (iI pv), .int (iI fv), .int (iI ov), .int (iI sv), .ref aM, .int (iI tz), .ref aA, .int (iI dm), .ref aD, .ref aB, .ref aV, .ref aE])), (aT, .inl (cI, 3000, .inl fT)), (aM, .inl (cI, 40, .inl MDv))]) ⟨xe, xb, xml, xo, xt⟩ (c_TripleLinesModel_sign l D cI z_35 (by first | assumption | omega)) k_TripleLinesModel_sign mw_TripleLinesModel_179 ⟨Nat.le_of_ble_eq_true rfl, Nat.le_of_ble_eq_true rfl⟩ xK xP xD xS xA rfl xl.1 rfl (Nat.le_of_ble_eq_true rfl) d_TripleLinesModel_readCodes_47 ⟨Nat.zero_le _, Nat.zero_le _⟩ [] [0, 1, 2] [0, 1, 2] rfl rfl (by decide) (by decide) (by decide) (by decide) (fun _ => rfl) ?_
            clear xP xD xS
            intro z_38 u H locs hr_39 hw_37 xP xD xS
            try dsimp only at hw_37
            replace xP : va_P D classes [(mM, .inr (6, [.int (iI tm), .ref aT, .int (iI om), .ref aO, .int (iI tn), .ref aK, .ref aS, .ref aC, .ref aU, .ref aG, .ref aY, .ref aX, .int (iI qn), .ref aP, .int (iI tr), .int (iI rg), .int (iI ll), .int (iI pv), .int (iI fv), .int (iI ov), .int (iI sv), .ref aM, .int (iI tz), .ref aA, .int (iI dm), .ref aD, .ref aB, .ref aV, .ref aE])), (aT, .inl (cI, 3000, .inl fT)), (aM, .inl (cI, 40, .inl MDv))] H := xP
            replace xD : va_D xA0 [(mM, .inr (6, [.int (iI tm), .ref aT, .int (iI om), .ref aO, .int (iI tn), .ref aK, .ref aS, .ref aC, .ref aU, .ref aG, .ref aY, .ref aX, .int (iI qn), .ref aP, .int (iI tr), .int (iI rg), .int (iI ll), .int (iI pv), .int (iI fv), .int (iI ov), .int (iI sv), .ref aM, .int (iI tz), .ref aA, .int (iI dm), .ref aD, .ref aB, .ref aV, .ref aE])), (aT, .inl (cI, 3000, .inl fT)), (aM, .inl (cI, 40, .inl MDv))] := xD
            have HSg := hw_37
            rw [HLk] at HSg
            have hsg := sgn_rg (rd (lst (tI fT) tm) (pv + 1))
            rw [← HSg] at hsg
            refine lv_istore_n (lv' := [(3, .int (iI z_38)), (2, .int (iI z_32)), (1, .int (iI z_9)), (0, .ref mM)]) xe xb d_TripleLinesModel_readCodes_50 rfl xl (by decide) rfl ?_
            clear xl
            intro ls xl
            refine lv_iload_n xe xb d_TripleLinesModel_readCodes_51 rfl (lv_at xl 0 rfl) ?_
            refine tk_if_lt (tgt := 65) xe xb d_TripleLinesModel_readCodes_52 (by decide) (by omega) (fun C52 => ?_) (fun C52 => ?_)
            · refine lv_iload_n xe xb d_TripleLinesModel_readCodes_65 rfl (lv_at xl 1 rfl) ?_
              refine tk_if_le (tgt := 95) xe xb d_TripleLinesModel_readCodes_66 (by decide) (by omega) (fun C66 => ?_) (fun C66 => ?_)
              · refine lv_aload_n xe xb d_TripleLinesModel_readCodes_95 rfl (lv_at xl 3 rfl) ?_
                refine lv_aload_n xe xb d_TripleLinesModel_readCodes_96 rfl (lv_at xl 3 rfl) ?_
                refine va_get (D := D) (ci := 6) (v := .int (iI pv)) (C := R_TripleLinesModel) (T := F_TripleLinesModel) (N := 29) xe xb xt i_TripleLinesModel xo xK xP 0 rfl rfl 17 (by decide) (xt _ mw_TripleLinesModel_79) (fun _ h9 => h9) rfl d_TripleLinesModel_readCodes_97 ?_
                refine tk_callVv (As := [.int (iI pv)]) (rest := []) (wr := [(aT, .inl (cI, 3000, .inl fT)), (aM, .inl (cI, 40, .inl MDv))]) (wn := fun u => [(mM, .inr (6, [.int (iI tm), .ref aT, .int (iI om), .ref aO, .int (iI tn), .ref aK, .ref aS, .ref aC, .ref aU, .ref aG, .ref aY, .ref aX, .int (iI qn), .ref aP, .int (iI tr), .int (iI rg), .int (iI ll), .int (iI pv), .int (iI u), .int (iI ov), .int (iI sv), .ref aM, .int (iI tz), .ref aA, .int (iI dm), .ref aD, .ref aB, .ref aV, .ref aE])), (aT, .inl (cI, 3000, .inl fT)), (aM, .inl (cI, 40, .inl MDv))]) ⟨xe, xb, xml, xo, xt⟩ (c_TripleLinesModel_fail l D cI mM tm aT om aO tn aK aS aC aU aG aY aX qn aP tr rg ll pv fv ov sv aM tz aA dm aD aB aV aE pv (by first | assumption | omega)) k_TripleLinesModel_fail mw_TripleLinesModel_94 ⟨Nat.le_of_ble_eq_true rfl, Nat.le_of_ble_eq_true rfl⟩ xK xP xD xS xA rfl xl.1 rfl (Nat.le_of_ble_eq_true rfl) d_TripleLinesModel_readCodes_100 ⟨Nat.zero_le _, Nat.zero_le _⟩ [0] [1, 2] [2, 0, 1] rfl rfl (by decide) (by decide) (by decide) (by decide) (fun _ => rfl) rfl rfl rfl ?_
                clear xP xD xS
                intro u H locs hw_41 xP xD xS
                obtain ⟨f2_40, rfl⟩ : ∃ v, v = u := ⟨_, rfl⟩
                try dsimp only at hw_41
                replace xP : va_P D classes [(mM, .inr (6, [.int (iI tm), .ref aT, .int (iI om), .ref aO, .int (iI tn), .ref aK, .ref aS, .ref aC, .ref aU, .ref aG, .ref aY, .ref aX, .int (iI qn), .ref aP, .int (iI tr), .int (iI rg), .int (iI ll), .int (iI pv), .int (iI f2_40), .int (iI ov), .int (iI sv), .ref aM, .int (iI tz), .ref aA, .int (iI dm), .ref aD, .ref aB, .ref aV, .ref aE])), (aT, .inl (cI, 3000, .inl fT)), (aM, .inl (cI, 40, .inl MDv))] H := xP
                replace xD : va_D xA0 [(mM, .inr (6, [.int (iI tm), .ref aT, .int (iI om), .ref aO, .int (iI tn), .ref aK, .ref aS, .ref aC, .ref aU, .ref aG, .ref aY, .ref aX, .int (iI qn), .ref aP, .int (iI tr), .int (iI rg), .int (iI ll), .int (iI pv), .int (iI f2_40), .int (iI ov), .int (iI sv), .ref aM, .int (iI tz), .ref aA, .int (iI dm), .ref aD, .ref aB, .ref aV, .ref aE])), (aT, .inl (cI, 3000, .inl fT)), (aM, .inl (cI, 40, .inl MDv))] := xD
                have HF := hw_41
                refine lv_goto (tgt := 141) xe xb d_TripleLinesModel_readCodes_103 (by decide) ?_
                have hS9 := ScI_bad hS Hg (by rw [← HP1]; exact C18) (sk_no2 (by rw [← HP2]; exact C29) (by rw [← HD]; omega) HSg C52) HF
                have hd9 := bad_adv (n := tm) (q := pv) Hg hS1.1 HF
                clear HF
                refine lv_goto (tgt := 5) xe xb d_TripleLinesModel_readCodes_141 (by decide) ?_
                exact ih_5 pv f2_40 sv MDv (msr_dec Hg hm_5 hd9) hS9 _ _ xP xD xS ls (lv_sub xl [3] rfl)
              · have hdh := dgt_hv (T := (lst (tI fT) tm)) (p := pv) (by rw [← HD]; exact C66)
                rw [← HD] at hdh
                refine lv_aload_n xe xb d_TripleLinesModel_readCodes_69 rfl (lv_at xl 3 rfl) ?_
                refine lv_iload_n xe xb d_TripleLinesModel_readCodes_70 rfl (lv_at xl 1 rfl) ?_
                refine tk_callVl (As := [.int (iI z_32)]) (rest := []) (wr := [(aM, .inl (cI, 40, .inl MDv))]) (wn := fun u => [(mM, .inr (6, [.int (iI tm), .ref aT, .int (iI om), .ref aO, .int (iI tn), .ref aK, .ref aS, .ref aC, .ref aU, .ref aG, .ref aY, .ref aX, .int (iI qn), .ref aP, .int (iI tr), .int (iI rg), .int (iI ll), .int (iI pv), .int (iI fv), .int (iI ov), .int (iI sv), .ref aM, .int (iI tz), .ref aA, .int (iI dm), .ref aD, .ref aB, .ref aV, .ref aE])), (aT, .inl (cI, 3000, .inl fT)), (aM, .inl (cI, 40, .inl MDv))]) ⟨xe, xb, xml, xo, xt⟩ (c_TripleLinesModel_value l D cI mM tm aT om aO tn aK aS aC aU aG aY aX qn aP tr rg ll pv fv ov sv aM tz aA dm aD aB aV aE fT z_32 (by first | assumption | omega) (by first | assumption | omega) (by omega) hdh.1) k_TripleLinesModel_value mw_TripleLinesModel_155 ⟨Nat.le_of_ble_eq_true rfl, Nat.le_of_ble_eq_true rfl⟩ xK xP xD xS xA rfl xl.1 rfl (Nat.le_of_ble_eq_true rfl) d_TripleLinesModel_readCodes_71 ⟨Nat.zero_le _, Nat.zero_le _⟩ [0, 1] [2] [1, 2, 0] rfl rfl (by decide) (by decide) (by decide) (by decide) (fun _ => rfl) rfl rfl rfl ?_
                clear xP xD xS
                intro z_44 u H locs hr_45 hw_43 xP xD xS
                try dsimp only at hw_43
                replace xP : va_P D classes [(mM, .inr (6, [.int (iI tm), .ref aT, .int (iI om), .ref aO, .int (iI tn), .ref aK, .ref aS, .ref aC, .ref aU, .ref aG, .ref aY, .ref aX, .int (iI qn), .ref aP, .int (iI tr), .int (iI rg), .int (iI ll), .int (iI pv), .int (iI fv), .int (iI ov), .int (iI sv), .ref aM, .int (iI tz), .ref aA, .int (iI dm), .ref aD, .ref aB, .ref aV, .ref aE])), (aT, .inl (cI, 3000, .inl fT)), (aM, .inl (cI, 40, .inl MDv))] H := xP
                replace xD : va_D xA0 [(mM, .inr (6, [.int (iI tm), .ref aT, .int (iI om), .ref aO, .int (iI tn), .ref aK, .ref aS, .ref aC, .ref aU, .ref aG, .ref aY, .ref aX, .int (iI qn), .ref aP, .int (iI tr), .int (iI rg), .int (iI ll), .int (iI pv), .int (iI fv), .int (iI ov), .int (iI sv), .ref aM, .int (iI tz), .ref aA, .int (iI dm), .ref aD, .ref aB, .ref aV, .ref aE])), (aT, .inl (cI, 3000, .inl fT)), (aM, .inl (cI, 40, .inl MDv))] := xD
                obtain ⟨HV1, HVr⟩ := hw_43
                refine tk_callSi (As := [.long (jI z_44)]) (rest := []) (wr := [(mM, .inr (6, [.int (iI tm), .ref aT, .int (iI om), .ref aO, .int (iI tn), .ref aK, .ref aS, .ref aC, .ref aU, .ref aG, .ref aY, .ref aX, .int (iI qn), .ref aP, .int (iI tr), .int (iI rg), .int (iI ll), .int (iI pv), .int (iI fv), .int (iI ov), .int (iI sv), .ref aM, .int (iI tz), .ref aA, .int (iI dm), .ref aD, .ref aB, .ref aV, .ref aE])), (aT, .inl (cI, 3000, .inl fT)), (aM, .inl (cI, 40, .inl MDv))]) (wn := fun u => [(mM, .inr (6, [.int (iI tm), .ref aT, .int (iI om), .ref aO, .int (iI tn), .ref aK, .ref aS, .ref aC, .ref aU, .ref aG, .ref aY, .ref aX, .int (iI qn), .ref aP, .int (iI tr), .int (iI rg), .int (iI ll), .int (iI pv), .int (iI fv), .int (iI ov), .int (iI sv), .ref aM, .int (iI tz), .ref aA, .int (iI dm), .ref aD, .ref aB, .ref aV, .ref aE])), (aT, .inl (cI, 3000, .inl fT)), (aM, .inl (cI, 40, .inl MDv))]) ⟨xe, xb, xml, xo, xt⟩ (c_TripleLinesModel_isCode l D cI z_44 (by omega)) k_TripleLinesModel_isCode mw_TripleLinesModel_159 ⟨Nat.le_of_ble_eq_true rfl, Nat.le_of_ble_eq_true rfl⟩ xK xP xD xS xA rfl xl.1 rfl (Nat.le_of_ble_eq_true rfl) d_TripleLinesModel_readCodes_74 ⟨Nat.zero_le _, Nat.zero_le _⟩ [] [0, 1, 2] [0, 1, 2] rfl rfl (by decide) (by decide) (by decide) (by decide) (fun _ => rfl) ?_
                clear xP xD xS
                intro z_47 u H locs hr_48 hw_46 xP xD xS
                try dsimp only at hw_46
                replace xP : va_P D classes [(mM, .inr (6, [.int (iI tm), .ref aT, .int (iI om), .ref aO, .int (iI tn), .ref aK, .ref aS, .ref aC, .ref aU, .ref aG, .ref aY, .ref aX, .int (iI qn), .ref aP, .int (iI tr), .int (iI rg), .int (iI ll), .int (iI pv), .int (iI fv), .int (iI ov), .int (iI sv), .ref aM, .int (iI tz), .ref aA, .int (iI dm), .ref aD, .ref aB, .ref aV, .ref aE])), (aT, .inl (cI, 3000, .inl fT)), (aM, .inl (cI, 40, .inl MDv))] H := xP
                replace xD : va_D xA0 [(mM, .inr (6, [.int (iI tm), .ref aT, .int (iI om), .ref aO, .int (iI tn), .ref aK, .ref aS, .ref aC, .ref aU, .ref aG, .ref aY, .ref aX, .int (iI qn), .ref aP, .int (iI tr), .int (iI rg), .int (iI ll), .int (iI pv), .int (iI fv), .int (iI ov), .int (iI sv), .ref aM, .int (iI tz), .ref aA, .int (iI dm), .ref aD, .ref aB, .ref aV, .ref aE])), (aT, .inl (cI, 3000, .inl fT)), (aM, .inl (cI, 40, .inl MDv))] := xD
                rcases hw_46 with ⟨rfl, Hc⟩ | ⟨rfl, Hc⟩
                · refine tk_if_eq (tgt := 95) xe xb d_TripleLinesModel_readCodes_77 (by decide) (by omega) (fun c_49 => absurd c_49 (by omega)) (fun c_49 => ?_)
                  refine lv_aload_n xe xb d_TripleLinesModel_readCodes_80 rfl (lv_at xl 3 rfl) ?_
                  refine lv_aload_n xe xb d_TripleLinesModel_readCodes_81 rfl (lv_at xl 3 rfl) ?_
                  refine lv_iload_n xe xb d_TripleLinesModel_readCodes_82 rfl (lv_at xl 1 rfl) ?_
                  refine tk_callVl (As := [.int (iI z_32)]) (rest := [.ref mM]) (wr := [(aM, .inl (cI, 40, .inl MDv))]) (wn := fun u => [(mM, .inr (6, [.int (iI tm), .ref aT, .int (iI om), .ref aO, .int (iI tn), .ref aK, .ref aS, .ref aC, .ref aU, .ref aG, .ref aY, .ref aX, .int (iI qn), .ref aP, .int (iI tr), .int (iI rg), .int (iI ll), .int (iI pv), .int (iI fv), .int (iI ov), .int (iI sv), .ref aM, .int (iI tz), .ref aA, .int (iI dm), .ref aD, .ref aB, .ref aV, .ref aE])), (aT, .inl (cI, 3000, .inl fT)), (aM, .inl (cI, 40, .inl MDv))]) ⟨xe, xb, xml, xo, xt⟩ (c_TripleLinesModel_value l D cI mM tm aT om aO tn aK aS aC aU aG aY aX qn aP tr rg ll pv fv ov sv aM tz aA dm aD aB aV aE fT z_32 (by first | assumption | omega) (by first | assumption | omega) (by omega) hdh.1) k_TripleLinesModel_value mw_TripleLinesModel_155 ⟨Nat.le_of_ble_eq_true rfl, Nat.le_of_ble_eq_true rfl⟩ xK xP xD xS xA rfl xl.1 rfl (Nat.le_of_ble_eq_true rfl) d_TripleLinesModel_readCodes_83 ⟨Nat.zero_le _, Nat.zero_le _⟩ [0, 1] [2] [1, 2, 0] rfl rfl (by decide) (by decide) (by decide) (by decide) (fun _ => rfl) rfl rfl rfl ?_
                  clear xP xD xS
                  intro z_51 u H locs hr_52 hw_50 xP xD xS
                  try dsimp only at hw_50
                  replace xP : va_P D classes [(mM, .inr (6, [.int (iI tm), .ref aT, .int (iI om), .ref aO, .int (iI tn), .ref aK, .ref aS, .ref aC, .ref aU, .ref aG, .ref aY, .ref aX, .int (iI qn), .ref aP, .int (iI tr), .int (iI rg), .int (iI ll), .int (iI pv), .int (iI fv), .int (iI ov), .int (iI sv), .ref aM, .int (iI tz), .ref aA, .int (iI dm), .ref aD, .ref aB, .ref aV, .ref aE])), (aT, .inl (cI, 3000, .inl fT)), (aM, .inl (cI, 40, .inl MDv))] H := xP
                  replace xD : va_D xA0 [(mM, .inr (6, [.int (iI tm), .ref aT, .int (iI om), .ref aO, .int (iI tn), .ref aK, .ref aS, .ref aC, .ref aU, .ref aG, .ref aY, .ref aX, .int (iI qn), .ref aP, .int (iI tr), .int (iI rg), .int (iI ll), .int (iI pv), .int (iI fv), .int (iI ov), .int (iI sv), .ref aM, .int (iI tz), .ref aA, .int (iI dm), .ref aD, .ref aB, .ref aV, .ref aE])), (aT, .inl (cI, 3000, .inl fT)), (aM, .inl (cI, 40, .inl MDv))] := xD
                  obtain ⟨HV3, HVr⟩ := hw_50
                  refine lv_iload_n xe xb d_TripleLinesModel_readCodes_86 rfl (lv_at xl 1 rfl) ?_
                  refine lv_iconst (v := iI (2)) xe xb d_TripleLinesModel_readCodes_87 rfl ?_
                  refine tk_iadd xe xb d_TripleLinesModel_readCodes_88 ?_
                  refine tk_callVv (As := [.long (jI z_51), .int (iI (z_32 + 2))]) (rest := []) (wr := [(aT, .inl (cI, 3000, .inl fT))]) (wn := fun u => [(mM, .inr (6, [.int (iI tm), .ref aT, .int (iI om), .ref aO, .int (iI tn), .ref aK, .ref aS, .ref aC, .ref aU, .ref aG, .ref aY, .ref aX, .int (iI qn), .ref aP, .int (iI tr), .int (iI rg), .int (iI ll), .int (iI u.1), .int (iI u.2.1), .int (iI ov), .int (iI u.2.2.1), .ref aM, .int (iI tz), .ref aA, .int (iI dm), .ref aD, .ref aB, .ref aV, .ref aE])), (aT, .inl (cI, 3000, .inl fT)), (aM, .inl (cI, 40, .inl u.2.2.2))]) ⟨xe, xb, xml, xo, xt⟩ (c_TripleLinesModel_take l D cI mM tm aT om aO tn aK aS aC aU aG aY aX qn aP tr rg ll pv fv ov sv aM tz aA dm aD aB aV aE MDv z_51 (z_32 + 2) (by first | assumption | omega) (by first | assumption | omega)) k_TripleLinesModel_take mw_TripleLinesModel_166 ⟨Nat.le_of_ble_eq_true rfl, Nat.le_of_ble_eq_true rfl⟩ xK xP xD xS xA rfl xl.1 rfl (Nat.le_of_ble_eq_true rfl) d_TripleLinesModel_readCodes_89 ⟨Nat.zero_le _, Nat.zero_le _⟩ [0, 2] [1] [1, 0, 2] rfl rfl (by decide) (by decide) (by decide) (by decide) (fun _ => rfl) rfl rfl rfl ?_
                  clear xP xD xS
                  intro u H locs hw_57 xP xD xS
                  obtain ⟨p2_53, f2_54, sz2_55, MD2_56⟩ := u
                  try dsimp only at hw_57
                  replace xP : va_P D classes [(mM, .inr (6, [.int (iI tm), .ref aT, .int (iI om), .ref aO, .int (iI tn), .ref aK, .ref aS, .ref aC, .ref aU, .ref aG, .ref aY, .ref aX, .int (iI qn), .ref aP, .int (iI tr), .int (iI rg), .int (iI ll), .int (iI p2_53), .int (iI f2_54), .int (iI ov), .int (iI sz2_55), .ref aM, .int (iI tz), .ref aA, .int (iI dm), .ref aD, .ref aB, .ref aV, .ref aE])), (aT, .inl (cI, 3000, .inl fT)), (aM, .inl (cI, 40, .inl MD2_56))] H := xP
                  replace xD : va_D xA0 [(mM, .inr (6, [.int (iI tm), .ref aT, .int (iI om), .ref aO, .int (iI tn), .ref aK, .ref aS, .ref aC, .ref aU, .ref aG, .ref aY, .ref aX, .int (iI qn), .ref aP, .int (iI tr), .int (iI rg), .int (iI ll), .int (iI p2_53), .int (iI f2_54), .int (iI ov), .int (iI sz2_55), .ref aM, .int (iI tz), .ref aA, .int (iI dm), .ref aD, .ref aB, .ref aV, .ref aE])), (aT, .inl (cI, 3000, .inl fT)), (aM, .inl (cI, 40, .inl MD2_56))] := xD
                  have HT := hw_57
                  refine lv_goto (tgt := 103) xe xb d_TripleLinesModel_readCodes_92 (by decide) ?_
                  refine lv_goto (tgt := 141) xe xb d_TripleLinesModel_readCodes_103 (by decide) ?_
                  have hS9 := ScI_take hL hS Hg (by rw [← HP1]; exact C18) (sk_dig2t (by rw [← HP2]; exact C29) HD C66 HV1 HV3 Hc) (dig_rg HV1 HV3 Hc) HT
                  have hd9 := ScI_adv hS9 hS1.1 Hg (by omega) HT
                  clear HT
                  refine lv_goto (tgt := 5) xe xb d_TripleLinesModel_readCodes_141 (by decide) ?_
                  exact ih_5 p2_53 f2_54 sz2_55 MD2_56 (msr_dec Hg hm_5 hd9) hS9 _ _ xP xD xS ls (lv_sub xl [3] rfl)
                · refine tk_if_eq (tgt := 95) xe xb d_TripleLinesModel_readCodes_77 (by decide) (by omega) (fun c_59 => ?_) (fun c_59 => absurd c_59 (by omega))
                  refine lv_aload_n xe xb d_TripleLinesModel_readCodes_95 rfl (lv_at xl 3 rfl) ?_
                  refine lv_aload_n xe xb d_TripleLinesModel_readCodes_96 rfl (lv_at xl 3 rfl) ?_
                  refine va_get (D := D) (ci := 6) (v := .int (iI pv)) (C := R_TripleLinesModel) (T := F_TripleLinesModel) (N := 29) xe xb xt i_TripleLinesModel xo xK xP 0 rfl rfl 17 (by decide) (xt _ mw_TripleLinesModel_79) (fun _ h9 => h9) rfl d_TripleLinesModel_readCodes_97 ?_
                  refine tk_callVv (As := [.int (iI pv)]) (rest := []) (wr := [(aT, .inl (cI, 3000, .inl fT)), (aM, .inl (cI, 40, .inl MDv))]) (wn := fun u => [(mM, .inr (6, [.int (iI tm), .ref aT, .int (iI om), .ref aO, .int (iI tn), .ref aK, .ref aS, .ref aC, .ref aU, .ref aG, .ref aY, .ref aX, .int (iI qn), .ref aP, .int (iI tr), .int (iI rg), .int (iI ll), .int (iI pv), .int (iI u), .int (iI ov), .int (iI sv), .ref aM, .int (iI tz), .ref aA, .int (iI dm), .ref aD, .ref aB, .ref aV, .ref aE])), (aT, .inl (cI, 3000, .inl fT)), (aM, .inl (cI, 40, .inl MDv))]) ⟨xe, xb, xml, xo, xt⟩ (c_TripleLinesModel_fail l D cI mM tm aT om aO tn aK aS aC aU aG aY aX qn aP tr rg ll pv fv ov sv aM tz aA dm aD aB aV aE pv (by first | assumption | omega)) k_TripleLinesModel_fail mw_TripleLinesModel_94 ⟨Nat.le_of_ble_eq_true rfl, Nat.le_of_ble_eq_true rfl⟩ xK xP xD xS xA rfl xl.1 rfl (Nat.le_of_ble_eq_true rfl) d_TripleLinesModel_readCodes_100 ⟨Nat.zero_le _, Nat.zero_le _⟩ [0] [1, 2] [2, 0, 1] rfl rfl (by decide) (by decide) (by decide) (by decide) (fun _ => rfl) rfl rfl rfl ?_
                  clear xP xD xS
                  intro u H locs hw_61 xP xD xS
                  obtain ⟨f2_60, rfl⟩ : ∃ v, v = u := ⟨_, rfl⟩
                  try dsimp only at hw_61
                  replace xP : va_P D classes [(mM, .inr (6, [.int (iI tm), .ref aT, .int (iI om), .ref aO, .int (iI tn), .ref aK, .ref aS, .ref aC, .ref aU, .ref aG, .ref aY, .ref aX, .int (iI qn), .ref aP, .int (iI tr), .int (iI rg), .int (iI ll), .int (iI pv), .int (iI f2_60), .int (iI ov), .int (iI sv), .ref aM, .int (iI tz), .ref aA, .int (iI dm), .ref aD, .ref aB, .ref aV, .ref aE])), (aT, .inl (cI, 3000, .inl fT)), (aM, .inl (cI, 40, .inl MDv))] H := xP
                  replace xD : va_D xA0 [(mM, .inr (6, [.int (iI tm), .ref aT, .int (iI om), .ref aO, .int (iI tn), .ref aK, .ref aS, .ref aC, .ref aU, .ref aG, .ref aY, .ref aX, .int (iI qn), .ref aP, .int (iI tr), .int (iI rg), .int (iI ll), .int (iI pv), .int (iI f2_60), .int (iI ov), .int (iI sv), .ref aM, .int (iI tz), .ref aA, .int (iI dm), .ref aD, .ref aB, .ref aV, .ref aE])), (aT, .inl (cI, 3000, .inl fT)), (aM, .inl (cI, 40, .inl MDv))] := xD
                  have HF := hw_61
                  refine lv_goto (tgt := 141) xe xb d_TripleLinesModel_readCodes_103 (by decide) ?_
                  have hS9 := ScI_bad hS Hg (by rw [← HP1]; exact C18) (sk_dig2c (by rw [← HP2]; exact C29) HD C66 HV1 Hc) HF
                  have hd9 := bad_adv (n := tm) (q := pv) Hg hS1.1 HF
                  clear HF
                  refine lv_goto (tgt := 5) xe xb d_TripleLinesModel_readCodes_141 (by decide) ?_
                  exact ih_5 pv f2_60 sv MDv (msr_dec Hg hm_5 hd9) hS9 _ _ xP xD xS ls (lv_sub xl [3] rfl)
            · refine lv_aload_n xe xb d_TripleLinesModel_readCodes_55 rfl (lv_at xl 3 rfl) ?_
              refine lv_iload_n xe xb d_TripleLinesModel_readCodes_56 rfl (lv_at xl 0 rfl) ?_
              refine tk_i2l xe xb d_TripleLinesModel_readCodes_57 (by omega) ?_
              refine lv_iconst (v := iI (2)) xe xb d_TripleLinesModel_readCodes_58 rfl ?_
              refine tk_callVv (As := [.long (jI z_38), .int (iI 2)]) (rest := []) (wr := [(aT, .inl (cI, 3000, .inl fT))]) (wn := fun u => [(mM, .inr (6, [.int (iI tm), .ref aT, .int (iI om), .ref aO, .int (iI tn), .ref aK, .ref aS, .ref aC, .ref aU, .ref aG, .ref aY, .ref aX, .int (iI qn), .ref aP, .int (iI tr), .int (iI rg), .int (iI ll), .int (iI u.1), .int (iI u.2.1), .int (iI ov), .int (iI u.2.2.1), .ref aM, .int (iI tz), .ref aA, .int (iI dm), .ref aD, .ref aB, .ref aV, .ref aE])), (aT, .inl (cI, 3000, .inl fT)), (aM, .inl (cI, 40, .inl u.2.2.2))]) ⟨xe, xb, xml, xo, xt⟩ (c_TripleLinesModel_take l D cI mM tm aT om aO tn aK aS aC aU aG aY aX qn aP tr rg ll pv fv ov sv aM tz aA dm aD aB aV aE MDv z_38 2 (by first | assumption | omega) (by first | assumption | omega)) k_TripleLinesModel_take mw_TripleLinesModel_166 ⟨Nat.le_of_ble_eq_true rfl, Nat.le_of_ble_eq_true rfl⟩ xK xP xD xS xA rfl xl.1 rfl (Nat.le_of_ble_eq_true rfl) d_TripleLinesModel_readCodes_59 ⟨Nat.zero_le _, Nat.zero_le _⟩ [0, 2] [1] [1, 0, 2] rfl rfl (by decide) (by decide) (by decide) (by decide) (fun _ => rfl) rfl rfl rfl ?_
              clear xP xD xS
              intro u H locs hw_67 xP xD xS
              obtain ⟨p2_63, f2_64, sz2_65, MD2_66⟩ := u
              try dsimp only at hw_67
              replace xP : va_P D classes [(mM, .inr (6, [.int (iI tm), .ref aT, .int (iI om), .ref aO, .int (iI tn), .ref aK, .ref aS, .ref aC, .ref aU, .ref aG, .ref aY, .ref aX, .int (iI qn), .ref aP, .int (iI tr), .int (iI rg), .int (iI ll), .int (iI p2_63), .int (iI f2_64), .int (iI ov), .int (iI sz2_65), .ref aM, .int (iI tz), .ref aA, .int (iI dm), .ref aD, .ref aB, .ref aV, .ref aE])), (aT, .inl (cI, 3000, .inl fT)), (aM, .inl (cI, 40, .inl MD2_66))] H := xP
              replace xD : va_D xA0 [(mM, .inr (6, [.int (iI tm), .ref aT, .int (iI om), .ref aO, .int (iI tn), .ref aK, .ref aS, .ref aC, .ref aU, .ref aG, .ref aY, .ref aX, .int (iI qn), .ref aP, .int (iI tr), .int (iI rg), .int (iI ll), .int (iI p2_63), .int (iI f2_64), .int (iI ov), .int (iI sz2_65), .ref aM, .int (iI tz), .ref aA, .int (iI dm), .ref aD, .ref aB, .ref aV, .ref aE])), (aT, .inl (cI, 3000, .inl fT)), (aM, .inl (cI, 40, .inl MD2_66))] := xD
              have HT := hw_67
              refine lv_goto (tgt := 103) xe xb d_TripleLinesModel_readCodes_62 (by decide) ?_
              refine lv_goto (tgt := 141) xe xb d_TripleLinesModel_readCodes_103 (by decide) ?_
              have hS9 := ScI_take hL hS Hg (by rw [← HP1]; exact C18) (sk_sg2 (by rw [← HP2]; exact C29) HSg C52) (by omega) HT
              have hd9 := ScI_adv hS9 hS1.1 Hg (by omega) HT
              clear HT
              refine lv_goto (tgt := 5) xe xb d_TripleLinesModel_readCodes_141 (by decide) ?_
              exact ih_5 p2_63 f2_64 sz2_65 MD2_66 (msr_dec Hg hm_5 hd9) hS9 _ _ xP xD xS ls (lv_sub xl [3] rfl)
      · refine tk_if_eq (tgt := 144) xe xb d_TripleLinesModel_readCodes_9 (by decide) (by omega) (fun c_69 => ?_) (fun c_69 => absurd c_69 (by omega))
        exact xret _ _ _ _ (pv, fv, sv, MDv) d_TripleLinesModel_readCodes_144 (by first | exact (⟨hS, fun h => absurd h (by omega)⟩) | (dsimp only; exact (⟨hS, fun h => absurd h (by omega)⟩))) xP xD xS
  exact loop_5 _ p f 0 MD (Nat.lt_succ_self _) hS0 _ _ xP xD xS ls (lv_sub xl [0] rfl)
