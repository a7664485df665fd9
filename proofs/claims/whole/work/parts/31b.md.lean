theorem d_TripleLinesModel_digits_0 : decode b_TripleLinesModel_digits 0 = .ok (.aload_n 0, 1) := by decide +kernel
theorem d_TripleLinesModel_digits_1 : decode b_TripleLinesModel_digits 1 = .ok (.aload_n 0, 1) := by decide +kernel
theorem d_TripleLinesModel_digits_2 : decode b_TripleLinesModel_digits 2 = .ok (.getfield 79, 3) := by decide +kernel
theorem d_TripleLinesModel_digits_5 : decode b_TripleLinesModel_digits 5 = .ok (.iconst 1, 1) := by decide +kernel
theorem d_TripleLinesModel_digits_6 : decode b_TripleLinesModel_digits 6 = .ok (.iadd, 1) := by decide +kernel
theorem d_TripleLinesModel_digits_7 : decode b_TripleLinesModel_digits 7 = .ok (.invokevirtual 82, 3) := by decide +kernel
theorem d_TripleLinesModel_digits_10 : decode b_TripleLinesModel_digits 10 = .ok (.bipush 117, 2) := by decide +kernel
theorem d_TripleLinesModel_digits_12 : decode b_TripleLinesModel_digits 12 = .ok (.if_icmp .ne 7, 3) := by decide +kernel
theorem d_TripleLinesModel_digits_15 : decode b_TripleLinesModel_digits 15 = .ok (.iconst 4, 1) := by decide +kernel
theorem d_TripleLinesModel_digits_16 : decode b_TripleLinesModel_digits 16 = .ok (.goto 24, 3) := by decide +kernel
theorem d_TripleLinesModel_digits_19 : decode b_TripleLinesModel_digits 19 = .ok (.aload_n 0, 1) := by decide +kernel
theorem d_TripleLinesModel_digits_20 : decode b_TripleLinesModel_digits 20 = .ok (.aload_n 0, 1) := by decide +kernel
theorem d_TripleLinesModel_digits_21 : decode b_TripleLinesModel_digits 21 = .ok (.getfield 79, 3) := by decide +kernel
theorem d_TripleLinesModel_digits_24 : decode b_TripleLinesModel_digits 24 = .ok (.iconst 1, 1) := by decide +kernel
theorem d_TripleLinesModel_digits_25 : decode b_TripleLinesModel_digits 25 = .ok (.iadd, 1) := by decide +kernel
theorem d_TripleLinesModel_digits_26 : decode b_TripleLinesModel_digits 26 = .ok (.invokevirtual 82, 3) := by decide +kernel
theorem d_TripleLinesModel_digits_29 : decode b_TripleLinesModel_digits 29 = .ok (.bipush 85, 2) := by decide +kernel
theorem d_TripleLinesModel_digits_31 : decode b_TripleLinesModel_digits 31 = .ok (.if_icmp .ne 8, 3) := by decide +kernel
theorem d_TripleLinesModel_digits_34 : decode b_TripleLinesModel_digits 34 = .ok (.bipush 8, 2) := by decide +kernel
theorem d_TripleLinesModel_digits_36 : decode b_TripleLinesModel_digits 36 = .ok (.goto 4, 3) := by decide +kernel
theorem d_TripleLinesModel_digits_39 : decode b_TripleLinesModel_digits 39 = .ok (.iconst 0, 1) := by decide +kernel
theorem d_TripleLinesModel_digits_40 : decode b_TripleLinesModel_digits 40 = .ok (.istore_n 1, 1) := by decide +kernel
theorem d_TripleLinesModel_digits_41 : decode b_TripleLinesModel_digits 41 = .ok (.iconst 0, 1) := by decide +kernel
theorem d_TripleLinesModel_digits_42 : decode b_TripleLinesModel_digits 42 = .ok (.istore_n 2, 1) := by decide +kernel
theorem d_TripleLinesModel_digits_43 : decode b_TripleLinesModel_digits 43 = .ok (.iload_n 2, 1) := by decide +kernel
theorem d_TripleLinesModel_digits_44 : decode b_TripleLinesModel_digits 44 = .ok (.iload_n 1, 1) := by decide +kernel
theorem d_TripleLinesModel_digits_45 : decode b_TripleLinesModel_digits 45 = .ok (.if_icmp .ge 33, 3) := by decide +kernel
theorem d_TripleLinesModel_digits_48 : decode b_TripleLinesModel_digits 48 = .ok (.aload_n 0, 1) := by decide +kernel
theorem d_TripleLinesModel_digits_49 : decode b_TripleLinesModel_digits 49 = .ok (.aload_n 0, 1) := by decide +kernel
theorem d_TripleLinesModel_digits_50 : decode b_TripleLinesModel_digits 50 = .ok (.getfield 79, 3) := by decide +kernel
theorem d_TripleLinesModel_digits_53 : decode b_TripleLinesModel_digits 53 = .ok (.iconst 2, 1) := by decide +kernel
theorem d_TripleLinesModel_digits_54 : decode b_TripleLinesModel_digits 54 = .ok (.iadd, 1) := by decide +kernel
theorem d_TripleLinesModel_digits_55 : decode b_TripleLinesModel_digits 55 = .ok (.iload_n 2, 1) := by decide +kernel
theorem d_TripleLinesModel_digits_56 : decode b_TripleLinesModel_digits 56 = .ok (.iadd, 1) := by decide +kernel
theorem d_TripleLinesModel_digits_57 : decode b_TripleLinesModel_digits 57 = .ok (.invokevirtual 82, 3) := by decide +kernel
theorem d_TripleLinesModel_digits_60 : decode b_TripleLinesModel_digits 60 = .ok (.invokestatic 104, 3) := by decide +kernel
theorem d_TripleLinesModel_digits_63 : decode b_TripleLinesModel_digits 63 = .ok (.ifCond .ge 7, 3) := by decide +kernel
theorem d_TripleLinesModel_digits_66 : decode b_TripleLinesModel_digits 66 = .ok (.iconst 0, 1) := by decide +kernel
theorem d_TripleLinesModel_digits_67 : decode b_TripleLinesModel_digits 67 = .ok (.goto 4, 3) := by decide +kernel
theorem d_TripleLinesModel_digits_70 : decode b_TripleLinesModel_digits 70 = .ok (.iload_n 1, 1) := by decide +kernel
theorem d_TripleLinesModel_digits_71 : decode b_TripleLinesModel_digits 71 = .ok (.istore_n 1, 1) := by decide +kernel
theorem d_TripleLinesModel_digits_72 : decode b_TripleLinesModel_digits 72 = .ok (.iinc 2 1, 3) := by decide +kernel
theorem d_TripleLinesModel_digits_75 : decode b_TripleLinesModel_digits 75 = .ok (.goto (-32), 3) := by decide +kernel
theorem d_TripleLinesModel_digits_78 : decode b_TripleLinesModel_digits 78 = .ok (.iload_n 1, 1) := by decide +kernel
theorem d_TripleLinesModel_digits_79 : decode b_TripleLinesModel_digits 79 = .ok (.ireturn, 1) := by decide +kernel
theorem d_TripleLinesModel_value_0 : decode b_TripleLinesModel_value 0 = .ok (.lconst 0, 1) := by decide +kernel
theorem d_TripleLinesModel_value_1 : decode b_TripleLinesModel_value 1 = .ok (.lstore_n 2, 1) := by decide +kernel
theorem d_TripleLinesModel_value_2 : decode b_TripleLinesModel_value 2 = .ok (.iconst 0, 1) := by decide +kernel
theorem d_TripleLinesModel_value_3 : decode b_TripleLinesModel_value 3 = .ok (.istore 4, 2) := by decide +kernel
theorem d_TripleLinesModel_value_5 : decode b_TripleLinesModel_value 5 = .ok (.iload 4, 2) := by decide +kernel
theorem d_TripleLinesModel_value_7 : decode b_TripleLinesModel_value 7 = .ok (.iload_n 1, 1) := by decide +kernel
theorem d_TripleLinesModel_value_8 : decode b_TripleLinesModel_value 8 = .ok (.if_icmp .ge 33, 3) := by decide +kernel
theorem d_TripleLinesModel_value_11 : decode b_TripleLinesModel_value 11 = .ok (.ldc2_w 107, 3) := by decide +kernel
theorem d_TripleLinesModel_value_14 : decode b_TripleLinesModel_value 14 = .ok (.lload_n 2, 1) := by decide +kernel
theorem d_TripleLinesModel_value_15 : decode b_TripleLinesModel_value 15 = .ok (.lmul, 1) := by decide +kernel
theorem d_TripleLinesModel_value_16 : decode b_TripleLinesModel_value 16 = .ok (.aload_n 0, 1) := by decide +kernel
theorem d_TripleLinesModel_value_17 : decode b_TripleLinesModel_value 17 = .ok (.aload_n 0, 1) := by decide +kernel
theorem d_TripleLinesModel_value_18 : decode b_TripleLinesModel_value 18 = .ok (.getfield 79, 3) := by decide +kernel
theorem d_TripleLinesModel_value_21 : decode b_TripleLinesModel_value 21 = .ok (.iconst 2, 1) := by decide +kernel
theorem d_TripleLinesModel_value_22 : decode b_TripleLinesModel_value 22 = .ok (.iadd, 1) := by decide +kernel
theorem d_TripleLinesModel_value_23 : decode b_TripleLinesModel_value 23 = .ok (.iload 4, 2) := by decide +kernel
theorem d_TripleLinesModel_value_25 : decode b_TripleLinesModel_value 25 = .ok (.iadd, 1) := by decide +kernel
theorem d_TripleLinesModel_value_26 : decode b_TripleLinesModel_value 26 = .ok (.invokevirtual 82, 3) := by decide +kernel
theorem d_TripleLinesModel_value_29 : decode b_TripleLinesModel_value 29 = .ok (.invokestatic 104, 3) := by decide +kernel
theorem d_TripleLinesModel_value_32 : decode b_TripleLinesModel_value 32 = .ok (.i2l, 1) := by decide +kernel
theorem d_TripleLinesModel_value_33 : decode b_TripleLinesModel_value 33 = .ok (.ladd, 1) := by decide +kernel
theorem d_TripleLinesModel_value_34 : decode b_TripleLinesModel_value 34 = .ok (.lstore_n 2, 1) := by decide +kernel
theorem d_TripleLinesModel_value_35 : decode b_TripleLinesModel_value 35 = .ok (.iinc 4 1, 3) := by decide +kernel
theorem d_TripleLinesModel_value_38 : decode b_TripleLinesModel_value 38 = .ok (.goto (-33), 3) := by decide +kernel
theorem d_TripleLinesModel_value_41 : decode b_TripleLinesModel_value 41 = .ok (.lload_n 2, 1) := by decide +kernel
theorem d_TripleLinesModel_value_42 : decode b_TripleLinesModel_value 42 = .ok (.lreturn, 1) := by decide +kernel
set_option maxHeartbeats 4000000 in
set_option maxRecDepth 100000 in
theorem c_TripleLinesModel_digits (l : Launch) (D : va_G) (cI : ClassId) (mM : Nat) (tm : Int) (aT : Nat) (om : Int) (aO : Nat) (tn : Int) (aK : Nat) (aS : Nat) (aC : Nat) (aU : Nat) (aG : Nat) (aY : Nat) (aX : Nat) (qn : Int) (aP : Nat) (tr : Int) (rg : Int) (ll : Int) (p : Int) (f : Int) (ov : Int) (sz : Int) (aM : Nat) (tz : Int) (aA : Nat) (dm : Int) (aD : Nat) (aB : Nat) (aV : Nat) (aE : Nat) (fT : Nat → Int32) (h0 : 0 ≤ tm ∧ tm ≤ 3000) (hp : 0 ≤ p ∧ p ≤ 3000) : CtI l D [(cI, .int)] y_TripleLinesModel_digits b_TripleLinesModel_digits 3 (some .int) 3 [.ref mM] [(mM, .inr (6, [.int (iI tm), .ref aT, .int (iI om), .ref aO, .int (iI tn), .ref aK, .ref aS, .ref aC, .ref aU, .ref aG, .ref aY, .ref aX, .int (iI qn), .ref aP, .int (iI tr), .int (iI rg), .int (iI ll), .int (iI p), .int (iI f), .int (iI ov), .int (iI sz), .ref aM, .int (iI tz), .ref aA, .int (iI dm), .ref aD, .ref aB, .ref aV, .ref aE])), (aT, .inl (cI, 3000, .inl fT))] (S := Unit) (fun z u => z = dgt (lst (tI fT) tm) p) (fun u => [(mM, .inr (6, [.int (iI tm), .ref aT, .int (iI om), .ref aO, .int (iI tn), .ref aK, .ref aS, .ref aC, .ref aU, .ref aG, .ref aY, .ref aX, .int (iI qn), .ref aP, .int (iI tr), .int (iI rg), .int (iI ll), .int (iI p), .int (iI f), .int (iI ov), .int (iI sz), .ref aM, .int (iI tz), .ref aA, .int (iI dm), .ref aD, .ref aB, .ref aV, .ref aE])), (aT, .inl (cI, 3000, .inl fT))]) := by
  refine CtI.walk (fun _ => True) (fun z _ => vp_nar_int _) (by decide) (Nat.le_of_ble_eq_true rfl) ?_
  intro xp xe0 xs xm xar xbelow xmeth xc xA0 xQ xe xb xml xo xt xP xK xD xA xret ls xl xS
  have xl : lv_has ls 3 [(0, .ref mM)] := xl
  have xo : xs.vm.findClass R_TripleLinesModel = some xm.cls := xo
  refine lv_aload_n xe xb d_TripleLinesModel_digits_0 rfl (lv_at xl 0 rfl) ?_
  refine lv_aload_n xe xb d_TripleLinesModel_digits_1 rfl (lv_at xl 0 rfl) ?_
  refine va_get (D := D) (ci := 6) (v := .int (iI p)) (C := R_TripleLinesModel) (T := F_TripleLinesModel) (N := 29) xe xb xt i_TripleLinesModel xo xK xP 0 rfl rfl 17 (by decide) (xt _ mw_TripleLinesModel_79) (fun _ h9 => h9) rfl d_TripleLinesModel_digits_2 ?_
  refine lv_iconst (v := iI (1)) xe xb d_TripleLinesModel_digits_5 rfl ?_
  refine tk_iadd xe xb d_TripleLinesModel_digits_6 ?_
  refine tk_callVi (As := [.int (iI (p + 1))]) (rest := []) (wr := []) (wn := fun u => [(mM, .inr (6, [.int (iI tm), .ref aT, .int (iI om), .ref aO, .int (iI tn), .ref aK, .ref aS, .ref aC, .ref aU, .ref aG, .ref aY, .ref aX, .int (iI qn), .ref aP, .int (iI tr), .int (iI rg), .int (iI ll), .int (iI p), .int (iI f), .int (iI ov), .int (iI sz), .ref aM, .int (iI tz), .ref aA, .int (iI dm), .ref aD, .ref aB, .ref aV, .ref aE])), (aT, .inl (cI, 3000, .inl fT))]) ⟨xe, xb, xml, xo, xt⟩ (c_TripleLinesModel_look l D cI mM tm aT om aO tn aK aS aC aU aG aY aX qn aP tr rg ll p f ov sz aM tz aA dm aD aB aV aE fT (p + 1) (by first | assumption | omega) (by first | assumption | omega)) k_TripleLinesModel_look mw_TripleLinesModel_82 ⟨Nat.le_of_ble_eq_true rfl, Nat.le_of_ble_eq_true rfl⟩ xK xP xD xS xA rfl xl.1 rfl (Nat.le_of_ble_eq_true rfl) d_TripleLinesModel_digits_7 ⟨Nat.zero_le _, Nat.zero_le _⟩ [0, 1] [] [0, 1] rfl rfl (by decide) (by decide) (by decide) (by decide) (fun _ => rfl) rfl rfl rfl ?_
  clear xP xD xS
  intro z_2 u H locs hr_3 hw_1 xP xD xS
  try dsimp only at hw_1
  replace xP : va_P D classes [(mM, .inr (6, [.int (iI tm), .ref aT, .int (iI om), .ref aO, .int (iI tn), .ref aK, .ref aS, .ref aC, .ref aU, .ref aG, .ref aY, .ref aX, .int (iI qn), .ref aP, .int (iI tr), .int (iI rg), .int (iI ll), .int (iI p), .int (iI f), .int (iI ov), .int (iI sz), .ref aM, .int (iI tz), .ref aA, .int (iI dm), .ref aD, .ref aB, .ref aV, .ref aE])), (aT, .inl (cI, 3000, .inl fT))] H := xP
  replace xD : va_D xA0 [(mM, .inr (6, [.int (iI tm), .ref aT, .int (iI om), .ref aO, .int (iI tn), .ref aK, .ref aS, .ref aC, .ref aU, .ref aG, .ref aY, .ref aX, .int (iI qn), .ref aP, .int (iI tr), .int (iI rg), .int (iI ll), .int (iI p), .int (iI f), .int (iI ov), .int (iI sz), .ref aM, .int (iI tz), .ref aA, .int (iI dm), .ref aD, .ref aB, .ref aV, .ref aE])), (aT, .inl (cI, 3000, .inl fT))] := xD
  have HG := hw_1
  refine lv_bipush (v := iI (117)) xe xb d_TripleLinesModel_digits_10 (by decide) ?_
  refine tk_icmp_ne (tgt := 19) xe xb d_TripleLinesModel_digits_12 (by decide) (by omega) (fun c_4 => ?_) (fun c_4 => ?_)
  · refine lv_aload_n xe xb d_TripleLinesModel_digits_19 rfl (lv_at xl 0 rfl) ?_
    refine lv_aload_n xe xb d_TripleLinesModel_digits_20 rfl (lv_at xl 0 rfl) ?_
    refine va_get (D := D) (ci := 6) (v := .int (iI p)) (C := R_TripleLinesModel) (T := F_TripleLinesModel) (N := 29) xe xb xt i_TripleLinesModel xo xK xP 0 rfl rfl 17 (by decide) (xt _ mw_TripleLinesModel_79) (fun _ h9 => h9) rfl d_TripleLinesModel_digits_21 ?_
    refine lv_iconst (v := iI (1)) xe xb d_TripleLinesModel_digits_24 rfl ?_
    refine tk_iadd xe xb d_TripleLinesModel_digits_25 ?_
    refine tk_callVi (As := [.int (iI (p + 1))]) (rest := []) (wr := []) (wn := fun u => [(mM, .inr (6, [.int (iI tm), .ref aT, .int (iI om), .ref aO, .int (iI tn), .ref aK, .ref aS, .ref aC, .ref aU, .ref aG, .ref aY, .ref aX, .int (iI qn), .ref aP, .int (iI tr), .int (iI rg), .int (iI ll), .int (iI p), .int (iI f), .int (iI ov), .int (iI sz), .ref aM, .int (iI tz), .ref aA, .int (iI dm), .ref aD, .ref aB, .ref aV, .ref aE])), (aT, .inl (cI, 3000, .inl fT))]) ⟨xe, xb, xml, xo, xt⟩ (c_TripleLinesModel_look l D cI mM tm aT om aO tn aK aS aC aU aG aY aX qn aP tr rg ll p f ov sz aM tz aA dm aD aB aV aE fT (p + 1) (by first | assumption | omega) (by first | assumption | omega)) k_TripleLinesModel_look mw_TripleLinesModel_82 ⟨Nat.le_of_ble_eq_true rfl, Nat.le_of_ble_eq_true rfl⟩ xK xP xD xS xA rfl xl.1 rfl (Nat.le_of_ble_eq_true rfl) d_TripleLinesModel_digits_26 ⟨Nat.zero_le _, Nat.zero_le _⟩ [0, 1] [] [0, 1] rfl rfl (by decide) (by decide) (by decide) (by decide) (fun _ => rfl) rfl rfl rfl ?_
    clear xP xD xS
    intro z_6 u H locs hr_7 hw_5 xP xD xS
    try dsimp only at hw_5
    replace xP : va_P D classes [(mM, .inr (6, [.int (iI tm), .ref aT, .int (iI om), .ref aO, .int (iI tn), .ref aK, .ref aS, .ref aC, .ref aU, .ref aG, .ref aY, .ref aX, .int (iI qn), .ref aP, .int (iI tr), .int (iI rg), .int (iI ll), .int (iI p), .int (iI f), .int (iI ov), .int (iI sz), .ref aM, .int (iI tz), .ref aA, .int (iI dm), .ref aD, .ref aB, .ref aV, .ref aE])), (aT, .inl (cI, 3000, .inl fT))] H := xP
    replace xD : va_D xA0 [(mM, .inr (6, [.int (iI tm), .ref aT, .int (iI om), .ref aO, .int (iI tn), .ref aK, .ref aS, .ref aC, .ref aU, .ref aG, .ref aY, .ref aX, .int (iI qn), .ref aP, .int (iI tr), .int (iI rg), .int (iI ll), .int (iI p), .int (iI f), .int (iI ov), .int (iI sz), .ref aM, .int (iI tz), .ref aA, .int (iI dm), .ref aD, .ref aB, .ref aV, .ref aE])), (aT, .inl (cI, 3000, .inl fT))] := xD
    have HG2 := hw_5
    refine lv_bipush (v := iI (85)) xe xb d_TripleLinesModel_digits_29 (by decide) ?_
    refine tk_icmp_ne (tgt := 39) xe xb d_TripleLinesModel_digits_31 (by decide) (by omega) (fun c_8 => ?_) (fun c_8 => ?_)
    · refine lv_iconst (v := iI (0)) xe xb d_TripleLinesModel_digits_39 rfl ?_
      refine lv_istore_n (lv' := [(1, .int (iI 0)), (0, .ref mM)]) xe xb d_TripleLinesModel_digits_40 rfl xl (by decide) rfl ?_
      clear xl
      intro ls xl
      refine lv_iconst (v := iI (0)) xe xb d_TripleLinesModel_digits_41 rfl ?_
      refine lv_istore_n (lv' := [(2, .int (iI 0)), (1, .int (iI 0)), (0, .ref mM)]) xe xb d_TripleLinesModel_digits_42 rfl xl (by decide) rfl ?_
      clear xl
      intro ls xl
      have loop_43 : ∀ (n9 : Nat) (n : Int) (k : Int), (8 - k).toNat < n9 → (0 ≤ n ∧ n ≤ 8 ∧ 0 ≤ k ∧ k ≤ 8 ∧ (n = 0 ∨ k ≤ n)) → (dgL (lst (tI fT) tm) p n k = dgt (lst (tI fT) tm) p) → ∀ (H : Heap) (locs : List Loc), va_P D classes [(mM, .inr (6, [.int (iI tm), .ref aT, .int (iI om), .ref aO, .int (iI tn), .ref aK, .ref aS, .ref aC, .ref aU, .ref aG, .ref aY, .ref aX, .int (iI qn), .ref aP, .int (iI tr), .int (iI rg), .int (iI ll), .int (iI p), .int (iI f), .int (iI ov), .int (iI sz), .ref aM, .int (iI tz), .ref aA, .int (iI dm), .ref aD, .ref aB, .ref aV, .ref aE])), (aT, .inl (cI, 3000, .inl fT))] H → va_D xA0 [(mM, .inr (6, [.int (iI tm), .ref aT, .int (iI om), .ref aO, .int (iI tn), .ref aK, .ref aS, .ref aC, .ref aU, .ref aG, .ref aY, .ref aX, .int (iI qn), .ref aP, .int (iI tr), .int (iI rg), .int (iI ll), .int (iI p), .int (iI f), .int (iI ov), .int (iI sz), .ref aM, .int (iI tz), .ref aA, .int (iI dm), .ref aD, .ref aB, .ref aV, .ref aE])), (aT, .inl (cI, 3000, .inl fT))] → va_S xA0 xs.heap H locs → ∀ ls : Array Slot, lv_has ls 3 [(0, .ref mM), (1, .int (iI n)), (2, .int (iI k))] → W xp l xe0 (tk_rm 3) xs xm xar xbelow xmeth xc H locs 0 0 xQ (F0 xm 43 ls []) := by
        intro n9
        induction n9 with
        | zero => intro n k h9; exact absurd h9 (Nat.not_lt_zero _)
        | succ n9 ih9 =>
          intro n k hm9 hn h1 H locs xP xD xS ls xl
          have ih_43 := ih9
          have hm_43 := hm9
          refine lv_iload_n xe xb d_TripleLinesModel_digits_43 rfl (lv_at xl 2 rfl) ?_
          refine lv_iload_n xe xb d_TripleLinesModel_digits_44 rfl (lv_at xl 1 rfl) ?_
          refine tk_icmp_ge (tgt := 78) xe xb d_TripleLinesModel_digits_45 (by decide) (by omega) (fun C45 => ?_) (fun C45 => ?_)
          · refine lv_iload_n xe xb d_TripleLinesModel_digits_78 rfl (lv_at xl 1 rfl) ?_
            exact xret _ _ _ _ n () d_TripleLinesModel_digits_79 trivial (by omega) ((dgL_end C45).symm.trans h1) xP xD xS
          · refine lv_aload_n xe xb d_TripleLinesModel_digits_48 rfl (lv_at xl 0 rfl) ?_
            refine lv_aload_n xe xb d_TripleLinesModel_digits_49 rfl (lv_at xl 0 rfl) ?_
            refine va_get (D := D) (ci := 6) (v := .int (iI p)) (C := R_TripleLinesModel) (T := F_TripleLinesModel) (N := 29) xe xb xt i_TripleLinesModel xo xK xP 0 rfl rfl 17 (by decide) (xt _ mw_TripleLinesModel_79) (fun _ h9 => h9) rfl d_TripleLinesModel_digits_50 ?_
            refine lv_iconst (v := iI (2)) xe xb d_TripleLinesModel_digits_53 rfl ?_
            refine tk_iadd xe xb d_TripleLinesModel_digits_54 ?_
            refine lv_iload_n xe xb d_TripleLinesModel_digits_55 rfl (lv_at xl 2 rfl) ?_
            refine tk_iadd xe xb d_TripleLinesModel_digits_56 ?_
            refine tk_callVi (As := [.int (iI ((p + 2) + k))]) (rest := []) (wr := []) (wn := fun u => [(mM, .inr (6, [.int (iI tm), .ref aT, .int (iI om), .ref aO, .int (iI tn), .ref aK, .ref aS, .ref aC, .ref aU, .ref aG, .ref aY, .ref aX, .int (iI qn), .ref aP, .int (iI tr), .int (iI rg), .int (iI ll), .int (iI p), .int (iI f), .int (iI ov), .int (iI sz), .ref aM, .int (iI tz), .ref aA, .int (iI dm), .ref aD, .ref aB, .ref aV, .ref aE])), (aT, .inl (cI, 3000, .inl fT))]) ⟨xe, xb, xml, xo, xt⟩ (c_TripleLinesModel_look l D cI mM tm aT om aO tn aK aS aC aU aG aY aX qn aP tr rg ll p f ov sz aM tz aA dm aD aB aV aE fT ((p + 2) + k) (by first | assumption | omega) (by first | assumption | omega)) k_TripleLinesModel_look mw_TripleLinesModel_82 ⟨Nat.le_of_ble_eq_true rfl, Nat.le_of_ble_eq_true rfl⟩ xK xP xD xS xA rfl xl.1 rfl (Nat.le_of_ble_eq_true rfl) d_TripleLinesModel_digits_57 ⟨Nat.zero_le _, Nat.zero_le _⟩ [0, 1] [] [0, 1] rfl rfl (by decide) (by decide) (by decide) (by decide) (fun _ => rfl) rfl rfl rfl ?_
            clear xP xD xS
            intro z_10 u H locs hr_11 hw_9 xP xD xS
            try dsimp only at hw_9
            replace xP : va_P D classes [(mM, .inr (6, [.int (iI tm), .ref aT, .int (iI om), .ref aO, .int (iI tn), .ref aK, .ref aS, .ref aC, .ref aU, .ref aG, .ref aY, .ref aX, .int (iI qn), .ref aP, .int (iI tr), .int (iI rg), .int (iI ll), .int (iI p), .int (iI f), .int (iI ov), .int (iI sz), .ref aM, .int (iI tz), .ref aA, .int (iI dm), .ref aD, .ref aB, .ref aV, .ref aE])), (aT, .inl (cI, 3000, .inl fT))] H := xP
            replace xD : va_D xA0 [(mM, .inr (6, [.int (iI tm), .ref aT, .int (iI om), .ref aO, .int (iI tn), .ref aK, .ref aS, .ref aC, .ref aU, .ref aG, .ref aY, .ref aX, .int (iI qn), .ref aP, .int (iI tr), .int (iI rg), .int (iI ll), .int (iI p), .int (iI f), .int (iI ov), .int (iI sz), .ref aM, .int (iI tz), .ref aA, .int (iI dm), .ref aD, .ref aB, .ref aV, .ref aE])), (aT, .inl (cI, 3000, .inl fT))] := xD
            have HG3 := hw_9
            refine tk_callSi (As := [.int (iI z_10)]) (rest := []) (wr := [(mM, .inr (6, [.int (iI tm), .ref aT, .int (iI om), .ref aO, .int (iI tn), .ref aK, .ref aS, .ref aC, .ref aU, .ref aG, .ref aY, .ref aX, .int (iI qn), .ref aP, .int (iI tr), .int (iI rg), .int (iI ll), .int (iI p), .int (iI f), .int (iI ov), .int (iI sz), .ref aM, .int (iI tz), .ref aA, .int (iI dm), .ref aD, .ref aB, .ref aV, .ref aE])), (aT, .inl (cI, 3000, .inl fT))]) (wn := fun u => [(mM, .inr (6, [.int (iI tm), .ref aT, .int (iI om), .ref aO, .int (iI tn), .ref aK, .ref aS, .ref aC, .ref aU, .ref aG, .ref aY, .ref aX, .int (iI qn), .ref aP, .int (iI tr), .int (iI rg), .int (iI ll), .int (iI p), .int (iI f), .int (iI ov), .int (iI sz), .ref aM, .int (iI tz), .ref aA, .int (iI dm), .ref aD, .ref aB, .ref aV, .ref aE])), (aT, .inl (cI, 3000, .inl fT))]) ⟨xe, xb, xml, xo, xt⟩ (c_TripleLinesModel_hex l D cI z_10 (by first | assumption | omega)) k_TripleLinesModel_hex mw_TripleLinesModel_104 ⟨Nat.le_of_ble_eq_true rfl, Nat.le_of_ble_eq_true rfl⟩ xK xP xD xS xA rfl xl.1 rfl (Nat.le_of_ble_eq_true rfl) d_TripleLinesModel_digits_60 ⟨Nat.zero_le _, Nat.zero_le _⟩ [] [0, 1] [0, 1] rfl rfl (by decide) (by decide) (by decide) (by decide) (fun _ => rfl) ?_
            clear xP xD xS
            intro z_13 u H locs hr_14 hw_12 xP xD xS
            try dsimp only at hw_12
            replace xP : va_P D classes [(mM, .inr (6, [.int (iI tm), .ref aT, .int (iI om), .ref aO, .int (iI tn), .ref aK, .ref aS, .ref aC, .ref aU, .ref aG, .ref aY, .ref aX, .int (iI qn), .ref aP, .int (iI tr), .int (iI rg), .int (iI ll), .int (iI p), .int (iI f), .int (iI ov), .int (iI sz), .ref aM, .int (iI tz), .ref aA, .int (iI dm), .ref aD, .ref aB, .ref aV, .ref aE])), (aT, .inl (cI, 3000, .inl fT))] H := xP
            replace xD : va_D xA0 [(mM, .inr (6, [.int (iI tm), .ref aT, .int (iI om), .ref aO, .int (iI tn), .ref aK, .ref aS, .ref aC, .ref aU, .ref aG, .ref aY, .ref aX, .int (iI qn), .ref aP, .int (iI tr), .int (iI rg), .int (iI ll), .int (iI p), .int (iI f), .int (iI ov), .int (iI sz), .ref aM, .int (iI tz), .ref aA, .int (iI dm), .ref aD, .ref aB, .ref aV, .ref aE])), (aT, .inl (cI, 3000, .inl fT))] := xD
            have HX := hw_12
            refine tk_if_ge (tgt := 70) xe xb d_TripleLinesModel_digits_63 (by decide) (by omega) (fun c_15 => ?_) (fun c_15 => ?_)
            · refine lv_iload_n xe xb d_TripleLinesModel_digits_70 rfl (lv_at xl 1 rfl) ?_
              refine lv_istore_n (lv' := [(1, .int (iI n)), (0, .ref mM), (2, .int (iI k))]) xe xb d_TripleLinesModel_digits_71 rfl xl (by decide) rfl ?_
              clear xl
              intro ls xl
              refine tk_iinc (v := (k + 1)) (lv' := [(2, .int (iI (k + 1))), (1, .int (iI n)), (0, .ref mM)]) xe xb d_TripleLinesModel_digits_72 xl (k := 2) rfl rfl (by decide) rfl ?_
              clear xl
              intro ls xl
              refine lv_goto (tgt := 43) xe xb d_TripleLinesModel_digits_75 (by decide) ?_
              exact ih_43 n (k + 1) (by omega) (by omega) ((dgL_good hn.2.2.1 C45 (by rw [← HG3, ← HX]; omega)).trans h1) _ _ xP xD xS ls (lv_sub xl [2, 1, 0] rfl)
            · refine lv_iconst (v := iI (0)) xe xb d_TripleLinesModel_digits_66 rfl ?_
              refine lv_goto (tgt := 71) xe xb d_TripleLinesModel_digits_67 (by decide) ?_
              refine lv_istore_n (lv' := [(1, .int (iI 0)), (0, .ref mM), (2, .int (iI k))]) xe xb d_TripleLinesModel_digits_71 rfl xl (by decide) rfl ?_
              clear xl
              intro ls xl
              refine tk_iinc (v := (k + 1)) (lv' := [(2, .int (iI (k + 1))), (1, .int (iI 0)), (0, .ref mM)]) xe xb d_TripleLinesModel_digits_72 xl (k := 2) rfl rfl (by decide) rfl ?_
              clear xl
              intro ls xl
              refine lv_goto (tgt := 43) xe xb d_TripleLinesModel_digits_75 (by decide) ?_
              exact ih_43 0 (k + 1) (by omega) (by omega) ((dgL_bad hn.2.2.1 C45 (by have h9 := hexD_rg (rd (lst (tI fT) tm) (p + 2 + k)); rw [← HG3, ← HX] at h9 ⊢; omega)).trans h1) _ _ xP xD xS ls (lv_sub xl [2, 1, 0] rfl)
      exact loop_43 _ 0 0 (Nat.lt_succ_self _) (by omega) (dgL_o (by omega) (by omega)) _ _ xP xD xS ls (lv_sub xl [2, 1, 0] rfl)
    · refine lv_bipush (v := iI (8)) xe xb d_TripleLinesModel_digits_34 (by decide) ?_
      refine lv_goto (tgt := 40) xe xb d_TripleLinesModel_digits_36 (by decide) ?_
      refine lv_istore_n (lv' := [(1, .int (iI 8)), (0, .ref mM)]) xe xb d_TripleLinesModel_digits_40 rfl xl (by decide) rfl ?_
      clear xl
      intro ls xl
      refine lv_iconst (v := iI (0)) xe xb d_TripleLinesModel_digits_41 rfl ?_
      refine lv_istore_n (lv' := [(2, .int (iI 0)), (1, .int (iI 8)), (0, .ref mM)]) xe xb d_TripleLinesModel_digits_42 rfl xl (by decide) rfl ?_
      clear xl
      intro ls xl
      have loop_43 : ∀ (n9 : Nat) (n : Int) (k : Int), (8 - k).toNat < n9 → (0 ≤ n ∧ n ≤ 8 ∧ 0 ≤ k ∧ k ≤ 8 ∧ (n = 0 ∨ k ≤ n)) → (dgL (lst (tI fT) tm) p n k = dgt (lst (tI fT) tm) p) → ∀ (H : Heap) (locs : List Loc), va_P D classes [(mM, .inr (6, [.int (iI tm), .ref aT, .int (iI om), .ref aO, .int (iI tn), .ref aK, .ref aS, .ref aC, .ref aU, .ref aG, .ref aY, .ref aX, .int (iI qn), .ref aP, .int (iI tr), .int (iI rg), .int (iI ll), .int (iI p), .int (iI f), .int (iI ov), .int (iI sz), .ref aM, .int (iI tz), .ref aA, .int (iI dm), .ref aD, .ref aB, .ref aV, .ref aE])), (aT, .inl (cI, 3000, .inl fT))] H → va_D xA0 [(mM, .inr (6, [.int (iI tm), .ref aT, .int (iI om), .ref aO, .int (iI tn), .ref aK, .ref aS, .ref aC, .ref aU, .ref aG, .ref aY, .ref aX, .int (iI qn), .ref aP, .int (iI tr), .int (iI rg), .int (iI ll), .int (iI p), .int (iI f), .int (iI ov), .int (iI sz), .ref aM, .int (iI tz), .ref aA, .int (iI dm), .ref aD, .ref aB, .ref aV, .ref aE])), (aT, .inl (cI, 3000, .inl fT))] → va_S xA0 xs.heap H locs → ∀ ls : Array Slot, lv_has ls 3 [(0, .ref mM), (1, .int (iI n)), (2, .int (iI k))] → W xp l xe0 (tk_rm 3) xs xm xar xbelow xmeth xc H locs 0 0 xQ (F0 xm 43 ls []) := by
        intro n9
        induction n9 with
        | zero => intro n k h9; exact absurd h9 (Nat.not_lt_zero _)
        | succ n9 ih9 =>
          intro n k hm9 hn h1 H locs xP xD xS ls xl
          have ih_43 := ih9
          have hm_43 := hm9
          refine lv_iload_n xe xb d_TripleLinesModel_digits_43 rfl (lv_at xl 2 rfl) ?_
          refine lv_iload_n xe xb d_TripleLinesModel_digits_44 rfl (lv_at xl 1 rfl) ?_
          refine tk_icmp_ge (tgt := 78) xe xb d_TripleLinesModel_digits_45 (by decide) (by omega) (fun C45 => ?_) (fun C45 => ?_)
          · refine lv_iload_n xe xb d_TripleLinesModel_digits_78 rfl (lv_at xl 1 rfl) ?_
            exact xret _ _ _ _ n () d_TripleLinesModel_digits_79 trivial (by omega) ((dgL_end C45).symm.trans h1) xP xD xS
          · refine lv_aload_n xe xb d_TripleLinesModel_digits_48 rfl (lv_at xl 0 rfl) ?_
            refine lv_aload_n xe xb d_TripleLinesModel_digits_49 rfl (lv_at xl 0 rfl) ?_
            refine va_get (D := D) (ci := 6) (v := .int (iI p)) (C := R_TripleLinesModel) (T := F_TripleLinesModel) (N := 29) xe xb xt i_TripleLinesModel xo xK xP 0 rfl rfl 17 (by decide) (xt _ mw_TripleLinesModel_79) (fun _ h9 => h9) rfl d_TripleLinesModel_digits_50 ?_
            refine lv_iconst (v := iI (2)) xe xb d_TripleLinesModel_digits_53 rfl ?_
            refine tk_iadd xe xb d_TripleLinesModel_digits_54 ?_
            refine lv_iload_n xe xb d_TripleLinesModel_digits_55 rfl (lv_at xl 2 rfl) ?_
            refine tk_iadd xe xb d_TripleLinesModel_digits_56 ?_
            refine tk_callVi (As := [.int (iI ((p + 2) + k))]) (rest := []) (wr := []) (wn := fun u => [(mM, .inr (6, [.int (iI tm), .ref aT, .int (iI om), .ref aO, .int (iI tn), .ref aK, .ref aS, .ref aC, .ref aU, .ref aG, .ref aY, .ref aX, .int (iI qn), .ref aP, .int (iI tr), .int (iI rg), .int (iI ll), .int (iI p), .int (iI f), .int (iI ov), .int (iI sz), .ref aM, .int (iI tz), .ref aA, .int (iI dm), .ref aD, .ref aB, .ref aV, .ref aE])), (aT, .inl (cI, 3000, .inl fT))]) ⟨xe, xb, xml, xo, xt⟩ (c_TripleLinesModel_look l D cI mM tm aT om aO tn aK aS aC aU aG aY aX qn aP tr rg ll p f ov sz aM tz aA dm aD aB aV aE fT ((p + 2) + k) (by first | assumption | omega) (by first | assumption | omega)) k_TripleLinesModel_look mw_TripleLinesModel_82 ⟨Nat.le_of_ble_eq_true rfl, Nat.le_of_ble_eq_true rfl⟩ xK xP xD xS xA rfl xl.1 rfl (Nat.le_of_ble_eq_true rfl) d_TripleLinesModel_digits_57 ⟨Nat.zero_le _, Nat.zero_le _⟩ [0, 1] [] [0, 1] rfl rfl (by decide) (by decide) (by decide) (by decide) (fun _ => rfl) rfl rfl rfl ?_
            clear xP xD xS
            intro z_17 u H locs hr_18 hw_16 xP xD xS
            try dsimp only at hw_16
            replace xP : va_P D classes [(mM, .inr (6, [.int (iI tm), .ref aT, .int (iI om), .ref aO, .int (iI tn), .ref aK, .ref aS, .ref aC, .ref aU, .ref aG, .ref aY, .ref aX, .int (iI qn), .ref aP, .int (iI tr), .int (iI rg), .int (iI ll), .int (iI p), .int (iI f), .int (iI ov), .int (iI sz), .ref aM, .int (iI tz), .ref aA, .int (iI dm), .ref aD, .ref aB, .ref aV, .ref aE])), (aT, .inl (cI, 3000, .inl fT))] H := xP
            replace xD : va_D xA0 [(mM, .inr (6, [.int (iI tm), .ref aT, .int (iI om), .ref aO, .int (iI tn), .ref aK, .ref aS, .ref aC, .ref aU, .ref aG, .ref aY, .ref aX, .int (iI qn), .ref aP, .int (iI tr), .int (iI rg), .int (iI ll), .int (iI p), .int (iI f), .int (iI ov), .int (iI sz), .ref aM, .int (iI tz), .ref aA, .int (iI dm), .ref aD, .ref aB, .ref aV, .ref aE])), (aT, .inl (cI, 3000, .inl fT))] := xD
            have HG3 := hw_16
            refine tk_callSi (As := [.int (iI z_17)]) (rest := []) (wr := [(mM, .inr (6, [.int (iI tm), .ref aT, .int (iI om), .ref aO, .int (iI tn), .ref aK, .ref aS, .ref aC, .ref aU, .ref aG, .ref aY, .ref aX, .int (iI qn), .ref aP, .int (iI tr), .int (iI rg), .int (iI ll), .int (iI p), .int (iI f), .int (iI ov), .int (iI sz), .ref aM, .int (iI tz), .ref aA, .int (iI dm), .ref aD, .ref aB, .ref aV, .ref aE])), (aT, .inl (cI, 3000, .inl fT))]) (wn := fun u => [(mM, .inr (6, [.int (iI tm), .ref aT, .int (iI om), .ref aO, .int (iI tn), .ref aK, .ref aS, .ref aC, .ref aU, .ref aG, .ref aY, .ref aX, .int (iI qn), .ref aP, .int (iI tr), .int (iI rg), .int (iI ll), .int (iI p), .int (iI f), .int (iI ov), .int (iI sz), .ref aM, .int (iI tz), .ref aA, .int (iI dm), .ref aD, .ref aB, .ref aV, .ref aE])), (aT, .inl (cI, 3000, .inl fT))]) ⟨xe, xb, xml, xo, xt⟩ (c_TripleLinesModel_hex l D cI z_17 (by first | assumption | omega)) k_TripleLinesModel_hex mw_TripleLinesModel_104 ⟨Nat.le_of_ble_eq_true rfl, Nat.le_of_ble_eq_true rfl⟩ xK xP xD xS xA rfl xl.1 rfl (Nat.le_of_ble_eq_true rfl) d_TripleLinesModel_digits_60 ⟨Nat.zero_le _, Nat.zero_le _⟩ [] [0, 1] [0, 1] rfl rfl (by decide) (by decide) (by decide) (by decide) (fun _ => rfl) ?_
            clear xP xD xS
            intro z_20 u H locs hr_21 hw_19 xP xD xS
            try dsimp only at hw_19
            replace xP : va_P D classes [(mM, .inr (6, [.int (iI tm), .ref aT, .int (iI om), .ref aO, .int (iI tn), .ref aK, .ref aS, .ref aC, .ref aU, .ref aG, .ref aY, .ref aX, .int (iI qn), .ref aP, .int (iI tr), .int (iI rg), .int (iI ll), .int (iI p), .int (iI f), .int (iI ov), .int (iI sz), .ref aM, .int (iI tz), .ref aA, .int (iI dm), .ref aD, .ref aB, .ref aV, .ref aE])), (aT, .inl (cI, 3000, .inl fT))] H := xP
            replace xD : va_D xA0 [(mM, .inr (6, [.int (iI tm), .ref aT, .int (iI om), .ref aO, .int (iI tn), .ref aK, .ref aS, .ref aC, .ref aU, .ref aG, .ref aY, .ref aX, .int (iI qn), .ref aP, .int (iI tr), .int (iI rg), .int (iI ll), .int (iI p), .int (iI f), .int (iI ov), .int (iI sz), .ref aM, .int (iI tz), .ref aA, .int (iI dm), .ref aD, .ref aB, .ref aV, .ref aE])), (aT, .inl (cI, 3000, .inl fT))] := xD
            have HX := hw_19
            refine tk_if_ge (tgt := 70) xe xb d_TripleLinesModel_digits_63 (by decide) (by omega) (fun c_22 => ?_) (fun c_22 => ?_)
            · refine lv_iload_n xe xb d_TripleLinesModel_digits_70 rfl (lv_at xl 1 rfl) ?_
              refine lv_istore_n (lv' := [(1, .int (iI n)), (0, .ref mM), (2, .int (iI k))]) xe xb d_TripleLinesModel_digits_71 rfl xl (by decide) rfl ?_
              clear xl
              intro ls xl
              refine tk_iinc (v := (k + 1)) (lv' := [(2, .int (iI (k + 1))), (1, .int (iI n)), (0, .ref mM)]) xe xb d_TripleLinesModel_digits_72 xl (k := 2) rfl rfl (by decide) rfl ?_
              clear xl
              intro ls xl
              refine lv_goto (tgt := 43) xe xb d_TripleLinesModel_digits_75 (by decide) ?_
              exact ih_43 n (k + 1) (by omega) (by omega) ((dgL_good hn.2.2.1 C45 (by rw [← HG3, ← HX]; omega)).trans h1) _ _ xP xD xS ls (lv_sub xl [2, 1, 0] rfl)
            · refine lv_iconst (v := iI (0)) xe xb d_TripleLinesModel_digits_66 rfl ?_
              refine lv_goto (tgt := 71) xe xb d_TripleLinesModel_digits_67 (by decide) ?_
              refine lv_istore_n (lv' := [(1, .int (iI 0)), (0, .ref mM), (2, .int (iI k))]) xe xb d_TripleLinesModel_digits_71 rfl xl (by decide) rfl ?_
              clear xl
              intro ls xl
              refine tk_iinc (v := (k + 1)) (lv' := [(2, .int (iI (k + 1))), (1, .int (iI 0)), (0, .ref mM)]) xe xb d_TripleLinesModel_digits_72 xl (k := 2) rfl rfl (by decide) rfl ?_
              clear xl
              intro ls xl
              refine lv_goto (tgt := 43) xe xb d_TripleLinesModel_digits_75 (by decide) ?_
              exact ih_43 0 (k + 1) (by omega) (by omega) ((dgL_bad hn.2.2.1 C45 (by have h9 := hexD_rg (rd (lst (tI fT) tm) (p + 2 + k)); rw [← HG3, ← HX] at h9 ⊢; omega)).trans h1) _ _ xP xD xS ls (lv_sub xl [2, 1, 0] rfl)
      exact loop_43 _ 8 0 (Nat.lt_succ_self _) (by omega) (dgL_U (by omega) (by omega)) _ _ xP xD xS ls (lv_sub xl [2, 1, 0] rfl)
  · refine lv_iconst (v := iI (4)) xe xb d_TripleLinesModel_digits_15 rfl ?_
    refine lv_goto (tgt := 40) xe xb d_TripleLinesModel_digits_16 (by decide) ?_
    refine lv_istore_n (lv' := [(1, .int (iI 4)), (0, .ref mM)]) xe xb d_TripleLinesModel_digits_40 rfl xl (by decide) rfl ?_
    clear xl
    intro ls xl
    refine lv_iconst (v := iI (0)) xe xb d_TripleLinesModel_digits_41 rfl ?_
    refine lv_istore_n (lv' := [(2, .int (iI 0)), (1, .int (iI 4)), (0, .ref mM)]) xe xb d_TripleLinesModel_digits_42 rfl xl (by decide) rfl ?_
    clear xl
    intro ls xl
    have loop_43 : ∀ (n9 : Nat) (n : Int) (k : Int), (8 - k).toNat < n9 → (0 ≤ n ∧ n ≤ 8 ∧ 0 ≤ k ∧ k ≤ 8 ∧ (n = 0 ∨ k ≤ n)) → (dgL (lst (tI fT) tm) p n k = dgt (lst (tI fT) tm) p) → ∀ (H : Heap) (locs : List Loc), va_P D classes [(mM, .inr (6, [.int (iI tm), .ref aT, .int (iI om), .ref aO, .int (iI tn), .ref aK, .ref aS, .ref aC, .ref aU, .ref aG, .ref aY, .ref aX, .int (iI qn), .ref aP, .int (iI tr), .int (iI rg), .int (iI ll), .int (iI p), .int (iI f), .int (iI ov), .int (iI sz), .ref aM, .int (iI tz), .ref aA, .int (iI dm), .ref aD, .ref aB, .ref aV, .ref aE])), (aT, .inl (cI, 3000, .inl fT))] H → va_D xA0 [(mM, .inr (6, [.int (iI tm), .ref aT, .int (iI om), .ref aO, .int (iI tn), .ref aK, .ref aS, .ref aC, .ref aU, .ref aG, .ref aY, .ref aX, .int (iI qn), .ref aP, .int (iI tr), .int (iI rg), .int (iI ll), .int (iI p), .int (iI f), .int (iI ov), .int (iI sz), .ref aM, .int (iI tz), .ref aA, .int (iI dm), .ref aD, .ref aB, .ref aV, .ref aE])), (aT, .inl (cI, 3000, .inl fT))] → va_S xA0 xs.heap H locs → ∀ ls : Array Slot, lv_has ls 3 [(0, .ref mM), (1, .int (iI n)), (2, .int (iI k))] → W xp l xe0 (tk_rm 3) xs xm xar xbelow xmeth xc H locs 0 0 xQ (F0 xm 43 ls []) := by
      intro n9
      induction n9 with
      | zero => intro n k h9; exact absurd h9 (Nat.not_lt_zero _)
      | succ n9 ih9 =>
        intro n k hm9 hn h1 H locs xP xD xS ls xl
        have ih_43 := ih9
        have hm_43 := hm9
        refine lv_iload_n xe xb d_TripleLinesModel_digits_43 rfl (lv_at xl 2 rfl) ?_
        refine lv_iload_n xe xb d_TripleLinesModel_digits_44 rfl (lv_at xl 1 rfl) ?_
        refine tk_icmp_ge (tgt := 78) xe xb d_TripleLinesModel_digits_45 (by decide) (by omega) (fun C45 => ?_) (fun C45 => ?_)
        · refine lv_iload_n xe xb d_TripleLinesModel_digits_78 rfl (lv_at xl 1 rfl) ?_
          exact xret _ _ _ _ n () d_TripleLinesModel_digits_79 trivial (by omega) ((dgL_end C45).symm.trans h1) xP xD xS
        · refine lv_aload_n xe xb d_TripleLinesModel_digits_48 rfl (lv_at xl 0 rfl) ?_
          refine lv_aload_n xe xb d_TripleLinesModel_digits_49 rfl (lv_at xl 0 rfl) ?_
          refine va_get (D := D) (ci := 6) (v := .int (iI p)) (C := R_TripleLinesModel) (T := F_TripleLinesModel) (N := 29) xe xb xt i_TripleLinesModel xo xK xP 0 rfl rfl 17 (by decide) (xt _ mw_TripleLinesModel_79) (fun _ h9 => h9) rfl d_TripleLinesModel_digits_50 ?_
          refine lv_iconst (v := iI (2)) xe xb d_TripleLinesModel_digits_53 rfl ?_
          refine tk_iadd xe xb d_TripleLinesModel_digits_54 ?_
          refine lv_iload_n xe xb d_TripleLinesModel_digits_55 rfl (lv_at xl 2 rfl) ?_
          refine tk_iadd xe xb d_TripleLinesModel_digits_56 ?_
          refine tk_callVi (As := [.int (iI ((p + 2) + k))]) (rest := []) (wr := []) (wn := fun u => [(mM, .inr (6, [.int (iI tm), .ref aT, .int (iI om), .ref aO, .int (iI tn), .ref aK, .ref aS, .ref aC, .ref aU, .ref aG, .ref aY, .ref aX, .int (iI qn), .ref aP, .int (iI tr), .int (iI rg), .int (iI ll), .int (iI p), .int (iI f), .int (iI ov), .int (iI sz), .ref aM, .int (iI tz), .ref aA, .int (iI dm), .ref aD, .ref aB, .ref aV, .ref aE])), (aT, .inl (cI, 3000, .inl fT))]) ⟨xe, xb, xml, xo, xt⟩ (c_TripleLinesModel_look l D cI mM tm aT om aO tn aK aS aC aU aG aY aX qn aP tr rg ll p f ov sz aM tz aA dm aD aB aV aE fT ((p + 2) + k) (by first | assumption | omega) (by first | assumption | omega)) k_TripleLinesModel_look mw_TripleLinesModel_82 ⟨Nat.le_of_ble_eq_true rfl, Nat.le_of_ble_eq_true rfl⟩ xK xP xD xS xA rfl xl.1 rfl (Nat.le_of_ble_eq_true rfl) d_TripleLinesModel_digits_57 ⟨Nat.zero_le _, Nat.zero_le _⟩ [0, 1] [] [0, 1] rfl rfl (by decide) (by decide) (by decide) (by decide) (fun _ => rfl) rfl rfl rfl ?_
          clear xP xD xS
          intro z_24 u H locs hr_25 hw_23 xP xD xS
          try dsimp only at hw_23
          replace xP : va_P D classes [(mM, .inr (6, [.int (iI tm), .ref aT, .int (iI om), .ref aO, .int (iI tn), .ref aK, .ref aS, .ref aC, .ref aU, .ref aG, .ref aY, .ref aX, .int (iI qn), .ref aP, .int (iI tr), .int (iI rg), .int (iI ll), .int (iI p), .int (iI f), .int (iI ov), .int (iI sz), .ref aM, .int (iI tz), .ref aA, .int (iI dm), .ref aD, .ref aB, .ref aV, .ref aE])), (aT, .inl (cI, 3000, .inl fT))] H := xP
          replace xD : va_D xA0 [(mM, .inr (6, [.int (iI tm), .ref aT, .int (iI om), .ref aO, .int (iI tn), .ref aK, .ref aS, .ref aC, .ref aU, .ref aG, .ref aY, .ref aX, .int (iI qn), .ref aP, .int (iI tr), .int (iI rg), .int (iI ll), .int (iI p), .int (iI f), .int (iI ov), .int (iI sz), .ref aM, .int (iI tz), .ref aA, .int (iI dm), .ref aD, .ref aB, .ref aV, .ref aE])), (aT, .inl (cI, 3000, .inl fT))] := xD
          have HG3 := hw_23
          refine tk_callSi (As := [.int (iI z_24)]) (rest := []) (wr := [(mM, .inr (6, [.int (iI tm), .ref aT, .int (iI om), .ref aO, .int (iI tn), .ref aK, .ref aS, .ref aC, .ref aU, .ref aG, .ref aY, .ref aX, .int (iI qn), .ref aP, .int (iI tr), .int (iI rg), .int (iI ll), .int (iI p), .int (iI f), .int (iI ov), .int (iI sz), .ref aM, .int (iI tz), .ref aA, .int (iI dm), .ref aD, .ref aB, .ref aV, .ref aE])), (aT, .inl (cI, 3000, .inl fT))]) (wn := fun u => [(mM, .inr (6, [.int (iI tm), .ref aT, .int (iI om), .ref aO, .int (iI tn), .ref aK, .ref aS, .ref aC, .ref aU, .ref aG, .ref aY, .ref aX, .int (iI qn), .ref aP, .int (iI tr), .int (iI rg), .int (iI ll), .int (iI p), .int (iI f), .int (iI ov), .int (iI sz), .ref aM, .int (iI tz), .ref aA, .int (iI dm), .ref aD, .ref aB, .ref aV, .ref aE])), (aT, .inl (cI, 3000, .inl fT))]) ⟨xe, xb, xml, xo, xt⟩ (c_TripleLinesModel_hex l D cI z_24 (by first | assumption | omega)) k_TripleLinesModel_hex mw_TripleLinesModel_104 ⟨Nat.le_of_ble_eq_true rfl, Nat.le_of_ble_eq_true rfl⟩ xK xP xD xS xA rfl xl.1 rfl (Nat.le_of_ble_eq_true rfl) d_TripleLinesModel_digits_60 ⟨Nat.zero_le _, Nat.zero_le _⟩ [] [0, 1] [0, 1] rfl rfl (by decide) (by decide) (by decide) (by decide) (fun _ => rfl) ?_
          clear xP xD xS
          intro z_27 u H locs hr_28 hw_26 xP xD xS
          try dsimp only at hw_26
          replace xP : va_P D classes [(mM, .inr (6, [.int (iI tm), .ref aT, .int (iI om), .ref aO, .int (iI tn), .ref aK, .ref aS, .ref aC, .ref aU, .ref aG, .ref aY, .ref aX, .int (iI qn), .ref aP, .int (iI tr), .int (iI rg), .int (iI ll), .int (iI p), .int (iI f), .int (iI ov), .int (iI sz), .ref aM, .int (iI tz), .ref aA, .int (iI dm), .ref aD, .ref aB, .ref aV, .ref aE])), (aT, .inl (cI, 3000, .inl fT))] H := xP
          replace xD : va_D xA0 [(mM, .inr (6, [.int (iI tm), .ref aT, .int (iI om), .ref aO, .int (iI tn), .ref aK, .ref aS, .ref aC, .ref aU, .ref aG, .ref aY, .ref aX, .int (iI qn), .ref aP, .int (iI tr), .int (iI rg), .int (iI ll), .int (iI p), .int (iI f), .int (iI ov), .int (iI sz), .ref aM, .int (iI tz), .ref aA, .int (iI dm), .ref aD, .ref aB, .ref aV, .ref aE])), (aT, .inl (cI, 3000, .inl fT))] := xD
          have HX := hw_26
          refine tk_if_ge (tgt := 70) xe xb d_TripleLinesModel_digits_63 (by decide) (by omega) (fun c_29 => ?_) (fun c_29 => ?_)
          · refine lv_iload_n xe xb d_TripleLinesModel_digits_70 rfl (lv_at xl 1 rfl) ?_
            refine lv_istore_n (lv' := [(1, .int (iI n)), (0, .ref mM), (2, .int (iI k))]) xe xb d_TripleLinesModel_digits_71 rfl xl (by decide) rfl ?_
            clear xl
            intro ls xl
            refine tk_iinc (v := (k + 1)) (lv' := [(2, .int (iI (k + 1))), (1, .int (iI n)), (0, .ref mM)]) xe xb d_TripleLinesModel_digits_72 xl (k := 2) rfl rfl (by decide) rfl ?_
            clear xl
            intro ls xl
            refine lv_goto (tgt := 43) xe xb d_TripleLinesModel_digits_75 (by decide) ?_
            exact ih_43 n (k + 1) (by omega) (by omega) ((dgL_good hn.2.2.1 C45 (by rw [← HG3, ← HX]; omega)).trans h1) _ _ xP xD xS ls (lv_sub xl [2, 1, 0] rfl)
          · refine lv_iconst (v := iI (0)) xe xb d_TripleLinesModel_digits_66 rfl ?_
            refine lv_goto (tgt := 71) xe xb d_TripleLinesModel_digits_67 (by decide) ?_
            refine lv_istore_n (lv' := [(1, .int (iI 0)), (0, .ref mM), (2, .int (iI k))]) xe xb d_TripleLinesModel_digits_71 rfl xl (by decide) rfl ?_
            clear xl
            intro ls xl
            refine tk_iinc (v := (k + 1)) (lv' := [(2, .int (iI (k + 1))), (1, .int (iI 0)), (0, .ref mM)]) xe xb d_TripleLinesModel_digits_72 xl (k := 2) rfl rfl (by decide) rfl ?_
            clear xl
            intro ls xl
            refine lv_goto (tgt := 43) xe xb d_TripleLinesModel_digits_75 (by decide) ?_
            exact ih_43 0 (k + 1) (by omega) (by omega) ((dgL_bad hn.2.2.1 C45 (by have h9 := hexD_rg (rd (lst (tI fT) tm) (p + 2 + k)); rw [← HG3, ← HX] at h9 ⊢; omega)).trans h1) _ _ xP xD xS ls (lv_sub xl [2, 1, 0] rfl)
    exact loop_43 _ 4 0 (Nat.lt_succ_self _) (by omega) (dgL_u (by omega)) _ _ xP xD xS ls (lv_sub xl [2, 1, 0] rfl)
set_option maxHeartbeats 4000000 in
set_option maxRecDepth 100000 in
theorem c_TripleLinesModel_value (l : Launch) (D : va_G) (cI : ClassId) (mM : Nat) (tm : Int) (aT : Nat) (om : Int) (aO : Nat) (tn : Int) (aK : Nat) (aS : Nat) (aC : Nat) (aU : Nat) (aG : Nat) (aY : Nat) (aX : Nat) (qn : Int) (aP : Nat) (tr : Int) (rg : Int) (ll : Int) (p : Int) (f : Int) (ov : Int) (sz : Int) (aM : Nat) (tz : Int) (aA : Nat) (dm : Int) (aD : Nat) (aB : Nat) (aV : Nat) (aE : Nat) (fT : Nat → Int32) (n : Int) (h0 : 0 ≤ tm ∧ tm ≤ 3000) (hp : 0 ≤ p ∧ p ≤ 3000) (hn : 0 ≤ n ∧ n ≤ 8) (hv0 : hv (lst (tI fT) tm) n.toNat (p + 2) 0 ≠ -1) : CtL l D [(cI, .int)] y_TripleLinesModel_value b_TripleLinesModel_value 5 3 [.ref mM, .int (iI n)] [(mM, .inr (6, [.int (iI tm), .ref aT, .int (iI om), .ref aO, .int (iI tn), .ref aK, .ref aS, .ref aC, .ref aU, .ref aG, .ref aY, .ref aX, .int (iI qn), .ref aP, .int (iI tr), .int (iI rg), .int (iI ll), .int (iI p), .int (iI f), .int (iI ov), .int (iI sz), .ref aM, .int (iI tz), .ref aA, .int (iI dm), .ref aD, .ref aB, .ref aV, .ref aE])), (aT, .inl (cI, 3000, .inl fT))] (S := Unit) (fun z u => z = hv (lst (tI fT) tm) n.toNat (p + 2) 0 ∧ 0 ≤ z ∧ z < 4294967296) (fun u => [(mM, .inr (6, [.int (iI tm), .ref aT, .int (iI om), .ref aO, .int (iI tn), .ref aK, .ref aS, .ref aC, .ref aU, .ref aG, .ref aY, .ref aX, .int (iI qn), .ref aP, .int (iI tr), .int (iI rg), .int (iI ll), .int (iI p), .int (iI f), .int (iI ov), .int (iI sz), .ref aM, .int (iI tz), .ref aA, .int (iI dm), .ref aD, .ref aB, .ref aV, .ref aE])), (aT, .inl (cI, 3000, .inl fT))]) := by
  refine CtL.walk (by decide) (Nat.le_of_ble_eq_true rfl) ?_
  intro xp xe0 xs xm xar xbelow xmeth xc xA0 xQ xe xb xml xo xt xP xK xD xA xret ls xl xS
  have xl : lv_has ls 5 [(0, .ref mM), (1, .int (iI n))] := xl
  have xo : xs.vm.findClass R_TripleLinesModel = some xm.cls := xo
  refine lv_lconst (v := jI 0) xe xb d_TripleLinesModel_value_0 (by decide) ?_
  refine lv_lstore_n (lv' := [(2, .long (jI 0)), (0, .ref mM), (1, .int (iI n))]) xe xb d_TripleLinesModel_value_1 rfl xl (by decide) rfl ?_
  clear xl
  intro ls xl
  refine lv_iconst (v := iI (0)) xe xb d_TripleLinesModel_value_2 rfl ?_
  refine lv_istore (lv' := [(4, .int (iI 0)), (2, .long (jI 0)), (0, .ref mM), (1, .int (iI n))]) xe xb d_TripleLinesModel_value_3 xl (by decide) rfl ?_
  clear xl
  intro ls xl
  have loop_5 : ∀ (n9 : Nat) (v : Int) (k : Int), (n - k).toNat < n9 → (0 ≤ k ∧ k ≤ n) → (hv (lst (tI fT) tm) (n - k).toNat (p + 2 + k) v = hv (lst (tI fT) tm) n.toNat (p + 2) 0) → (0 ≤ v ∧ v < 16 ^ k.toNat) → ∀ (H : Heap) (locs : List Loc), va_P D classes [(mM, .inr (6, [.int (iI tm), .ref aT, .int (iI om), .ref aO, .int (iI tn), .ref aK, .ref aS, .ref aC, .ref aU, .ref aG, .ref aY, .ref aX, .int (iI qn), .ref aP, .int (iI tr), .int (iI rg), .int (iI ll), .int (iI p), .int (iI f), .int (iI ov), .int (iI sz), .ref aM, .int (iI tz), .ref aA, .int (iI dm), .ref aD, .ref aB, .ref aV, .ref aE])), (aT, .inl (cI, 3000, .inl fT))] H → va_D xA0 [(mM, .inr (6, [.int (iI tm), .ref aT, .int (iI om), .ref aO, .int (iI tn), .ref aK, .ref aS, .ref aC, .ref aU, .ref aG, .ref aY, .ref aX, .int (iI qn), .ref aP, .int (iI tr), .int (iI rg), .int (iI ll), .int (iI p), .int (iI f), .int (iI ov), .int (iI sz), .ref aM, .int (iI tz), .ref aA, .int (iI dm), .ref aD, .ref aB, .ref aV, .ref aE])), (aT, .inl (cI, 3000, .inl fT))] → va_S xA0 xs.heap H locs → ∀ ls : Array Slot, lv_has ls 5 [(0, .ref mM), (1, .int (iI n)), (2, .long (jI v)), (4, .int (iI k))] → W xp l xe0 (tk_rm 3) xs xm xar xbelow xmeth xc H locs 0 0 xQ (F0 xm 5 ls []) := by
    intro n9
    induction n9 with
    | zero => intro v k h9; exact absurd h9 (Nat.not_lt_zero _)
    | succ n9 ih9 =>
      intro v k hm9 hk h1 h2 H locs xP xD xS ls xl
      have ih_5 := ih9
      have hm_5 := hm9
      have h3 := p16 (k := k.toNat) (by omega)
      refine lv_iload xe xb d_TripleLinesModel_value_5 (lv_at xl 3 rfl) ?_
      refine lv_iload_n xe xb d_TripleLinesModel_value_7 rfl (lv_at xl 1 rfl) ?_
      refine tk_icmp_ge (tgt := 41) xe xb d_TripleLinesModel_value_8 (by decide) (by omega) (fun C8 => ?_) (fun C8 => ?_)
      · refine lv_lload_n xe xb d_TripleLinesModel_value_41 rfl (lv_at xl 2 rfl) ?_
        exact xret _ _ _ _ v () d_TripleLinesModel_value_42 (by omega) (by have h9 : k = n := (by omega); rw [show (n - k).toNat = 0 by omega] at h1; refine ⟨h1, h2.1, ?_⟩; omega) xP xD xS
      · refine lv_ldc2 (v := jI 16) xe xb xo (by have h9 := xt _ mw_TripleLinesModel_107; exact h9) d_TripleLinesModel_value_11 ?_
        refine lv_lload_n xe xb d_TripleLinesModel_value_14 rfl (lv_at xl 2 rfl) ?_
        refine tk_lmul xe xb d_TripleLinesModel_value_15 ?_
        refine lv_aload_n xe xb d_TripleLinesModel_value_16 rfl (lv_at xl 0 rfl) ?_
        refine lv_aload_n xe xb d_TripleLinesModel_value_17 rfl (lv_at xl 0 rfl) ?_
        refine va_get (D := D) (ci := 6) (v := .int (iI p)) (C := R_TripleLinesModel) (T := F_TripleLinesModel) (N := 29) xe xb xt i_TripleLinesModel xo xK xP 0 rfl rfl 17 (by decide) (xt _ mw_TripleLinesModel_79) (fun _ h9 => h9) rfl d_TripleLinesModel_value_18 ?_
        refine lv_iconst (v := iI (2)) xe xb d_TripleLinesModel_value_21 rfl ?_
        refine tk_iadd xe xb d_TripleLinesModel_value_22 ?_
        refine lv_iload xe xb d_TripleLinesModel_value_23 (lv_at xl 3 rfl) ?_
        refine tk_iadd xe xb d_TripleLinesModel_value_25 ?_
        refine tk_callVi (As := [.int (iI ((p + 2) + k))]) (rest := [.long (jI (16 * v))]) (wr := []) (wn := fun u => [(mM, .inr (6, [.int (iI tm), .ref aT, .int (iI om), .ref aO, .int (iI tn), .ref aK, .ref aS, .ref aC, .ref aU, .ref aG, .ref aY, .ref aX, .int (iI qn), .ref aP, .int (iI tr), .int (iI rg), .int (iI ll), .int (iI p), .int (iI f), .int (iI ov), .int (iI sz), .ref aM, .int (iI tz), .ref aA, .int (iI dm), .ref aD, .ref aB, .ref aV, .ref aE])), (aT, .inl (cI, 3000, .inl fT))]) ⟨xe, xb, xml, xo, xt⟩ (c_TripleLinesModel_look l D cI mM tm aT om aO tn aK aS aC aU aG aY aX qn aP tr rg ll p f ov sz aM tz aA dm aD aB aV aE fT ((p + 2) + k) (by first | assumption | omega) (by first | assumption | omega)) k_TripleLinesModel_look mw_TripleLinesModel_82 ⟨Nat.le_of_ble_eq_true rfl, Nat.le_of_ble_eq_true rfl⟩ xK xP xD xS xA rfl xl.1 rfl (Nat.le_of_ble_eq_true rfl) d_TripleLinesModel_value_26 ⟨Nat.zero_le _, Nat.zero_le _⟩ [0, 1] [] [0, 1] rfl rfl (by decide) (by decide) (by decide) (by decide) (fun _ => rfl) rfl rfl rfl ?_
        clear xP xD xS
        intro z_2 u H locs hr_3 hw_1 xP xD xS
        try dsimp only at hw_1
        replace xP : va_P D classes [(mM, .inr (6, [.int (iI tm), .ref aT, .int (iI om), .ref aO, .int (iI tn), .ref aK, .ref aS, .ref aC, .ref aU, .ref aG, .ref aY, .ref aX, .int (iI qn), .ref aP, .int (iI tr), .int (iI rg), .int (iI ll), .int (iI p), .int (iI f), .int (iI ov), .int (iI sz), .ref aM, .int (iI tz), .ref aA, .int (iI dm), .ref aD, .ref aB, .ref aV, .ref aE])), (aT, .inl (cI, 3000, .inl fT))] H := xP
        replace xD : va_D xA0 [(mM, .inr (6, [.int (iI tm), .ref aT, .int (iI om), .ref aO, .int (iI tn), .ref aK, .ref aS, .ref aC, .ref aU, .ref aG, .ref aY, .ref aX, .int (iI qn), .ref aP, .int (iI tr), .int (iI rg), .int (iI ll), .int (iI p), .int (iI f), .int (iI ov), .int (iI sz), .ref aM, .int (iI tz), .ref aA, .int (iI dm), .ref aD, .ref aB, .ref aV, .ref aE])), (aT, .inl (cI, 3000, .inl fT))] := xD
        have HG := hw_1
        refine tk_callSi (As := [.int (iI z_2)]) (rest := [.long (jI (16 * v))]) (wr := [(mM, .inr (6, [.int (iI tm), .ref aT, .int (iI om), .ref aO, .int (iI tn), .ref aK, .ref aS, .ref aC, .ref aU, .ref aG, .ref aY, .ref aX, .int (iI qn), .ref aP, .int (iI tr), .int (iI rg), .int (iI ll), .int (iI p), .int (iI f), .int (iI ov), .int (iI sz), .ref aM, .int (iI tz), .ref aA, .int (iI dm), .ref aD, .ref aB, .ref aV, .ref aE])), (aT, .inl (cI, 3000, .inl fT))]) (wn := fun u => [(mM, .inr (6, [.int (iI tm), .ref aT, .int (iI om), .ref aO, .int (iI tn), .ref aK, .ref aS, .ref aC, .ref aU, .ref aG, .ref aY, .ref aX, .int (iI qn), .ref aP, .int (iI tr), .int (iI rg), .int (iI ll), .int (iI p), .int (iI f), .int (iI ov), .int (iI sz), .ref aM, .int (iI tz), .ref aA, .int (iI dm), .ref aD, .ref aB, .ref aV, .ref aE])), (aT, .inl (cI, 3000, .inl fT))]) ⟨xe, xb, xml, xo, xt⟩ (c_TripleLinesModel_hex l D cI z_2 (by first | assumption | omega)) k_TripleLinesModel_hex mw_TripleLinesModel_104 ⟨Nat.le_of_ble_eq_true rfl, Nat.le_of_ble_eq_true rfl⟩ xK xP xD xS xA rfl xl.1 rfl (Nat.le_of_ble_eq_true rfl) d_TripleLinesModel_value_29 ⟨Nat.zero_le _, Nat.zero_le _⟩ [] [0, 1] [0, 1] rfl rfl (by decide) (by decide) (by decide) (by decide) (fun _ => rfl) ?_
        clear xP xD xS
        intro z_5 u H locs hr_6 hw_4 xP xD xS
        try dsimp only at hw_4
        replace xP : va_P D classes [(mM, .inr (6, [.int (iI tm), .ref aT, .int (iI om), .ref aO, .int (iI tn), .ref aK, .ref aS, .ref aC, .ref aU, .ref aG, .ref aY, .ref aX, .int (iI qn), .ref aP, .int (iI tr), .int (iI rg), .int (iI ll), .int (iI p), .int (iI f), .int (iI ov), .int (iI sz), .ref aM, .int (iI tz), .ref aA, .int (iI dm), .ref aD, .ref aB, .ref aV, .ref aE])), (aT, .inl (cI, 3000, .inl fT))] H := xP
        replace xD : va_D xA0 [(mM, .inr (6, [.int (iI tm), .ref aT, .int (iI om), .ref aO, .int (iI tn), .ref aK, .ref aS, .ref aC, .ref aU, .ref aG, .ref aY, .ref aX, .int (iI qn), .ref aP, .int (iI tr), .int (iI rg), .int (iI ll), .int (iI p), .int (iI f), .int (iI ov), .int (iI sz), .ref aM, .int (iI tz), .ref aA, .int (iI dm), .ref aD, .ref aB, .ref aV, .ref aE])), (aT, .inl (cI, 3000, .inl fT))] := xD
        have HX := hw_4
        refine tk_i2l xe xb d_TripleLinesModel_value_32 (by omega) ?_
        refine tk_ladd xe xb d_TripleLinesModel_value_33 ?_
        refine lv_lstore_n (lv' := [(2, .long (jI ((16 * v) + z_5))), (0, .ref mM), (1, .int (iI n)), (4, .int (iI k))]) xe xb d_TripleLinesModel_value_34 rfl xl (by decide) rfl ?_
        clear xl
        intro ls xl
        refine tk_iinc (v := (k + 1)) (lv' := [(4, .int (iI (k + 1))), (2, .long (jI ((16 * v) + z_5))), (0, .ref mM), (1, .int (iI n))]) xe xb d_TripleLinesModel_value_35 xl (k := 3) rfl rfl (by decide) rfl ?_
        clear xl
        intro ls xl
        refine lv_goto (tgt := 5) xe xb d_TripleLinesModel_value_38 (by decide) ?_
        have hx9 : hexD (rd (lst (tI fT) tm) (p + 2 + k)) ≠ -1 := fun q => hv0 (by rw [← h1, show (n - k).toNat = (n - (k + 1)).toNat + 1 by omega]; exact hv_n q)
        have hr9 := hexD_rg (rd (lst (tI fT) tm) (p + 2 + k))
        exact ih_5 ((16 * v) + z_5) (k + 1) (by omega) (by first | assumption | omega) (by rw [← h1, show (n - k).toNat = (n - (k + 1)).toNat + 1 by omega, hv_s hx9, ← HG, ← HX, Int.mul_comm v 16, show p + 2 + (k + 1) = p + 2 + k + 1 by omega]) (by rw [← HG, ← HX] at hr9 hx9; rw [show (k + 1).toNat = k.toNat + 1 by omega, Int.pow_succ]; omega) _ _ xP xD xS ls (lv_sub xl [2, 3, 1, 0] rfl)
  exact loop_5 _ 0 0 (Nat.lt_succ_self _) (by first | assumption | omega) (by rw [show n - 0 = n by omega, show p + 2 + 0 = p + 2 by omega]) (by rw [show (0 : Int).toNat = 0 from rfl]; omega) _ _ xP xD xS ls (lv_sub xl [2, 3, 1, 0] rfl)
