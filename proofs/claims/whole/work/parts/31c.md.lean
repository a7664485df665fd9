theorem d_TripleLinesModel_termOf_0 : decode b_TripleLinesModel_termOf 0 = .ok (.iconst 0, 1) := by decide +kernel
theorem d_TripleLinesModel_termOf_1 : decode b_TripleLinesModel_termOf 1 = .ok (.istore_n 3, 1) := by decide +kernel
theorem d_TripleLinesModel_termOf_2 : decode b_TripleLinesModel_termOf 2 = .ok (.iload_n 3, 1) := by decide +kernel
theorem d_TripleLinesModel_termOf_3 : decode b_TripleLinesModel_termOf 3 = .ok (.aload_n 0, 1) := by decide +kernel
theorem d_TripleLinesModel_termOf_4 : decode b_TripleLinesModel_termOf 4 = .ok (.getfield 132, 3) := by decide +kernel
theorem d_TripleLinesModel_termOf_7 : decode b_TripleLinesModel_termOf 7 = .ok (.if_icmp .ge 191, 3) := by decide +kernel
theorem d_TripleLinesModel_termOf_10 : decode b_TripleLinesModel_termOf 10 = .ok (.aload_n 0, 1) := by decide +kernel
theorem d_TripleLinesModel_termOf_11 : decode b_TripleLinesModel_termOf 11 = .ok (.getfield 16, 3) := by decide +kernel
theorem d_TripleLinesModel_termOf_14 : decode b_TripleLinesModel_termOf 14 = .ok (.iload_n 3, 1) := by decide +kernel
theorem d_TripleLinesModel_termOf_15 : decode b_TripleLinesModel_termOf 15 = .ok (.iaload, 1) := by decide +kernel
theorem d_TripleLinesModel_termOf_16 : decode b_TripleLinesModel_termOf 16 = .ok (.iload_n 1, 1) := by decide +kernel
theorem d_TripleLinesModel_termOf_17 : decode b_TripleLinesModel_termOf 17 = .ok (.if_icmp .ne 61, 3) := by decide +kernel
theorem d_TripleLinesModel_termOf_20 : decode b_TripleLinesModel_termOf 20 = .ok (.aload_n 0, 1) := by decide +kernel
theorem d_TripleLinesModel_termOf_21 : decode b_TripleLinesModel_termOf 21 = .ok (.getfield 31, 3) := by decide +kernel
theorem d_TripleLinesModel_termOf_24 : decode b_TripleLinesModel_termOf 24 = .ok (.iload_n 3, 1) := by decide +kernel
theorem d_TripleLinesModel_termOf_25 : decode b_TripleLinesModel_termOf 25 = .ok (.iaload, 1) := by decide +kernel
theorem d_TripleLinesModel_termOf_26 : decode b_TripleLinesModel_termOf 26 = .ok (.iload_n 2, 1) := by decide +kernel
theorem d_TripleLinesModel_termOf_27 : decode b_TripleLinesModel_termOf 27 = .ok (.if_icmp .ne 51, 3) := by decide +kernel
theorem d_TripleLinesModel_termOf_30 : decode b_TripleLinesModel_termOf 30 = .ok (.aload_n 0, 1) := by decide +kernel
theorem d_TripleLinesModel_termOf_31 : decode b_TripleLinesModel_termOf 31 = .ok (.getfield 19, 3) := by decide +kernel
theorem d_TripleLinesModel_termOf_34 : decode b_TripleLinesModel_termOf 34 = .ok (.iload_n 3, 1) := by decide +kernel
theorem d_TripleLinesModel_termOf_35 : decode b_TripleLinesModel_termOf 35 = .ok (.iaload, 1) := by decide +kernel
theorem d_TripleLinesModel_termOf_36 : decode b_TripleLinesModel_termOf 36 = .ok (.aload_n 0, 1) := by decide +kernel
theorem d_TripleLinesModel_termOf_37 : decode b_TripleLinesModel_termOf 37 = .ok (.getfield 129, 3) := by decide +kernel
theorem d_TripleLinesModel_termOf_40 : decode b_TripleLinesModel_termOf 40 = .ok (.if_icmp .ne 38, 3) := by decide +kernel
theorem d_TripleLinesModel_termOf_43 : decode b_TripleLinesModel_termOf 43 = .ok (.aload_n 0, 1) := by decide +kernel
theorem d_TripleLinesModel_termOf_44 : decode b_TripleLinesModel_termOf 44 = .ok (.getfield 25, 3) := by decide +kernel
theorem d_TripleLinesModel_termOf_47 : decode b_TripleLinesModel_termOf 47 = .ok (.iload_n 3, 1) := by decide +kernel
theorem d_TripleLinesModel_termOf_48 : decode b_TripleLinesModel_termOf 48 = .ok (.iaload, 1) := by decide +kernel
theorem d_TripleLinesModel_termOf_49 : decode b_TripleLinesModel_termOf 49 = .ok (.aload_n 0, 1) := by decide +kernel
theorem d_TripleLinesModel_termOf_50 : decode b_TripleLinesModel_termOf 50 = .ok (.getfield 135, 3) := by decide +kernel
theorem d_TripleLinesModel_termOf_53 : decode b_TripleLinesModel_termOf 53 = .ok (.if_icmp .ne 25, 3) := by decide +kernel
theorem d_TripleLinesModel_termOf_56 : decode b_TripleLinesModel_termOf 56 = .ok (.iload_n 1, 1) := by decide +kernel
theorem d_TripleLinesModel_termOf_57 : decode b_TripleLinesModel_termOf 57 = .ok (.iconst 1, 1) := by decide +kernel
theorem d_TripleLinesModel_termOf_58 : decode b_TripleLinesModel_termOf 58 = .ok (.if_icmp .ne 16, 3) := by decide +kernel
theorem d_TripleLinesModel_termOf_61 : decode b_TripleLinesModel_termOf 61 = .ok (.aload_n 0, 1) := by decide +kernel
theorem d_TripleLinesModel_termOf_62 : decode b_TripleLinesModel_termOf 62 = .ok (.getfield 34, 3) := by decide +kernel
theorem d_TripleLinesModel_termOf_65 : decode b_TripleLinesModel_termOf 65 = .ok (.iload_n 3, 1) := by decide +kernel
theorem d_TripleLinesModel_termOf_66 : decode b_TripleLinesModel_termOf 66 = .ok (.iaload, 1) := by decide +kernel
theorem d_TripleLinesModel_termOf_67 : decode b_TripleLinesModel_termOf 67 = .ok (.aload_n 0, 1) := by decide +kernel
theorem d_TripleLinesModel_termOf_68 : decode b_TripleLinesModel_termOf 68 = .ok (.getfield 138, 3) := by decide +kernel
theorem d_TripleLinesModel_termOf_71 : decode b_TripleLinesModel_termOf 71 = .ok (.if_icmp .ne 7, 3) := by decide +kernel
theorem d_TripleLinesModel_termOf_74 : decode b_TripleLinesModel_termOf 74 = .ok (.iconst 1, 1) := by decide +kernel
theorem d_TripleLinesModel_termOf_75 : decode b_TripleLinesModel_termOf 75 = .ok (.goto 4, 3) := by decide +kernel
theorem d_TripleLinesModel_termOf_78 : decode b_TripleLinesModel_termOf 78 = .ok (.iconst 0, 1) := by decide +kernel
theorem d_TripleLinesModel_termOf_79 : decode b_TripleLinesModel_termOf 79 = .ok (.istore 4, 2) := by decide +kernel
theorem d_TripleLinesModel_termOf_81 : decode b_TripleLinesModel_termOf 81 = .ok (.iconst 0, 1) := by decide +kernel
theorem d_TripleLinesModel_termOf_82 : decode b_TripleLinesModel_termOf 82 = .ok (.istore 5, 2) := by decide +kernel
theorem d_TripleLinesModel_termOf_84 : decode b_TripleLinesModel_termOf 84 = .ok (.iload 5, 2) := by decide +kernel
theorem d_TripleLinesModel_termOf_86 : decode b_TripleLinesModel_termOf 86 = .ok (.aload_n 0, 1) := by decide +kernel
theorem d_TripleLinesModel_termOf_87 : decode b_TripleLinesModel_termOf 87 = .ok (.getfield 129, 3) := by decide +kernel
theorem d_TripleLinesModel_termOf_90 : decode b_TripleLinesModel_termOf 90 = .ok (.if_icmp .ge 43, 3) := by decide +kernel
theorem d_TripleLinesModel_termOf_93 : decode b_TripleLinesModel_termOf 93 = .ok (.iload 4, 2) := by decide +kernel
theorem d_TripleLinesModel_termOf_95 : decode b_TripleLinesModel_termOf 95 = .ok (.ifCond .eq 38, 3) := by decide +kernel
theorem d_TripleLinesModel_termOf_98 : decode b_TripleLinesModel_termOf 98 = .ok (.aload_n 0, 1) := by decide +kernel
theorem d_TripleLinesModel_termOf_99 : decode b_TripleLinesModel_termOf 99 = .ok (.getfield 22, 3) := by decide +kernel
theorem d_TripleLinesModel_termOf_102 : decode b_TripleLinesModel_termOf 102 = .ok (.bipush 40, 2) := by decide +kernel
theorem d_TripleLinesModel_termOf_104 : decode b_TripleLinesModel_termOf 104 = .ok (.iload_n 3, 1) := by decide +kernel
theorem d_TripleLinesModel_termOf_105 : decode b_TripleLinesModel_termOf 105 = .ok (.imul, 1) := by decide +kernel
theorem d_TripleLinesModel_termOf_106 : decode b_TripleLinesModel_termOf 106 = .ok (.iload 5, 2) := by decide +kernel
theorem d_TripleLinesModel_termOf_108 : decode b_TripleLinesModel_termOf 108 = .ok (.iadd, 1) := by decide +kernel
theorem d_TripleLinesModel_termOf_109 : decode b_TripleLinesModel_termOf 109 = .ok (.iaload, 1) := by decide +kernel
theorem d_TripleLinesModel_termOf_110 : decode b_TripleLinesModel_termOf 110 = .ok (.aload_n 0, 1) := by decide +kernel
theorem d_TripleLinesModel_termOf_111 : decode b_TripleLinesModel_termOf 111 = .ok (.getfield 40, 3) := by decide +kernel
theorem d_TripleLinesModel_termOf_114 : decode b_TripleLinesModel_termOf 114 = .ok (.iload 5, 2) := by decide +kernel
theorem d_TripleLinesModel_termOf_116 : decode b_TripleLinesModel_termOf 116 = .ok (.iaload, 1) := by decide +kernel
theorem d_TripleLinesModel_termOf_117 : decode b_TripleLinesModel_termOf 117 = .ok (.if_icmp .ne 7, 3) := by decide +kernel
theorem d_TripleLinesModel_termOf_120 : decode b_TripleLinesModel_termOf 120 = .ok (.iconst 1, 1) := by decide +kernel
theorem d_TripleLinesModel_termOf_121 : decode b_TripleLinesModel_termOf 121 = .ok (.goto 4, 3) := by decide +kernel
theorem d_TripleLinesModel_termOf_124 : decode b_TripleLinesModel_termOf 124 = .ok (.iconst 0, 1) := by decide +kernel
theorem d_TripleLinesModel_termOf_125 : decode b_TripleLinesModel_termOf 125 = .ok (.istore 4, 2) := by decide +kernel
theorem d_TripleLinesModel_termOf_127 : decode b_TripleLinesModel_termOf 127 = .ok (.iinc 5 1, 3) := by decide +kernel
theorem d_TripleLinesModel_termOf_130 : decode b_TripleLinesModel_termOf 130 = .ok (.goto (-46), 3) := by decide +kernel
theorem d_TripleLinesModel_termOf_133 : decode b_TripleLinesModel_termOf 133 = .ok (.iconst 0, 1) := by decide +kernel
theorem d_TripleLinesModel_termOf_134 : decode b_TripleLinesModel_termOf 134 = .ok (.istore 5, 2) := by decide +kernel
theorem d_TripleLinesModel_termOf_136 : decode b_TripleLinesModel_termOf 136 = .ok (.iload 5, 2) := by decide +kernel
theorem d_TripleLinesModel_termOf_138 : decode b_TripleLinesModel_termOf 138 = .ok (.aload_n 0, 1) := by decide +kernel
theorem d_TripleLinesModel_termOf_139 : decode b_TripleLinesModel_termOf 139 = .ok (.getfield 135, 3) := by decide +kernel
theorem d_TripleLinesModel_termOf_142 : decode b_TripleLinesModel_termOf 142 = .ok (.if_icmp .ge 43, 3) := by decide +kernel
theorem d_TripleLinesModel_termOf_145 : decode b_TripleLinesModel_termOf 145 = .ok (.iload 4, 2) := by decide +kernel
theorem d_TripleLinesModel_termOf_147 : decode b_TripleLinesModel_termOf 147 = .ok (.ifCond .eq 38, 3) := by decide +kernel
theorem d_TripleLinesModel_termOf_150 : decode b_TripleLinesModel_termOf 150 = .ok (.aload_n 0, 1) := by decide +kernel
theorem d_TripleLinesModel_termOf_151 : decode b_TripleLinesModel_termOf 151 = .ok (.getfield 28, 3) := by decide +kernel
theorem d_TripleLinesModel_termOf_154 : decode b_TripleLinesModel_termOf 154 = .ok (.bipush 16, 2) := by decide +kernel
theorem d_TripleLinesModel_termOf_156 : decode b_TripleLinesModel_termOf 156 = .ok (.iload_n 3, 1) := by decide +kernel
theorem d_TripleLinesModel_termOf_157 : decode b_TripleLinesModel_termOf 157 = .ok (.imul, 1) := by decide +kernel
theorem d_TripleLinesModel_termOf_158 : decode b_TripleLinesModel_termOf 158 = .ok (.iload 5, 2) := by decide +kernel
theorem d_TripleLinesModel_termOf_160 : decode b_TripleLinesModel_termOf 160 = .ok (.iadd, 1) := by decide +kernel
theorem d_TripleLinesModel_termOf_161 : decode b_TripleLinesModel_termOf 161 = .ok (.iaload, 1) := by decide +kernel
theorem d_TripleLinesModel_termOf_162 : decode b_TripleLinesModel_termOf 162 = .ok (.aload_n 0, 1) := by decide +kernel
theorem d_TripleLinesModel_termOf_163 : decode b_TripleLinesModel_termOf 163 = .ok (.getfield 43, 3) := by decide +kernel
theorem d_TripleLinesModel_termOf_166 : decode b_TripleLinesModel_termOf 166 = .ok (.iload 5, 2) := by decide +kernel
theorem d_TripleLinesModel_termOf_168 : decode b_TripleLinesModel_termOf 168 = .ok (.iaload, 1) := by decide +kernel
theorem d_TripleLinesModel_termOf_169 : decode b_TripleLinesModel_termOf 169 = .ok (.if_icmp .ne 7, 3) := by decide +kernel
theorem d_TripleLinesModel_termOf_172 : decode b_TripleLinesModel_termOf 172 = .ok (.iconst 1, 1) := by decide +kernel
theorem d_TripleLinesModel_termOf_173 : decode b_TripleLinesModel_termOf 173 = .ok (.goto 4, 3) := by decide +kernel
theorem d_TripleLinesModel_termOf_176 : decode b_TripleLinesModel_termOf 176 = .ok (.iconst 0, 1) := by decide +kernel
theorem d_TripleLinesModel_termOf_177 : decode b_TripleLinesModel_termOf 177 = .ok (.istore 4, 2) := by decide +kernel
theorem d_TripleLinesModel_termOf_179 : decode b_TripleLinesModel_termOf 179 = .ok (.iinc 5 1, 3) := by decide +kernel
theorem d_TripleLinesModel_termOf_182 : decode b_TripleLinesModel_termOf 182 = .ok (.goto (-46), 3) := by decide +kernel
theorem d_TripleLinesModel_termOf_185 : decode b_TripleLinesModel_termOf 185 = .ok (.iload 4, 2) := by decide +kernel
theorem d_TripleLinesModel_termOf_187 : decode b_TripleLinesModel_termOf 187 = .ok (.ifCond .eq 5, 3) := by decide +kernel
theorem d_TripleLinesModel_termOf_190 : decode b_TripleLinesModel_termOf 190 = .ok (.iload_n 3, 1) := by decide +kernel
theorem d_TripleLinesModel_termOf_191 : decode b_TripleLinesModel_termOf 191 = .ok (.ireturn, 1) := by decide +kernel
theorem d_TripleLinesModel_termOf_192 : decode b_TripleLinesModel_termOf 192 = .ok (.iinc 3 1, 3) := by decide +kernel
theorem d_TripleLinesModel_termOf_195 : decode b_TripleLinesModel_termOf 195 = .ok (.goto (-193), 3) := by decide +kernel
theorem d_TripleLinesModel_termOf_198 : decode b_TripleLinesModel_termOf 198 = .ok (.iconst (-1), 1) := by decide +kernel
theorem d_TripleLinesModel_termOf_199 : decode b_TripleLinesModel_termOf 199 = .ok (.ireturn, 1) := by decide +kernel
set_option maxHeartbeats 4000000 in
set_option maxRecDepth 100000 in
theorem c_TripleLinesModel_termOf (l : Launch) (D : va_G) (cI : ClassId) (mM : Nat) (tm : Int) (aT : Nat) (om : Int) (aO : Nat) (tn : Int) (aK : Nat) (aS : Nat) (aC : Nat) (aU : Nat) (aG : Nat) (aY : Nat) (aX : Nat) (qn : Int) (aP : Nat) (tr : Int) (rg : Int) (ll : Int) (p : Int) (f : Int) (ov : Int) (sz : Int) (aM : Nat) (tz : Int) (aA : Nat) (dm : Int) (aD : Nat) (aB : Nat) (aV : Nat) (aE : Nat) (K : Nat → Int32) (Ln : Nat → Int32) (C : Nat → Int32) (TL : Nat → Int32) (TG : Nat → Int32) (TY : Nat → Int32) (SC : Nat → Int32) (MD : Nat → Int32) (TA : Nat → Int32) (kd : Int) (ty : Int) (a : Int) (fr : Int) (hs : tOk Ln TL tn) (hsz : 0 ≤ sz ∧ sz ≤ 40) (htz : 0 ≤ tz ∧ tz ≤ 16) (hk : -2147483648 ≤ kd ∧ kd < 2147483648) (hy : -2147483648 ≤ ty ∧ ty < 2147483648) (hsc : scO SC tr fr tn) (hfr : 0 ≤ fr ∧ fr ≤ tn) (ha : (kd = 1 ∧ a = fr) ∨ (kd ≠ 1 ∧ a = 0)) (htr : -2147483648 ≤ tr ∧ tr < 2147483648) : CtI l D [(cI, .int)] y_TripleLinesModel_termOf b_TripleLinesModel_termOf 6 (some .int) 0 [.ref mM, .int (iI kd), .int (iI ty)] [(mM, .inr (6, [.int (iI tm), .ref aT, .int (iI om), .ref aO, .int (iI tn), .ref aK, .ref aS, .ref aC, .ref aU, .ref aG, .ref aY, .ref aX, .int (iI qn), .ref aP, .int (iI tr), .int (iI rg), .int (iI ll), .int (iI p), .int (iI f), .int (iI ov), .int (iI sz), .ref aM, .int (iI tz), .ref aA, .int (iI dm), .ref aD, .ref aB, .ref aV, .ref aE])), (aK, .inl (cI, 120, .inl K)), (aS, .inl (cI, 120, .inl Ln)), (aC, .inl (cI, 4800, .inl C)), (aU, .inl (cI, 120, .inl TL)), (aG, .inl (cI, 1920, .inl TG)), (aY, .inl (cI, 120, .inl TY)), (aX, .inl (cI, 120, .inl SC)), (aM, .inl (cI, 40, .inl MD)), (aA, .inl (cI, 16, .inl TA))] (S := Unit) (fun z u => z = idxF ((lst (tmAt K Ln C TL TG TY) tn).drop a.toNat) a (kd, lst (tI MD) sz, lst (tI TA) tz, ty)) (fun u => [(mM, .inr (6, [.int (iI tm), .ref aT, .int (iI om), .ref aO, .int (iI tn), .ref aK, .ref aS, .ref aC, .ref aU, .ref aG, .ref aY, .ref aX, .int (iI qn), .ref aP, .int (iI tr), .int (iI rg), .int (iI ll), .int (iI p), .int (iI f), .int (iI ov), .int (iI sz), .ref aM, .int (iI tz), .ref aA, .int (iI dm), .ref aD, .ref aB, .ref aV, .ref aE])), (aK, .inl (cI, 120, .inl K)), (aS, .inl (cI, 120, .inl Ln)), (aC, .inl (cI, 4800, .inl C)), (aU, .inl (cI, 120, .inl TL)), (aG, .inl (cI, 1920, .inl TG)), (aY, .inl (cI, 120, .inl TY)), (aX, .inl (cI, 120, .inl SC)), (aM, .inl (cI, 40, .inl MD)), (aA, .inl (cI, 16, .inl TA))]) := by
  refine CtI.walk (fun _ => True) (fun z _ => vp_nar_int _) (by decide) (Nat.le_of_ble_eq_true rfl) ?_
  intro xp xe0 xs xm xar xbelow xmeth xc xA0 xQ xe xb xml xo xt xP xK xD xA xret ls xl xS
  have xl : lv_has ls 6 [(0, .ref mM), (1, .int (iI kd)), (2, .int (iI ty))] := xl
  have xo : xs.vm.findClass R_TripleLinesModel = some xm.cls := xo
  have hs0 := hs
  obtain ⟨s0, s1, s2⟩ := hs0
  refine lv_iconst (v := iI (0)) xe xb d_TripleLinesModel_termOf_0 rfl ?_
  refine lv_istore_n (lv' := [(3, .int (iI 0)), (0, .ref mM), (1, .int (iI kd)), (2, .int (iI ty))]) xe xb d_TripleLinesModel_termOf_1 rfl xl (by decide) rfl ?_
  clear xl
  intro ls xl
  have loop_2 : ∀ (n9 : Nat) (t : Int), (tn - t).toNat < n9 → (0 ≤ t ∧ t ≤ tn) → (a ≤ t → idxF ((lst (tmAt K Ln C TL TG TY) tn).drop t.toNat) t (kd, lst (tI MD) sz, lst (tI TA) tz, ty) = idxF ((lst (tmAt K Ln C TL TG TY) tn).drop a.toNat) a (kd, lst (tI MD) sz, lst (tI TA) tz, ty)) → ∀ (H : Heap) (locs : List Loc), va_P D classes [(mM, .inr (6, [.int (iI tm), .ref aT, .int (iI om), .ref aO, .int (iI tn), .ref aK, .ref aS, .ref aC, .ref aU, .ref aG, .ref aY, .ref aX, .int (iI qn), .ref aP, .int (iI tr), .int (iI rg), .int (iI ll), .int (iI p), .int (iI f), .int (iI ov), .int (iI sz), .ref aM, .int (iI tz), .ref aA, .int (iI dm), .ref aD, .ref aB, .ref aV, .ref aE])), (aK, .inl (cI, 120, .inl K)), (aS, .inl (cI, 120, .inl Ln)), (aC, .inl (cI, 4800, .inl C)), (aU, .inl (cI, 120, .inl TL)), (aG, .inl (cI, 1920, .inl TG)), (aY, .inl (cI, 120, .inl TY)), (aX, .inl (cI, 120, .inl SC)), (aM, .inl (cI, 40, .inl MD)), (aA, .inl (cI, 16, .inl TA))] H → va_D xA0 [(mM, .inr (6, [.int (iI tm), .ref aT, .int (iI om), .ref aO, .int (iI tn), .ref aK, .ref aS, .ref aC, .ref aU, .ref aG, .ref aY, .ref aX, .int (iI qn), .ref aP, .int (iI tr), .int (iI rg), .int (iI ll), .int (iI p), .int (iI f), .int (iI ov), .int (iI sz), .ref aM, .int (iI tz), .ref aA, .int (iI dm), .ref aD, .ref aB, .ref aV, .ref aE])), (aK, .inl (cI, 120, .inl K)), (aS, .inl (cI, 120, .inl Ln)), (aC, .inl (cI, 4800, .inl C)), (aU, .inl (cI, 120, .inl TL)), (aG, .inl (cI, 1920, .inl TG)), (aY, .inl (cI, 120, .inl TY)), (aX, .inl (cI, 120, .inl SC)), (aM, .inl (cI, 40, .inl MD)), (aA, .inl (cI, 16, .inl TA))] → va_S xA0 xs.heap H locs → ∀ ls : Array Slot, lv_has ls 6 [(0, .ref mM), (1, .int (iI kd)), (2, .int (iI ty)), (3, .int (iI t))] → W xp l xe0 (tk_rm 0) xs xm xar xbelow xmeth xc H locs 0 0 xQ (F0 xm 2 ls []) := by
    intro n9
    induction n9 with
    | zero => intro t h9; exact absurd h9 (Nat.not_lt_zero _)
    | succ n9 ih9 =>
      intro t hm9 ht h1 H locs xP xD xS ls xl
      have ih_2 := ih9
      have hm_2 := hm9
      refine lv_iload_n xe xb d_TripleLinesModel_termOf_2 rfl (lv_at xl 3 rfl) ?_
      refine lv_aload_n xe xb d_TripleLinesModel_termOf_3 rfl (lv_at xl 0 rfl) ?_
      refine va_get (D := D) (ci := 6) (v := .int (iI tn)) (C := R_TripleLinesModel) (T := F_TripleLinesModel) (N := 29) xe xb xt i_TripleLinesModel xo xK xP 0 rfl rfl 4 (by decide) (xt _ mw_TripleLinesModel_132) (fun _ h9 => h9) rfl d_TripleLinesModel_termOf_4 ?_
      refine tk_icmp_ge (tgt := 198) xe xb d_TripleLinesModel_termOf_7 (by decide) (by omega) (fun C7 => ?_) (fun C7 => ?_)
      · refine lv_iconst (v := iI (-1)) xe xb d_TripleLinesModel_termOf_198 rfl ?_
        exact xret _ _ _ _ (-1) () d_TripleLinesModel_termOf_199 trivial (by omega) (by rw [← h1 (by omega)]; exact (idx_end (by omega)).symm) xP xD xS
      · have s3 := s2 t ht.1 C7
        have loop_185 : ∀ (sm : Int), ((sm = 1 ∧ Mt K Ln C TL TG TY MD TA kd ty sz tz a t) ∨ (sm = 0 ∧ ¬ Mt K Ln C TL TG TY MD TA kd ty sz tz a t)) → ∀ (H : Heap) (locs : List Loc), va_P D classes [(mM, .inr (6, [.int (iI tm), .ref aT, .int (iI om), .ref aO, .int (iI tn), .ref aK, .ref aS, .ref aC, .ref aU, .ref aG, .ref aY, .ref aX, .int (iI qn), .ref aP, .int (iI tr), .int (iI rg), .int (iI ll), .int (iI p), .int (iI f), .int (iI ov), .int (iI sz), .ref aM, .int (iI tz), .ref aA, .int (iI dm), .ref aD, .ref aB, .ref aV, .ref aE])), (aK, .inl (cI, 120, .inl K)), (aS, .inl (cI, 120, .inl Ln)), (aC, .inl (cI, 4800, .inl C)), (aU, .inl (cI, 120, .inl TL)), (aG, .inl (cI, 1920, .inl TG)), (aY, .inl (cI, 120, .inl TY)), (aX, .inl (cI, 120, .inl SC)), (aM, .inl (cI, 40, .inl MD)), (aA, .inl (cI, 16, .inl TA))] H → va_D xA0 [(mM, .inr (6, [.int (iI tm), .ref aT, .int (iI om), .ref aO, .int (iI tn), .ref aK, .ref aS, .ref aC, .ref aU, .ref aG, .ref aY, .ref aX, .int (iI qn), .ref aP, .int (iI tr), .int (iI rg), .int (iI ll), .int (iI p), .int (iI f), .int (iI ov), .int (iI sz), .ref aM, .int (iI tz), .ref aA, .int (iI dm), .ref aD, .ref aB, .ref aV, .ref aE])), (aK, .inl (cI, 120, .inl K)), (aS, .inl (cI, 120, .inl Ln)), (aC, .inl (cI, 4800, .inl C)), (aU, .inl (cI, 120, .inl TL)), (aG, .inl (cI, 1920, .inl TG)), (aY, .inl (cI, 120, .inl TY)), (aX, .inl (cI, 120, .inl SC)), (aM, .inl (cI, 40, .inl MD)), (aA, .inl (cI, 16, .inl TA))] → va_S xA0 xs.heap H locs → ∀ ls : Array Slot, lv_has ls 6 [(0, .ref mM), (1, .int (iI kd)), (2, .int (iI ty)), (3, .int (iI t)), (4, .int (iI sm))] → W xp l xe0 (tk_rm 0) xs xm xar xbelow xmeth xc H locs 0 0 xQ (F0 xm 185 ls []) := by
          intro sm hB3 H locs xP xD xS ls xl
          refine lv_iload xe xb d_TripleLinesModel_termOf_185 (lv_at xl 4 rfl) ?_
          refine tk_if_eq (tgt := 192) xe xb d_TripleLinesModel_termOf_187 (by decide) (by omega) (fun C187 => ?_) (fun C187 => ?_)
          · have HM := (hB3.resolve_left (fun h => by have h9 := h.1; omega)).2
            refine tk_iinc (v := (t + 1)) (lv' := [(3, .int (iI (t + 1))), (0, .ref mM), (1, .int (iI kd)), (2, .int (iI ty)), (4, .int (iI sm))]) xe xb d_TripleLinesModel_termOf_192 xl (k := 3) rfl rfl (by decide) rfl ?_
            clear xl
            intro ls xl
            refine lv_goto (tgt := 2) xe xb d_TripleLinesModel_termOf_195 (by decide) ?_
            exact ih_2 (t + 1) (by omega) (by first | assumption | omega) (fun h => by by_cases h9 : a = t + 1; (rw [h9]); (rw [← h1 (by omega), idx_miss ht.1 (by omega) (fun q => HM ⟨q, by omega⟩)])) _ _ xP xD xS ls (lv_sub xl [1, 2, 3, 0] rfl)
          · have HM := (hB3.resolve_right (fun h => C187 h.1)).2
            refine lv_iload_n xe xb d_TripleLinesModel_termOf_190 rfl (lv_at xl 3 rfl) ?_
            exact xret _ _ _ _ t () d_TripleLinesModel_termOf_191 trivial (by omega) (by rw [← h1 HM.2]; exact (idx_hit ht.1 (by omega) HM.1).symm) xP xD xS
        have loop_133 : ∀ (sm : Int), ((sm = 1 ∧ (Mb K Ln TL TY kd ty sz tz a t ∧ ∀ j, 0 ≤ j → j < sz → tI C (40 * t + j) = tI MD j)) ∨ (sm = 0 ∧ ¬ Mt K Ln C TL TG TY MD TA kd ty sz tz a t)) → ∀ (H : Heap) (locs : List Loc), va_P D classes [(mM, .inr (6, [.int (iI tm), .ref aT, .int (iI om), .ref aO, .int (iI tn), .ref aK, .ref aS, .ref aC, .ref aU, .ref aG, .ref aY, .ref aX, .int (iI qn), .ref aP, .int (iI tr), .int (iI rg), .int (iI ll), .int (iI p), .int (iI f), .int (iI ov), .int (iI sz), .ref aM, .int (iI tz), .ref aA, .int (iI dm), .ref aD, .ref aB, .ref aV, .ref aE])), (aK, .inl (cI, 120, .inl K)), (aS, .inl (cI, 120, .inl Ln)), (aC, .inl (cI, 4800, .inl C)), (aU, .inl (cI, 120, .inl TL)), (aG, .inl (cI, 1920, .inl TG)), (aY, .inl (cI, 120, .inl TY)), (aX, .inl (cI, 120, .inl SC)), (aM, .inl (cI, 40, .inl MD)), (aA, .inl (cI, 16, .inl TA))] H → va_D xA0 [(mM, .inr (6, [.int (iI tm), .ref aT, .int (iI om), .ref aO, .int (iI tn), .ref aK, .ref aS, .ref aC, .ref aU, .ref aG, .ref aY, .ref aX, .int (iI qn), .ref aP, .int (iI tr), .int (iI rg), .int (iI ll), .int (iI p), .int (iI f), .int (iI ov), .int (iI sz), .ref aM, .int (iI tz), .ref aA, .int (iI dm), .ref aD, .ref aB, .ref aV, .ref aE])), (aK, .inl (cI, 120, .inl K)), (aS, .inl (cI, 120, .inl Ln)), (aC, .inl (cI, 4800, .inl C)), (aU, .inl (cI, 120, .inl TL)), (aG, .inl (cI, 1920, .inl TG)), (aY, .inl (cI, 120, .inl TY)), (aX, .inl (cI, 120, .inl SC)), (aM, .inl (cI, 40, .inl MD)), (aA, .inl (cI, 16, .inl TA))] → va_S xA0 xs.heap H locs → ∀ ls : Array Slot, lv_has ls 6 [(0, .ref mM), (1, .int (iI kd)), (2, .int (iI ty)), (3, .int (iI t)), (4, .int (iI sm))] → W xp l xe0 (tk_rm 0) xs xm xar xbelow xmeth xc H locs 0 0 xQ (F0 xm 133 ls []) := by
          intro sm hB2 H locs xP xD xS ls xl
          refine lv_iconst (v := iI (0)) xe xb d_TripleLinesModel_termOf_133 rfl ?_
          refine lv_istore (lv' := [(5, .int (iI 0)), (0, .ref mM), (1, .int (iI kd)), (2, .int (iI ty)), (3, .int (iI t)), (4, .int (iI sm))]) xe xb d_TripleLinesModel_termOf_134 xl (by decide) rfl ?_
          clear xl
          intro ls xl
          have loop_136 : ∀ (n9 : Nat) (sm : Int) (k : Int), (tz - k).toNat < n9 → (0 ≤ k ∧ k ≤ tz) → ((sm = 1 ∧ (Mb K Ln TL TY kd ty sz tz a t ∧ ∀ j, 0 ≤ j → j < sz → tI C (40 * t + j) = tI MD j) ∧ ∀ j, 0 ≤ j → j < k → tI TG (16 * t + j) = tI TA j) ∨ (sm = 0 ∧ ¬ Mt K Ln C TL TG TY MD TA kd ty sz tz a t)) → ∀ (H : Heap) (locs : List Loc), va_P D classes [(mM, .inr (6, [.int (iI tm), .ref aT, .int (iI om), .ref aO, .int (iI tn), .ref aK, .ref aS, .ref aC, .ref aU, .ref aG, .ref aY, .ref aX, .int (iI qn), .ref aP, .int (iI tr), .int (iI rg), .int (iI ll), .int (iI p), .int (iI f), .int (iI ov), .int (iI sz), .ref aM, .int (iI tz), .ref aA, .int (iI dm), .ref aD, .ref aB, .ref aV, .ref aE])), (aK, .inl (cI, 120, .inl K)), (aS, .inl (cI, 120, .inl Ln)), (aC, .inl (cI, 4800, .inl C)), (aU, .inl (cI, 120, .inl TL)), (aG, .inl (cI, 1920, .inl TG)), (aY, .inl (cI, 120, .inl TY)), (aX, .inl (cI, 120, .inl SC)), (aM, .inl (cI, 40, .inl MD)), (aA, .inl (cI, 16, .inl TA))] H → va_D xA0 [(mM, .inr (6, [.int (iI tm), .ref aT, .int (iI om), .ref aO, .int (iI tn), .ref aK, .ref aS, .ref aC, .ref aU, .ref aG, .ref aY, .ref aX, .int (iI qn), .ref aP, .int (iI tr), .int (iI rg), .int (iI ll), .int (iI p), .int (iI f), .int (iI ov), .int (iI sz), .ref aM, .int (iI tz), .ref aA, .int (iI dm), .ref aD, .ref aB, .ref aV, .ref aE])), (aK, .inl (cI, 120, .inl K)), (aS, .inl (cI, 120, .inl Ln)), (aC, .inl (cI, 4800, .inl C)), (aU, .inl (cI, 120, .inl TL)), (aG, .inl (cI, 1920, .inl TG)), (aY, .inl (cI, 120, .inl TY)), (aX, .inl (cI, 120, .inl SC)), (aM, .inl (cI, 40, .inl MD)), (aA, .inl (cI, 16, .inl TA))] → va_S xA0 xs.heap H locs → ∀ ls : Array Slot, lv_has ls 6 [(0, .ref mM), (1, .int (iI kd)), (2, .int (iI ty)), (3, .int (iI t)), (4, .int (iI sm)), (5, .int (iI k))] → W xp l xe0 (tk_rm 0) xs xm xar xbelow xmeth xc H locs 0 0 xQ (F0 xm 136 ls []) := by
            intro n9
            induction n9 with
            | zero => intro sm k h9; exact absurd h9 (Nat.not_lt_zero _)
            | succ n9 ih9 =>
              intro sm k hm9 hk1 hI H locs xP xD xS ls xl
              have ih_136 := ih9
              have hm_136 := hm9
              refine lv_iload xe xb d_TripleLinesModel_termOf_136 (lv_at xl 5 rfl) ?_
              refine lv_aload_n xe xb d_TripleLinesModel_termOf_138 rfl (lv_at xl 0 rfl) ?_
              refine va_get (D := D) (ci := 6) (v := .int (iI tz)) (C := R_TripleLinesModel) (T := F_TripleLinesModel) (N := 29) xe xb xt i_TripleLinesModel xo xK xP 0 rfl rfl 22 (by decide) (xt _ mw_TripleLinesModel_135) (fun _ h9 => h9) rfl d_TripleLinesModel_termOf_139 ?_
              refine tk_icmp_ge (tgt := 185) xe xb d_TripleLinesModel_termOf_142 (by decide) (by omega) (fun c_1 => ?_) (fun c_1 => ?_)
              · exact loop_185 sm (hI.imp (fun h => ⟨h.1, mt_y h.2.1.1 h.2.1.2 (fun j h0 h1 => h.2.2 j h0 (by omega))⟩) id) _ _ xP xD xS ls (lv_sub xl [0, 1, 2, 3, 4] rfl)
              · refine lv_iload xe xb d_TripleLinesModel_termOf_145 (lv_at xl 4 rfl) ?_
                refine tk_if_eq (tgt := 185) xe xb d_TripleLinesModel_termOf_147 (by decide) (by omega) (fun C147 => ?_) (fun C147 => ?_)
                · exact loop_185 sm (Or.inr (hI.resolve_left (fun h => by have h9 := h.1; omega))) _ _ xP xD xS ls (lv_sub xl [0, 1, 2, 3, 4] rfl)
                · have hJ := hI.resolve_right (fun h => C147 h.1)
                  refine lv_aload_n xe xb d_TripleLinesModel_termOf_150 rfl (lv_at xl 0 rfl) ?_
                  refine va_get (D := D) (ci := 6) (v := .ref aG) (C := R_TripleLinesModel) (T := F_TripleLinesModel) (N := 29) xe xb xt i_TripleLinesModel xo xK xP 0 rfl rfl 9 (by decide) (xt _ mw_TripleLinesModel_28) (fun _ h9 => h9) rfl d_TripleLinesModel_termOf_151 ?_
                  refine lv_bipush (v := iI (16)) xe xb d_TripleLinesModel_termOf_154 (by decide) ?_
                  refine lv_iload_n xe xb d_TripleLinesModel_termOf_156 rfl (lv_at xl 3 rfl) ?_
                  refine tk_imul xe xb d_TripleLinesModel_termOf_157 ?_
                  refine lv_iload xe xb d_TripleLinesModel_termOf_158 (lv_at xl 5 rfl) ?_
                  refine tk_iadd xe xb d_TripleLinesModel_termOf_160 ?_
                  refine tk_iald xe xb xK xP 5 0 rfl rfl (by omega) d_TripleLinesModel_termOf_161 ?_
                  have hr_2 := tI_rg TG ((16 * t) + k)
                  refine lv_aload_n xe xb d_TripleLinesModel_termOf_162 rfl (lv_at xl 0 rfl) ?_
                  refine va_get (D := D) (ci := 6) (v := .ref aA) (C := R_TripleLinesModel) (T := F_TripleLinesModel) (N := 29) xe xb xt i_TripleLinesModel xo xK xP 0 rfl rfl 23 (by decide) (xt _ mw_TripleLinesModel_43) (fun _ h9 => h9) rfl d_TripleLinesModel_termOf_163 ?_
                  refine lv_iload xe xb d_TripleLinesModel_termOf_166 (lv_at xl 5 rfl) ?_
                  refine tk_iald xe xb xK xP 9 0 rfl rfl (by omega) d_TripleLinesModel_termOf_168 ?_
                  have hr_3 := tI_rg TA k
                  refine tk_icmp_ne (tgt := 176) xe xb d_TripleLinesModel_termOf_169 (by decide) (by omega) (fun C169 => ?_) (fun C169 => ?_)
                  · refine lv_iconst (v := iI (0)) xe xb d_TripleLinesModel_termOf_176 rfl ?_
                    refine lv_istore (lv' := [(4, .int (iI 0)), (0, .ref mM), (1, .int (iI kd)), (2, .int (iI ty)), (3, .int (iI t)), (5, .int (iI k))]) xe xb d_TripleLinesModel_termOf_177 xl (by decide) rfl ?_
                    clear xl
                    intro ls xl
                    refine tk_iinc (v := (k + 1)) (lv' := [(5, .int (iI (k + 1))), (4, .int (iI 0)), (0, .ref mM), (1, .int (iI kd)), (2, .int (iI ty)), (3, .int (iI t))]) xe xb d_TripleLinesModel_termOf_179 xl (k := 5) rfl rfl (by decide) rfl ?_
                    clear xl
                    intro ls xl
                    refine lv_goto (tgt := 136) xe xb d_TripleLinesModel_termOf_182 (by decide) ?_
                    exact ih_136 0 (k + 1) (by omega) (by first | assumption | omega) (Or.inr ⟨rfl, mt_nt hJ.2.1.1 hk1.1 (by omega) C169⟩) _ _ xP xD xS ls (lv_sub xl [2, 3, 4, 5, 1, 0] rfl)
                  · refine lv_iconst (v := iI (1)) xe xb d_TripleLinesModel_termOf_172 rfl ?_
                    refine lv_goto (tgt := 177) xe xb d_TripleLinesModel_termOf_173 (by decide) ?_
                    refine lv_istore (lv' := [(4, .int (iI 1)), (0, .ref mM), (1, .int (iI kd)), (2, .int (iI ty)), (3, .int (iI t)), (5, .int (iI k))]) xe xb d_TripleLinesModel_termOf_177 xl (by decide) rfl ?_
                    clear xl
                    intro ls xl
                    refine tk_iinc (v := (k + 1)) (lv' := [(5, .int (iI (k + 1))), (4, .int (iI 1)), (0, .ref mM), (1, .int (iI kd)), (2, .int (iI ty)), (3, .int (iI t))]) xe xb d_TripleLinesModel_termOf_179 xl (k := 5) rfl rfl (by decide) rfl ?_
                    clear xl
                    intro ls xl
                    refine lv_goto (tgt := 136) xe xb d_TripleLinesModel_termOf_182 (by decide) ?_
                    exact ih_136 1 (k + 1) (by omega) (by first | assumption | omega) (Or.inl ⟨rfl, hJ.2.1, all_step (F := fun j => tI TG (16 * t + j)) (G := fun j => tI TA j) hJ.2.2 C169⟩) _ _ xP xD xS ls (lv_sub xl [2, 3, 4, 5, 1, 0] rfl)
          exact loop_136 _ sm 0 (Nat.lt_succ_self _) (by first | assumption | omega) (hB2.imp (fun h => ⟨h.1, h.2, fun j h0 h1 => by omega⟩) id) _ _ xP xD xS ls (lv_sub xl [1, 2, 3, 4, 5, 0] rfl)
        have loop_81 : ∀ (sm : Int), ((sm = 1 ∧ Mb K Ln TL TY kd ty sz tz a t) ∨ (sm = 0 ∧ ¬ Mt K Ln C TL TG TY MD TA kd ty sz tz a t)) → ∀ (H : Heap) (locs : List Loc), va_P D classes [(mM, .inr (6, [.int (iI tm), .ref aT, .int (iI om), .ref aO, .int (iI tn), .ref aK, .ref aS, .ref aC, .ref aU, .ref aG, .ref aY, .ref aX, .int (iI qn), .ref aP, .int (iI tr), .int (iI rg), .int (iI ll), .int (iI p), .int (iI f), .int (iI ov), .int (iI sz), .ref aM, .int (iI tz), .ref aA, .int (iI dm), .ref aD, .ref aB, .ref aV, .ref aE])), (aK, .inl (cI, 120, .inl K)), (aS, .inl (cI, 120, .inl Ln)), (aC, .inl (cI, 4800, .inl C)), (aU, .inl (cI, 120, .inl TL)), (aG, .inl (cI, 1920, .inl TG)), (aY, .inl (cI, 120, .inl TY)), (aX, .inl (cI, 120, .inl SC)), (aM, .inl (cI, 40, .inl MD)), (aA, .inl (cI, 16, .inl TA))] H → va_D xA0 [(mM, .inr (6, [.int (iI tm), .ref aT, .int (iI om), .ref aO, .int (iI tn), .ref aK, .ref aS, .ref aC, .ref aU, .ref aG, .ref aY, .ref aX, .int (iI qn), .ref aP, .int (iI tr), .int (iI rg), .int (iI ll), .int (iI p), .int (iI f), .int (iI ov), .int (iI sz), .ref aM, .int (iI tz), .ref aA, .int (iI dm), .ref aD, .ref aB, .ref aV, .ref aE])), (aK, .inl (cI, 120, .inl K)), (aS, .inl (cI, 120, .inl Ln)), (aC, .inl (cI, 4800, .inl C)), (aU, .inl (cI, 120, .inl TL)), (aG, .inl (cI, 1920, .inl TG)), (aY, .inl (cI, 120, .inl TY)), (aX, .inl (cI, 120, .inl SC)), (aM, .inl (cI, 40, .inl MD)), (aA, .inl (cI, 16, .inl TA))] → va_S xA0 xs.heap H locs → ∀ ls : Array Slot, lv_has ls 6 [(0, .ref mM), (1, .int (iI kd)), (2, .int (iI ty)), (3, .int (iI t)), (4, .int (iI sm))] → W xp l xe0 (tk_rm 0) xs xm xar xbelow xmeth xc H locs 0 0 xQ (F0 xm 81 ls []) := by
          intro sm hB1 H locs xP xD xS ls xl
          refine lv_iconst (v := iI (0)) xe xb d_TripleLinesModel_termOf_81 rfl ?_
          refine lv_istore (lv' := [(5, .int (iI 0)), (0, .ref mM), (1, .int (iI kd)), (2, .int (iI ty)), (3, .int (iI t)), (4, .int (iI sm))]) xe xb d_TripleLinesModel_termOf_82 xl (by decide) rfl ?_
          clear xl
          intro ls xl
          have loop_84 : ∀ (n9 : Nat) (sm : Int) (k : Int), (sz - k).toNat < n9 → (0 ≤ k ∧ k ≤ sz) → ((sm = 1 ∧ Mb K Ln TL TY kd ty sz tz a t ∧ ∀ j, 0 ≤ j → j < k → tI C (40 * t + j) = tI MD j) ∨ (sm = 0 ∧ ¬ Mt K Ln C TL TG TY MD TA kd ty sz tz a t)) → ∀ (H : Heap) (locs : List Loc), va_P D classes [(mM, .inr (6, [.int (iI tm), .ref aT, .int (iI om), .ref aO, .int (iI tn), .ref aK, .ref aS, .ref aC, .ref aU, .ref aG, .ref aY, .ref aX, .int (iI qn), .ref aP, .int (iI tr), .int (iI rg), .int (iI ll), .int (iI p), .int (iI f), .int (iI ov), .int (iI sz), .ref aM, .int (iI tz), .ref aA, .int (iI dm), .ref aD, .ref aB, .ref aV, .ref aE])), (aK, .inl (cI, 120, .inl K)), (aS, .inl (cI, 120, .inl Ln)), (aC, .inl (cI, 4800, .inl C)), (aU, .inl (cI, 120, .inl TL)), (aG, .inl (cI, 1920, .inl TG)), (aY, .inl (cI, 120, .inl TY)), (aX, .inl (cI, 120, .inl SC)), (aM, .inl (cI, 40, .inl MD)), (aA, .inl (cI, 16, .inl TA))] H → va_D xA0 [(mM, .inr (6, [.int (iI tm), .ref aT, .int (iI om), .ref aO, .int (iI tn), .ref aK, .ref aS, .ref aC, .ref aU, .ref aG, .ref aY, .ref aX, .int (iI qn), .ref aP, .int (iI tr), .int (iI rg), .int (iI ll), .int (iI p), .int (iI f), .int (iI ov), .int (iI sz), .ref aM, .int (iI tz), .ref aA, .int (iI dm), .ref aD, .ref aB, .ref aV, .ref aE])), (aK, .inl (cI, 120, .inl K)), (aS, .inl (cI, 120, .inl Ln)), (aC, .inl (cI, 4800, .inl C)), (aU, .inl (cI, 120, .inl TL)), (aG, .inl (cI, 1920, .inl TG)), (aY, .inl (cI, 120, .inl TY)), (aX, .inl (cI, 120, .inl SC)), (aM, .inl (cI, 40, .inl MD)), (aA, .inl (cI, 16, .inl TA))] → va_S xA0 xs.heap H locs → ∀ ls : Array Slot, lv_has ls 6 [(0, .ref mM), (1, .int (iI kd)), (2, .int (iI ty)), (3, .int (iI t)), (4, .int (iI sm)), (5, .int (iI k))] → W xp l xe0 (tk_rm 0) xs xm xar xbelow xmeth xc H locs 0 0 xQ (F0 xm 84 ls []) := by
            intro n9
            induction n9 with
            | zero => intro sm k h9; exact absurd h9 (Nat.not_lt_zero _)
            | succ n9 ih9 =>
              intro sm k hm9 hk1 hI H locs xP xD xS ls xl
              have ih_84 := ih9
              have hm_84 := hm9
              refine lv_iload xe xb d_TripleLinesModel_termOf_84 (lv_at xl 5 rfl) ?_
              refine lv_aload_n xe xb d_TripleLinesModel_termOf_86 rfl (lv_at xl 0 rfl) ?_
              refine va_get (D := D) (ci := 6) (v := .int (iI sz)) (C := R_TripleLinesModel) (T := F_TripleLinesModel) (N := 29) xe xb xt i_TripleLinesModel xo xK xP 0 rfl rfl 20 (by decide) (xt _ mw_TripleLinesModel_129) (fun _ h9 => h9) rfl d_TripleLinesModel_termOf_87 ?_
              refine tk_icmp_ge (tgt := 133) xe xb d_TripleLinesModel_termOf_90 (by decide) (by omega) (fun c_4 => ?_) (fun c_4 => ?_)
              · exact loop_133 sm (hI.imp (fun h => ⟨h.1, h.2.1, fun j h0 h1 => h.2.2 j h0 (by omega)⟩) id) _ _ xP xD xS ls (lv_sub xl [0, 1, 2, 3, 4] rfl)
              · refine lv_iload xe xb d_TripleLinesModel_termOf_93 (lv_at xl 4 rfl) ?_
                refine tk_if_eq (tgt := 133) xe xb d_TripleLinesModel_termOf_95 (by decide) (by omega) (fun C95 => ?_) (fun C95 => ?_)
                · exact loop_133 sm (Or.inr (hI.resolve_left (fun h => by have h9 := h.1; omega))) _ _ xP xD xS ls (lv_sub xl [0, 1, 2, 3, 4] rfl)
                · have hJ := hI.resolve_right (fun h => C95 h.1)
                  refine lv_aload_n xe xb d_TripleLinesModel_termOf_98 rfl (lv_at xl 0 rfl) ?_
                  refine va_get (D := D) (ci := 6) (v := .ref aC) (C := R_TripleLinesModel) (T := F_TripleLinesModel) (N := 29) xe xb xt i_TripleLinesModel xo xK xP 0 rfl rfl 7 (by decide) (xt _ mw_TripleLinesModel_22) (fun _ h9 => h9) rfl d_TripleLinesModel_termOf_99 ?_
                  refine lv_bipush (v := iI (40)) xe xb d_TripleLinesModel_termOf_102 (by decide) ?_
                  refine lv_iload_n xe xb d_TripleLinesModel_termOf_104 rfl (lv_at xl 3 rfl) ?_
                  refine tk_imul xe xb d_TripleLinesModel_termOf_105 ?_
                  refine lv_iload xe xb d_TripleLinesModel_termOf_106 (lv_at xl 5 rfl) ?_
                  refine tk_iadd xe xb d_TripleLinesModel_termOf_108 ?_
                  refine tk_iald xe xb xK xP 3 0 rfl rfl (by omega) d_TripleLinesModel_termOf_109 ?_
                  have hr_5 := tI_rg C ((40 * t) + k)
                  refine lv_aload_n xe xb d_TripleLinesModel_termOf_110 rfl (lv_at xl 0 rfl) ?_
                  refine va_get (D := D) (ci := 6) (v := .ref aM) (C := R_TripleLinesModel) (T := F_TripleLinesModel) (N := 29) xe xb xt i_TripleLinesModel xo xK xP 0 rfl rfl 21 (by decide) (xt _ mw_TripleLinesModel_40) (fun _ h9 => h9) rfl d_TripleLinesModel_termOf_111 ?_
                  refine lv_iload xe xb d_TripleLinesModel_termOf_114 (lv_at xl 5 rfl) ?_
                  refine tk_iald xe xb xK xP 8 0 rfl rfl (by omega) d_TripleLinesModel_termOf_116 ?_
                  have hr_6 := tI_rg MD k
                  refine tk_icmp_ne (tgt := 124) xe xb d_TripleLinesModel_termOf_117 (by decide) (by omega) (fun C117 => ?_) (fun C117 => ?_)
                  · refine lv_iconst (v := iI (0)) xe xb d_TripleLinesModel_termOf_124 rfl ?_
                    refine lv_istore (lv' := [(4, .int (iI 0)), (0, .ref mM), (1, .int (iI kd)), (2, .int (iI ty)), (3, .int (iI t)), (5, .int (iI k))]) xe xb d_TripleLinesModel_termOf_125 xl (by decide) rfl ?_
                    clear xl
                    intro ls xl
                    refine tk_iinc (v := (k + 1)) (lv' := [(5, .int (iI (k + 1))), (4, .int (iI 0)), (0, .ref mM), (1, .int (iI kd)), (2, .int (iI ty)), (3, .int (iI t))]) xe xb d_TripleLinesModel_termOf_127 xl (k := 5) rfl rfl (by decide) rfl ?_
                    clear xl
                    intro ls xl
                    refine lv_goto (tgt := 84) xe xb d_TripleLinesModel_termOf_130 (by decide) ?_
                    exact ih_84 0 (k + 1) (by omega) (by first | assumption | omega) (Or.inr ⟨rfl, mt_nc hJ.2.1 hk1.1 (by omega) C117⟩) _ _ xP xD xS ls (lv_sub xl [2, 3, 4, 5, 1, 0] rfl)
                  · refine lv_iconst (v := iI (1)) xe xb d_TripleLinesModel_termOf_120 rfl ?_
                    refine lv_goto (tgt := 125) xe xb d_TripleLinesModel_termOf_121 (by decide) ?_
                    refine lv_istore (lv' := [(4, .int (iI 1)), (0, .ref mM), (1, .int (iI kd)), (2, .int (iI ty)), (3, .int (iI t)), (5, .int (iI k))]) xe xb d_TripleLinesModel_termOf_125 xl (by decide) rfl ?_
                    clear xl
                    intro ls xl
                    refine tk_iinc (v := (k + 1)) (lv' := [(5, .int (iI (k + 1))), (4, .int (iI 1)), (0, .ref mM), (1, .int (iI kd)), (2, .int (iI ty)), (3, .int (iI t))]) xe xb d_TripleLinesModel_termOf_127 xl (k := 5) rfl rfl (by decide) rfl ?_
                    clear xl
                    intro ls xl
                    refine lv_goto (tgt := 84) xe xb d_TripleLinesModel_termOf_130 (by decide) ?_
                    exact ih_84 1 (k + 1) (by omega) (by first | assumption | omega) (Or.inl ⟨rfl, hJ.2.1, all_step (F := fun j => tI C (40 * t + j)) (G := fun j => tI MD j) hJ.2.2 C117⟩) _ _ xP xD xS ls (lv_sub xl [2, 3, 4, 5, 1, 0] rfl)
          exact loop_84 _ sm 0 (Nat.lt_succ_self _) (by first | assumption | omega) (hB1.imp (fun h => ⟨h.1, h.2, fun j h0 h1 => by omega⟩) id) _ _ xP xD xS ls (lv_sub xl [1, 2, 3, 4, 5, 0] rfl)
        refine lv_aload_n xe xb d_TripleLinesModel_termOf_10 rfl (lv_at xl 0 rfl) ?_
        refine va_get (D := D) (ci := 6) (v := .ref aK) (C := R_TripleLinesModel) (T := F_TripleLinesModel) (N := 29) xe xb xt i_TripleLinesModel xo xK xP 0 rfl rfl 5 (by decide) (xt _ mw_TripleLinesModel_16) (fun _ h9 => h9) rfl d_TripleLinesModel_termOf_11 ?_
        refine lv_iload_n xe xb d_TripleLinesModel_termOf_14 rfl (lv_at xl 3 rfl) ?_
        refine tk_iald xe xb xK xP 1 0 rfl rfl (by omega) d_TripleLinesModel_termOf_15 ?_
        have hr_7 := tI_rg K t
        refine lv_iload_n xe xb d_TripleLinesModel_termOf_16 rfl (lv_at xl 1 rfl) ?_
        refine tk_icmp_ne (tgt := 78) xe xb d_TripleLinesModel_termOf_17 (by decide) (by omega) (fun C17 => ?_) (fun C17 => ?_)
        · refine lv_iconst (v := iI (0)) xe xb d_TripleLinesModel_termOf_78 rfl ?_
          refine lv_istore (lv' := [(4, .int (iI 0)), (0, .ref mM), (1, .int (iI kd)), (2, .int (iI ty)), (3, .int (iI t))]) xe xb d_TripleLinesModel_termOf_79 xl (by decide) rfl ?_
          clear xl
          intro ls xl
          exact loop_81 0 (Or.inr ⟨rfl, mt_n1 C17⟩) _ _ xP xD xS ls (lv_sub xl [1, 2, 3, 4, 0] rfl)
        · refine lv_aload_n xe xb d_TripleLinesModel_termOf_20 rfl (lv_at xl 0 rfl) ?_
          refine va_get (D := D) (ci := 6) (v := .ref aY) (C := R_TripleLinesModel) (T := F_TripleLinesModel) (N := 29) xe xb xt i_TripleLinesModel xo xK xP 0 rfl rfl 10 (by decide) (xt _ mw_TripleLinesModel_31) (fun _ h9 => h9) rfl d_TripleLinesModel_termOf_21 ?_
          refine lv_iload_n xe xb d_TripleLinesModel_termOf_24 rfl (lv_at xl 3 rfl) ?_
          refine tk_iald xe xb xK xP 6 0 rfl rfl (by omega) d_TripleLinesModel_termOf_25 ?_
          have hr_8 := tI_rg TY t
          refine lv_iload_n xe xb d_TripleLinesModel_termOf_26 rfl (lv_at xl 2 rfl) ?_
          refine tk_icmp_ne (tgt := 78) xe xb d_TripleLinesModel_termOf_27 (by decide) (by omega) (fun C27 => ?_) (fun C27 => ?_)
          · refine lv_iconst (v := iI (0)) xe xb d_TripleLinesModel_termOf_78 rfl ?_
            refine lv_istore (lv' := [(4, .int (iI 0)), (0, .ref mM), (1, .int (iI kd)), (2, .int (iI ty)), (3, .int (iI t))]) xe xb d_TripleLinesModel_termOf_79 xl (by decide) rfl ?_
            clear xl
            intro ls xl
            exact loop_81 0 (Or.inr ⟨rfl, mt_n2 C27⟩) _ _ xP xD xS ls (lv_sub xl [1, 2, 3, 4, 0] rfl)
          · refine lv_aload_n xe xb d_TripleLinesModel_termOf_30 rfl (lv_at xl 0 rfl) ?_
            refine va_get (D := D) (ci := 6) (v := .ref aS) (C := R_TripleLinesModel) (T := F_TripleLinesModel) (N := 29) xe xb xt i_TripleLinesModel xo xK xP 0 rfl rfl 6 (by decide) (xt _ mw_TripleLinesModel_19) (fun _ h9 => h9) rfl d_TripleLinesModel_termOf_31 ?_
            refine lv_iload_n xe xb d_TripleLinesModel_termOf_34 rfl (lv_at xl 3 rfl) ?_
            refine tk_iald xe xb xK xP 2 0 rfl rfl (by omega) d_TripleLinesModel_termOf_35 ?_
            have hr_9 := tI_rg Ln t
            refine lv_aload_n xe xb d_TripleLinesModel_termOf_36 rfl (lv_at xl 0 rfl) ?_
            refine va_get (D := D) (ci := 6) (v := .int (iI sz)) (C := R_TripleLinesModel) (T := F_TripleLinesModel) (N := 29) xe xb xt i_TripleLinesModel xo xK xP 0 rfl rfl 20 (by decide) (xt _ mw_TripleLinesModel_129) (fun _ h9 => h9) rfl d_TripleLinesModel_termOf_37 ?_
            refine tk_icmp_ne (tgt := 78) xe xb d_TripleLinesModel_termOf_40 (by decide) (by omega) (fun C40 => ?_) (fun C40 => ?_)
            · refine lv_iconst (v := iI (0)) xe xb d_TripleLinesModel_termOf_78 rfl ?_
              refine lv_istore (lv' := [(4, .int (iI 0)), (0, .ref mM), (1, .int (iI kd)), (2, .int (iI ty)), (3, .int (iI t))]) xe xb d_TripleLinesModel_termOf_79 xl (by decide) rfl ?_
              clear xl
              intro ls xl
              exact loop_81 0 (Or.inr ⟨rfl, mt_n3 s3.1 hsz.1 C40⟩) _ _ xP xD xS ls (lv_sub xl [1, 2, 3, 4, 0] rfl)
            · refine lv_aload_n xe xb d_TripleLinesModel_termOf_43 rfl (lv_at xl 0 rfl) ?_
              refine va_get (D := D) (ci := 6) (v := .ref aU) (C := R_TripleLinesModel) (T := F_TripleLinesModel) (N := 29) xe xb xt i_TripleLinesModel xo xK xP 0 rfl rfl 8 (by decide) (xt _ mw_TripleLinesModel_25) (fun _ h9 => h9) rfl d_TripleLinesModel_termOf_44 ?_
              refine lv_iload_n xe xb d_TripleLinesModel_termOf_47 rfl (lv_at xl 3 rfl) ?_
              refine tk_iald xe xb xK xP 4 0 rfl rfl (by omega) d_TripleLinesModel_termOf_48 ?_
              have hr_10 := tI_rg TL t
              refine lv_aload_n xe xb d_TripleLinesModel_termOf_49 rfl (lv_at xl 0 rfl) ?_
              refine va_get (D := D) (ci := 6) (v := .int (iI tz)) (C := R_TripleLinesModel) (T := F_TripleLinesModel) (N := 29) xe xb xt i_TripleLinesModel xo xK xP 0 rfl rfl 22 (by decide) (xt _ mw_TripleLinesModel_135) (fun _ h9 => h9) rfl d_TripleLinesModel_termOf_50 ?_
              refine tk_icmp_ne (tgt := 78) xe xb d_TripleLinesModel_termOf_53 (by decide) (by omega) (fun C53 => ?_) (fun C53 => ?_)
              · refine lv_iconst (v := iI (0)) xe xb d_TripleLinesModel_termOf_78 rfl ?_
                refine lv_istore (lv' := [(4, .int (iI 0)), (0, .ref mM), (1, .int (iI kd)), (2, .int (iI ty)), (3, .int (iI t))]) xe xb d_TripleLinesModel_termOf_79 xl (by decide) rfl ?_
                clear xl
                intro ls xl
                exact loop_81 0 (Or.inr ⟨rfl, mt_n4 s3.2.2.1 htz.1 C53⟩) _ _ xP xD xS ls (lv_sub xl [1, 2, 3, 4, 0] rfl)
              · refine lv_iload_n xe xb d_TripleLinesModel_termOf_56 rfl (lv_at xl 1 rfl) ?_
                refine lv_iconst (v := iI (1)) xe xb d_TripleLinesModel_termOf_57 rfl ?_
                refine tk_icmp_ne (tgt := 74) xe xb d_TripleLinesModel_termOf_58 (by decide) (by omega) (fun C58 => ?_) (fun C58 => ?_)
                · refine lv_iconst (v := iI (1)) xe xb d_TripleLinesModel_termOf_74 rfl ?_
                  refine lv_goto (tgt := 79) xe xb d_TripleLinesModel_termOf_75 (by decide) ?_
                  refine lv_istore (lv' := [(4, .int (iI 1)), (0, .ref mM), (1, .int (iI kd)), (2, .int (iI ty)), (3, .int (iI t))]) xe xb d_TripleLinesModel_termOf_79 xl (by decide) rfl ?_
                  clear xl
                  intro ls xl
                  exact loop_81 1 (Or.inl ⟨rfl, C17, C27, C40, C53, by omega⟩) _ _ xP xD xS ls (lv_sub xl [1, 2, 3, 4, 0] rfl)
                · refine lv_aload_n xe xb d_TripleLinesModel_termOf_61 rfl (lv_at xl 0 rfl) ?_
                  refine va_get (D := D) (ci := 6) (v := .ref aX) (C := R_TripleLinesModel) (T := F_TripleLinesModel) (N := 29) xe xb xt i_TripleLinesModel xo xK xP 0 rfl rfl 11 (by decide) (xt _ mw_TripleLinesModel_34) (fun _ h9 => h9) rfl d_TripleLinesModel_termOf_62 ?_
                  refine lv_iload_n xe xb d_TripleLinesModel_termOf_65 rfl (lv_at xl 3 rfl) ?_
                  refine tk_iald xe xb xK xP 7 0 rfl rfl (by omega) d_TripleLinesModel_termOf_66 ?_
                  have hr_11 := tI_rg SC t
                  refine lv_aload_n xe xb d_TripleLinesModel_termOf_67 rfl (lv_at xl 0 rfl) ?_
                  refine va_get (D := D) (ci := 6) (v := .int (iI tr)) (C := R_TripleLinesModel) (T := F_TripleLinesModel) (N := 29) xe xb xt i_TripleLinesModel xo xK xP 0 rfl rfl 14 (by decide) (xt _ mw_TripleLinesModel_138) (fun _ h9 => h9) rfl d_TripleLinesModel_termOf_68 ?_
                  refine tk_icmp_ne (tgt := 78) xe xb d_TripleLinesModel_termOf_71 (by decide) (by omega) (fun C71 => ?_) (fun C71 => ?_)
                  · refine lv_iconst (v := iI (0)) xe xb d_TripleLinesModel_termOf_78 rfl ?_
                    refine lv_istore (lv' := [(4, .int (iI 0)), (0, .ref mM), (1, .int (iI kd)), (2, .int (iI ty)), (3, .int (iI t))]) xe xb d_TripleLinesModel_termOf_79 xl (by decide) rfl ?_
                    clear xl
                    intro ls xl
                    exact loop_81 0 (Or.inr ⟨rfl, mt_n5 (by have h9 := (hsc t ht.1 C7).1.mpr; intro h8; exact C71 (h9 (by omega)))⟩) _ _ xP xD xS ls (lv_sub xl [1, 2, 3, 4, 0] rfl)
                  · refine lv_iconst (v := iI (1)) xe xb d_TripleLinesModel_termOf_74 rfl ?_
                    refine lv_goto (tgt := 79) xe xb d_TripleLinesModel_termOf_75 (by decide) ?_
                    refine lv_istore (lv' := [(4, .int (iI 1)), (0, .ref mM), (1, .int (iI kd)), (2, .int (iI ty)), (3, .int (iI t))]) xe xb d_TripleLinesModel_termOf_79 xl (by decide) rfl ?_
                    clear xl
                    intro ls xl
                    exact loop_81 1 (Or.inl ⟨rfl, C17, C27, C40, C53, by have h9 := (hsc t ht.1 C7).1.mp C71; omega⟩) _ _ xP xD xS ls (lv_sub xl [1, 2, 3, 4, 0] rfl)
  exact loop_2 _ 0 (Nat.lt_succ_self _) (by first | assumption | omega) (fun h => by rw [show a = 0 by omega]) _ _ xP xD xS ls (lv_sub xl [1, 2, 3, 0] rfl)
