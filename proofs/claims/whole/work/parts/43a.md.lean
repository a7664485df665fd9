theorem d_TripleLinesModel_readTag_0 : decode b_TripleLinesModel_readTag 0 = .ok (.aload_n 0, 1) := by decide +kernel
theorem d_TripleLinesModel_readTag_1 : decode b_TripleLinesModel_readTag 1 = .ok (.getfield 79, 3) := by decide +kernel
theorem d_TripleLinesModel_readTag_4 : decode b_TripleLinesModel_readTag 4 = .ok (.istore_n 1, 1) := by decide +kernel
theorem d_TripleLinesModel_readTag_5 : decode b_TripleLinesModel_readTag 5 = .ok (.iconst 0, 1) := by decide +kernel
theorem d_TripleLinesModel_readTag_6 : decode b_TripleLinesModel_readTag 6 = .ok (.istore_n 2, 1) := by decide +kernel
theorem d_TripleLinesModel_readTag_7 : decode b_TripleLinesModel_readTag 7 = .ok (.iconst 0, 1) := by decide +kernel
theorem d_TripleLinesModel_readTag_8 : decode b_TripleLinesModel_readTag 8 = .ok (.istore_n 3, 1) := by decide +kernel
theorem d_TripleLinesModel_readTag_9 : decode b_TripleLinesModel_readTag 9 = .ok (.iconst 1, 1) := by decide +kernel
theorem d_TripleLinesModel_readTag_10 : decode b_TripleLinesModel_readTag 10 = .ok (.istore 4, 2) := by decide +kernel
theorem d_TripleLinesModel_readTag_12 : decode b_TripleLinesModel_readTag 12 = .ok (.iload 4, 2) := by decide +kernel
theorem d_TripleLinesModel_readTag_14 : decode b_TripleLinesModel_readTag 14 = .ok (.ifCond .eq 174, 3) := by decide +kernel
theorem d_TripleLinesModel_readTag_17 : decode b_TripleLinesModel_readTag 17 = .ok (.aload_n 0, 1) := by decide +kernel
theorem d_TripleLinesModel_readTag_18 : decode b_TripleLinesModel_readTag 18 = .ok (.invokevirtual 86, 3) := by decide +kernel
theorem d_TripleLinesModel_readTag_21 : decode b_TripleLinesModel_readTag 21 = .ok (.ifCond .eq 167, 3) := by decide +kernel
theorem d_TripleLinesModel_readTag_24 : decode b_TripleLinesModel_readTag 24 = .ok (.aload_n 0, 1) := by decide +kernel
theorem d_TripleLinesModel_readTag_25 : decode b_TripleLinesModel_readTag 25 = .ok (.invokevirtual 90, 3) := by decide +kernel
theorem d_TripleLinesModel_readTag_28 : decode b_TripleLinesModel_readTag 28 = .ok (.istore 5, 2) := by decide +kernel
theorem d_TripleLinesModel_readTag_30 : decode b_TripleLinesModel_readTag 30 = .ok (.iload 5, 2) := by decide +kernel
theorem d_TripleLinesModel_readTag_32 : decode b_TripleLinesModel_readTag 32 = .ok (.invokestatic 173, 3) := by decide +kernel
theorem d_TripleLinesModel_readTag_35 : decode b_TripleLinesModel_readTag 35 = .ok (.ifCond .ne 15, 3) := by decide +kernel
theorem d_TripleLinesModel_readTag_38 : decode b_TripleLinesModel_readTag 38 = .ok (.iload_n 2, 1) := by decide +kernel
theorem d_TripleLinesModel_readTag_39 : decode b_TripleLinesModel_readTag 39 = .ok (.ifCond .le 42, 3) := by decide +kernel
theorem d_TripleLinesModel_readTag_42 : decode b_TripleLinesModel_readTag 42 = .ok (.iload 5, 2) := by decide +kernel
theorem d_TripleLinesModel_readTag_44 : decode b_TripleLinesModel_readTag 44 = .ok (.invokestatic 67, 3) := by decide +kernel
theorem d_TripleLinesModel_readTag_47 : decode b_TripleLinesModel_readTag 47 = .ok (.ifCond .eq 34, 3) := by decide +kernel
theorem d_TripleLinesModel_readTag_50 : decode b_TripleLinesModel_readTag 50 = .ok (.iinc 3 1, 3) := by decide +kernel
theorem d_TripleLinesModel_readTag_53 : decode b_TripleLinesModel_readTag 53 = .ok (.iload_n 3, 1) := by decide +kernel
theorem d_TripleLinesModel_readTag_54 : decode b_TripleLinesModel_readTag 54 = .ok (.bipush 8, 2) := by decide +kernel
theorem d_TripleLinesModel_readTag_56 : decode b_TripleLinesModel_readTag 56 = .ok (.if_icmp .gt 14, 3) := by decide +kernel
theorem d_TripleLinesModel_readTag_59 : decode b_TripleLinesModel_readTag 59 = .ok (.aload_n 0, 1) := by decide +kernel
theorem d_TripleLinesModel_readTag_60 : decode b_TripleLinesModel_readTag 60 = .ok (.getfield 79, 3) := by decide +kernel
theorem d_TripleLinesModel_readTag_63 : decode b_TripleLinesModel_readTag 63 = .ok (.iload_n 1, 1) := by decide +kernel
theorem d_TripleLinesModel_readTag_64 : decode b_TripleLinesModel_readTag 64 = .ok (.isub, 1) := by decide +kernel
theorem d_TripleLinesModel_readTag_65 : decode b_TripleLinesModel_readTag 65 = .ok (.bipush 16, 2) := by decide +kernel
theorem d_TripleLinesModel_readTag_67 : decode b_TripleLinesModel_readTag 67 = .ok (.if_icmp .ne 55, 3) := by decide +kernel
theorem d_TripleLinesModel_readTag_70 : decode b_TripleLinesModel_readTag 70 = .ok (.aload_n 0, 1) := by decide +kernel
theorem d_TripleLinesModel_readTag_71 : decode b_TripleLinesModel_readTag 71 = .ok (.aload_n 0, 1) := by decide +kernel
theorem d_TripleLinesModel_readTag_72 : decode b_TripleLinesModel_readTag 72 = .ok (.getfield 79, 3) := by decide +kernel
theorem d_TripleLinesModel_readTag_75 : decode b_TripleLinesModel_readTag 75 = .ok (.invokevirtual 94, 3) := by decide +kernel
theorem d_TripleLinesModel_readTag_78 : decode b_TripleLinesModel_readTag 78 = .ok (.goto 44, 3) := by decide +kernel
theorem d_TripleLinesModel_readTag_81 : decode b_TripleLinesModel_readTag 81 = .ok (.iload 5, 2) := by decide +kernel
theorem d_TripleLinesModel_readTag_83 : decode b_TripleLinesModel_readTag 83 = .ok (.bipush 45, 2) := by decide +kernel
theorem d_TripleLinesModel_readTag_85 : decode b_TripleLinesModel_readTag 85 = .ok (.if_icmp .ne 34, 3) := by decide +kernel
theorem d_TripleLinesModel_readTag_88 : decode b_TripleLinesModel_readTag 88 = .ok (.iload_n 3, 1) := by decide +kernel
theorem d_TripleLinesModel_readTag_89 : decode b_TripleLinesModel_readTag 89 = .ok (.ifCond .le 30, 3) := by decide +kernel
theorem d_TripleLinesModel_readTag_92 : decode b_TripleLinesModel_readTag 92 = .ok (.iinc 2 1, 3) := by decide +kernel
theorem d_TripleLinesModel_readTag_95 : decode b_TripleLinesModel_readTag 95 = .ok (.iconst 0, 1) := by decide +kernel
theorem d_TripleLinesModel_readTag_96 : decode b_TripleLinesModel_readTag 96 = .ok (.istore_n 3, 1) := by decide +kernel
theorem d_TripleLinesModel_readTag_97 : decode b_TripleLinesModel_readTag 97 = .ok (.aload_n 0, 1) := by decide +kernel
theorem d_TripleLinesModel_readTag_98 : decode b_TripleLinesModel_readTag 98 = .ok (.getfield 79, 3) := by decide +kernel
theorem d_TripleLinesModel_readTag_101 : decode b_TripleLinesModel_readTag 101 = .ok (.iload_n 1, 1) := by decide +kernel
theorem d_TripleLinesModel_readTag_102 : decode b_TripleLinesModel_readTag 102 = .ok (.isub, 1) := by decide +kernel
theorem d_TripleLinesModel_readTag_103 : decode b_TripleLinesModel_readTag 103 = .ok (.bipush 16, 2) := by decide +kernel
theorem d_TripleLinesModel_readTag_105 : decode b_TripleLinesModel_readTag 105 = .ok (.if_icmp .ne 17, 3) := by decide +kernel
theorem d_TripleLinesModel_readTag_108 : decode b_TripleLinesModel_readTag 108 = .ok (.aload_n 0, 1) := by decide +kernel
theorem d_TripleLinesModel_readTag_109 : decode b_TripleLinesModel_readTag 109 = .ok (.aload_n 0, 1) := by decide +kernel
theorem d_TripleLinesModel_readTag_110 : decode b_TripleLinesModel_readTag 110 = .ok (.getfield 79, 3) := by decide +kernel
theorem d_TripleLinesModel_readTag_113 : decode b_TripleLinesModel_readTag 113 = .ok (.invokevirtual 94, 3) := by decide +kernel
theorem d_TripleLinesModel_readTag_116 : decode b_TripleLinesModel_readTag 116 = .ok (.goto 6, 3) := by decide +kernel
theorem d_TripleLinesModel_readTag_119 : decode b_TripleLinesModel_readTag 119 = .ok (.iconst 0, 1) := by decide +kernel
theorem d_TripleLinesModel_readTag_120 : decode b_TripleLinesModel_readTag 120 = .ok (.istore 4, 2) := by decide +kernel
theorem d_TripleLinesModel_readTag_122 : decode b_TripleLinesModel_readTag 122 = .ok (.iload 4, 2) := by decide +kernel
theorem d_TripleLinesModel_readTag_124 : decode b_TripleLinesModel_readTag 124 = .ok (.ifCond .eq 61, 3) := by decide +kernel
theorem d_TripleLinesModel_readTag_127 : decode b_TripleLinesModel_readTag 127 = .ok (.aload_n 0, 1) := by decide +kernel
theorem d_TripleLinesModel_readTag_128 : decode b_TripleLinesModel_readTag 128 = .ok (.invokevirtual 86, 3) := by decide +kernel
theorem d_TripleLinesModel_readTag_131 : decode b_TripleLinesModel_readTag 131 = .ok (.ifCond .eq 54, 3) := by decide +kernel
theorem d_TripleLinesModel_readTag_134 : decode b_TripleLinesModel_readTag 134 = .ok (.aload_n 0, 1) := by decide +kernel
theorem d_TripleLinesModel_readTag_135 : decode b_TripleLinesModel_readTag 135 = .ok (.getfield 43, 3) := by decide +kernel
theorem d_TripleLinesModel_readTag_138 : decode b_TripleLinesModel_readTag 138 = .ok (.aload_n 0, 1) := by decide +kernel
theorem d_TripleLinesModel_readTag_139 : decode b_TripleLinesModel_readTag 139 = .ok (.getfield 135, 3) := by decide +kernel
theorem d_TripleLinesModel_readTag_142 : decode b_TripleLinesModel_readTag 142 = .ok (.iload 5, 2) := by decide +kernel
theorem d_TripleLinesModel_readTag_144 : decode b_TripleLinesModel_readTag 144 = .ok (.bipush 65, 2) := by decide +kernel
theorem d_TripleLinesModel_readTag_146 : decode b_TripleLinesModel_readTag 146 = .ok (.bipush 90, 2) := by decide +kernel
theorem d_TripleLinesModel_readTag_148 : decode b_TripleLinesModel_readTag 148 = .ok (.invokestatic 63, 3) := by decide +kernel
theorem d_TripleLinesModel_readTag_151 : decode b_TripleLinesModel_readTag 151 = .ok (.ifCond .eq 11, 3) := by decide +kernel
theorem d_TripleLinesModel_readTag_154 : decode b_TripleLinesModel_readTag 154 = .ok (.iload 5, 2) := by decide +kernel
theorem d_TripleLinesModel_readTag_156 : decode b_TripleLinesModel_readTag 156 = .ok (.bipush 32, 2) := by decide +kernel
theorem d_TripleLinesModel_readTag_158 : decode b_TripleLinesModel_readTag 158 = .ok (.iadd, 1) := by decide +kernel
theorem d_TripleLinesModel_readTag_159 : decode b_TripleLinesModel_readTag 159 = .ok (.goto 5, 3) := by decide +kernel
theorem d_TripleLinesModel_readTag_162 : decode b_TripleLinesModel_readTag 162 = .ok (.iload 5, 2) := by decide +kernel
theorem d_TripleLinesModel_readTag_164 : decode b_TripleLinesModel_readTag 164 = .ok (.iastore, 1) := by decide +kernel
theorem d_TripleLinesModel_readTag_165 : decode b_TripleLinesModel_readTag 165 = .ok (.aload_n 0, 1) := by decide +kernel
theorem d_TripleLinesModel_readTag_166 : decode b_TripleLinesModel_readTag 166 = .ok (.dup, 1) := by decide +kernel
theorem d_TripleLinesModel_readTag_167 : decode b_TripleLinesModel_readTag 167 = .ok (.getfield 135, 3) := by decide +kernel
theorem d_TripleLinesModel_readTag_170 : decode b_TripleLinesModel_readTag 170 = .ok (.iconst 1, 1) := by decide +kernel
theorem d_TripleLinesModel_readTag_171 : decode b_TripleLinesModel_readTag 171 = .ok (.iadd, 1) := by decide +kernel
theorem d_TripleLinesModel_readTag_172 : decode b_TripleLinesModel_readTag 172 = .ok (.putfield 135, 3) := by decide +kernel
theorem d_TripleLinesModel_readTag_175 : decode b_TripleLinesModel_readTag 175 = .ok (.aload_n 0, 1) := by decide +kernel
theorem d_TripleLinesModel_readTag_176 : decode b_TripleLinesModel_readTag 176 = .ok (.dup, 1) := by decide +kernel
theorem d_TripleLinesModel_readTag_177 : decode b_TripleLinesModel_readTag 177 = .ok (.getfield 79, 3) := by decide +kernel
theorem d_TripleLinesModel_readTag_180 : decode b_TripleLinesModel_readTag 180 = .ok (.iconst 1, 1) := by decide +kernel
theorem d_TripleLinesModel_readTag_181 : decode b_TripleLinesModel_readTag 181 = .ok (.iadd, 1) := by decide +kernel
theorem d_TripleLinesModel_readTag_182 : decode b_TripleLinesModel_readTag 182 = .ok (.putfield 79, 3) := by decide +kernel
theorem d_TripleLinesModel_readTag_185 : decode b_TripleLinesModel_readTag 185 = .ok (.goto (-173), 3) := by decide +kernel
theorem d_TripleLinesModel_readTag_188 : decode b_TripleLinesModel_readTag 188 = .ok (.aload_n 0, 1) := by decide +kernel
theorem d_TripleLinesModel_readTag_189 : decode b_TripleLinesModel_readTag 189 = .ok (.invokevirtual 86, 3) := by decide +kernel
theorem d_TripleLinesModel_readTag_192 : decode b_TripleLinesModel_readTag 192 = .ok (.ifCond .eq 15, 3) := by decide +kernel
theorem d_TripleLinesModel_readTag_195 : decode b_TripleLinesModel_readTag 195 = .ok (.iload_n 3, 1) := by decide +kernel
theorem d_TripleLinesModel_readTag_196 : decode b_TripleLinesModel_readTag 196 = .ok (.ifCond .ne 11, 3) := by decide +kernel
theorem d_TripleLinesModel_readTag_199 : decode b_TripleLinesModel_readTag 199 = .ok (.aload_n 0, 1) := by decide +kernel
theorem d_TripleLinesModel_readTag_200 : decode b_TripleLinesModel_readTag 200 = .ok (.aload_n 0, 1) := by decide +kernel
theorem d_TripleLinesModel_readTag_201 : decode b_TripleLinesModel_readTag 201 = .ok (.getfield 79, 3) := by decide +kernel
theorem d_TripleLinesModel_readTag_204 : decode b_TripleLinesModel_readTag 204 = .ok (.invokevirtual 94, 3) := by decide +kernel
theorem d_TripleLinesModel_readTag_207 : decode b_TripleLinesModel_readTag 207 = .ok (.return_, 1) := by decide +kernel
set_option maxHeartbeats 4000000 in
set_option maxRecDepth 100000 in
theorem c_TripleLinesModel_readTag (l : Launch) (D : va_G) (cI : ClassId) (mM : Nat) (tm : Int) (aT : Nat) (om : Int) (aO : Nat) (tn : Int) (aK : Nat) (aS : Nat) (aC : Nat) (aU : Nat) (aG : Nat) (aY : Nat) (aX : Nat) (qn : Int) (aP : Nat) (tr : Int) (rg : Int) (ll : Int) (p : Int) (f : Int) (ov : Int) (sz : Int) (aM : Nat) (tz : Int) (aA : Nat) (dm : Int) (aD : Nat) (aB : Nat) (aV : Nat) (aE : Nat) (fT : Nat → Int32) (TA : Nat → Int32) (h0 : 0 ≤ tm ∧ tm ≤ 3000) (hB : byt (lst (tI fT) tm)) (hp : 0 ≤ p ∧ p ≤ tm) (hf : f = -1) (htz : tz = 0) : CtV l D [(cI, .int)] y_TripleLinesModel_readTag b_TripleLinesModel_readTag 6 2 [.ref mM] [(mM, .inr (6, [.int (iI tm), .ref aT, .int (iI om), .ref aO, .int (iI tn), .ref aK, .ref aS, .ref aC, .ref aU, .ref aG, .ref aY, .ref aX, .int (iI qn), .ref aP, .int (iI tr), .int (iI rg), .int (iI ll), .int (iI p), .int (iI f), .int (iI ov), .int (iI sz), .ref aM, .int (iI tz), .ref aA, .int (iI dm), .ref aD, .ref aB, .ref aV, .ref aE])), (aT, .inl (cI, 3000, .inl fT)), (aA, .inl (cI, 16, .inl TA))] (S := Int × Int × Int × (Nat → Int32)) (fun u => TgO (lst (tI fT) tm) tm p u.1 u.2.1 u.2.2.1 u.2.2.2) (fun u => [(mM, .inr (6, [.int (iI tm), .ref aT, .int (iI om), .ref aO, .int (iI tn), .ref aK, .ref aS, .ref aC, .ref aU, .ref aG, .ref aY, .ref aX, .int (iI qn), .ref aP, .int (iI tr), .int (iI rg), .int (iI ll), .int (iI u.1), .int (iI u.2.1), .int (iI ov), .int (iI sz), .ref aM, .int (iI u.2.2.1), .ref aA, .int (iI dm), .ref aD, .ref aB, .ref aV, .ref aE])), (aT, .inl (cI, 3000, .inl fT)), (aA, .inl (cI, 16, .inl u.2.2.2))]) := by
  refine CtV.walk (by decide) (Nat.le_of_ble_eq_true rfl) ?_
  intro xp xe0 xs xm xar xbelow xmeth xc xA0 xQ xe xb xml xo xt xP xK xD xA xret ls xl xS
  have xl : lv_has ls 6 [(0, .ref mM)] := xl
  have xo : xs.vm.findClass R_TripleLinesModel = some xm.cls := xo
  have hL : (((lst (tI fT) tm)).length : Int) = tm := by rw [lst_length]; omega
  refine lv_aload_n xe xb d_TripleLinesModel_readTag_0 rfl (lv_at xl 0 rfl) ?_
  refine va_get (D := D) (ci := 6) (v := .int (iI p)) (C := R_TripleLinesModel) (T := F_TripleLinesModel) (N := 29) xe xb xt i_TripleLinesModel xo xK xP 0 rfl rfl 17 (by decide) (xt _ mw_TripleLinesModel_79) (fun _ h9 => h9) rfl d_TripleLinesModel_readTag_1 ?_
  refine lv_istore_n (lv' := [(1, .int (iI p)), (0, .ref mM)]) xe xb d_TripleLinesModel_readTag_4 rfl xl (by decide) rfl ?_
  clear xl
  intro ls xl
  refine lv_iconst (v := iI (0)) xe xb d_TripleLinesModel_readTag_5 rfl ?_
  refine lv_istore_n (lv' := [(2, .int (iI 0)), (1, .int (iI p)), (0, .ref mM)]) xe xb d_TripleLinesModel_readTag_6 rfl xl (by decide) rfl ?_
  clear xl
  intro ls xl
  refine lv_iconst (v := iI (0)) xe xb d_TripleLinesModel_readTag_7 rfl ?_
  refine lv_istore_n (lv' := [(3, .int (iI 0)), (2, .int (iI 0)), (1, .int (iI p)), (0, .ref mM)]) xe xb d_TripleLinesModel_readTag_8 rfl xl (by decide) rfl ?_
  clear xl
  intro ls xl
  refine lv_iconst (v := iI (1)) xe xb d_TripleLinesModel_readTag_9 rfl ?_
  refine lv_istore (lv' := [(4, .int (iI 1)), (3, .int (iI 0)), (2, .int (iI 0)), (1, .int (iI p)), (0, .ref mM)]) xe xb d_TripleLinesModel_readTag_10 xl (by decide) rfl ?_
  clear xl
  intro ls xl
  have loop_12 : ∀ (n9 : Nat) (pv : Int) (fv : Int) (pt : Int) (n : Int) (mo : Int) (tv : Int) (TAv : Nat → Int32), ms2 tm pv fv mo < n9 → (TgI (lst (tI fT) tm) tm p pv fv pt n mo tv TAv) → ∀ (H : Heap) (locs : List Loc), va_P D classes [(mM, .inr (6, [.int (iI tm), .ref aT, .int (iI om), .ref aO, .int (iI tn), .ref aK, .ref aS, .ref aC, .ref aU, .ref aG, .ref aY, .ref aX, .int (iI qn), .ref aP, .int (iI tr), .int (iI rg), .int (iI ll), .int (iI pv), .int (iI fv), .int (iI ov), .int (iI sz), .ref aM, .int (iI tv), .ref aA, .int (iI dm), .ref aD, .ref aB, .ref aV, .ref aE])), (aT, .inl (cI, 3000, .inl fT)), (aA, .inl (cI, 16, .inl TAv))] H → va_D xA0 [(mM, .inr (6, [.int (iI tm), .ref aT, .int (iI om), .ref aO, .int (iI tn), .ref aK, .ref aS, .ref aC, .ref aU, .ref aG, .ref aY, .ref aX, .int (iI qn), .ref aP, .int (iI tr), .int (iI rg), .int (iI ll), .int (iI pv), .int (iI fv), .int (iI ov), .int (iI sz), .ref aM, .int (iI tv), .ref aA, .int (iI dm), .ref aD, .ref aB, .ref aV, .ref aE])), (aT, .inl (cI, 3000, .inl fT)), (aA, .inl (cI, 16, .inl TAv))] → va_S xA0 xs.heap H locs → ∀ ls : Array Slot, lv_has ls 6 [(0, .ref mM), (1, .int (iI p)), (2, .int (iI pt)), (3, .int (iI n)), (4, .int (iI mo))] → W xp l xe0 (tk_rm 2) xs xm xar xbelow xmeth xc H locs 0 0 xQ (F0 xm 12 ls []) := by
    intro n9
    induction n9 with
    | zero => intro pv fv pt n mo tv TAv h9; exact absurd h9 (Nat.not_lt_zero _)
    | succ n9 ih9 =>
      intro pv fv pt n mo tv TAv hm9 hS H locs xP xD xS ls xl
      have ih_12 := ih9
      have hm_12 := hm9
      have hS1 := TgI_f hS
      refine lv_iload xe xb d_TripleLinesModel_readTag_12 (lv_at xl 4 rfl) ?_
      refine tk_if_eq (tgt := 188) xe xb d_TripleLinesModel_readTag_14 (by decide) (by omega) (fun C14 => ?_) (fun C14 => ?_)
      · refine lv_aload_n xe xb d_TripleLinesModel_readTag_188 rfl (lv_at xl 0 rfl) ?_
        refine tk_callVi (As := []) (rest := []) (wr := [(aT, .inl (cI, 3000, .inl fT)), (aA, .inl (cI, 16, .inl TAv))]) (wn := fun u => [(mM, .inr (6, [.int (iI tm), .ref aT, .int (iI om), .ref aO, .int (iI tn), .ref aK, .ref aS, .ref aC, .ref aU, .ref aG, .ref aY, .ref aX, .int (iI qn), .ref aP, .int (iI tr), .int (iI rg), .int (iI ll), .int (iI pv), .int (iI fv), .int (iI ov), .int (iI sz), .ref aM, .int (iI tv), .ref aA, .int (iI dm), .ref aD, .ref aB, .ref aV, .ref aE])), (aT, .inl (cI, 3000, .inl fT)), (aA, .inl (cI, 16, .inl TAv))]) ⟨xe, xb, xml, xo, xt⟩ (c_TripleLinesModel_goes l D cI mM tm aT om aO tn aK aS aC aU aG aY aX qn aP tr rg ll pv fv ov sz aM tv aA dm aD aB aV aE (by first | assumption | omega)) k_TripleLinesModel_goes mw_TripleLinesModel_86 ⟨Nat.le_of_ble_eq_true rfl, Nat.le_of_ble_eq_true rfl⟩ xK xP xD xS xA rfl xl.1 rfl (Nat.le_of_ble_eq_true rfl) d_TripleLinesModel_readTag_189 ⟨Nat.zero_le _, Nat.zero_le _⟩ [0] [1, 2] [2, 0, 1] rfl rfl (by decide) (by decide) (by decide) (by decide) (fun _ => rfl) rfl rfl rfl ?_
        clear xP xD xS
        intro z_2 u H locs hr_3 hw_1 xP xD xS
        try dsimp only at hw_1
        replace xP : va_P D classes [(mM, .inr (6, [.int (iI tm), .ref aT, .int (iI om), .ref aO, .int (iI tn), .ref aK, .ref aS, .ref aC, .ref aU, .ref aG, .ref aY, .ref aX, .int (iI qn), .ref aP, .int (iI tr), .int (iI rg), .int (iI ll), .int (iI pv), .int (iI fv), .int (iI ov), .int (iI sz), .ref aM, .int (iI tv), .ref aA, .int (iI dm), .ref aD, .ref aB, .ref aV, .ref aE])), (aT, .inl (cI, 3000, .inl fT)), (aA, .inl (cI, 16, .inl TAv))] H := xP
        replace xD : va_D xA0 [(mM, .inr (6, [.int (iI tm), .ref aT, .int (iI om), .ref aO, .int (iI tn), .ref aK, .ref aS, .ref aC, .ref aU, .ref aG, .ref aY, .ref aX, .int (iI qn), .ref aP, .int (iI tr), .int (iI rg), .int (iI ll), .int (iI pv), .int (iI fv), .int (iI ov), .int (iI sz), .ref aM, .int (iI tv), .ref aA, .int (iI dm), .ref aD, .ref aB, .ref aV, .ref aE])), (aT, .inl (cI, 3000, .inl fT)), (aA, .inl (cI, 16, .inl TAv))] := xD
        rcases hw_1 with ⟨rfl, Hg2⟩ | ⟨rfl, Hg2⟩
        · refine tk_if_eq (tgt := 207) xe xb d_TripleLinesModel_readTag_192 (by decide) (by omega) (fun c_4 => absurd c_4 (by omega)) (fun c_4 => ?_)
          refine lv_iload_n xe xb d_TripleLinesModel_readTag_195 rfl (lv_at xl 3 rfl) ?_
          refine tk_if_ne (tgt := 207) xe xb d_TripleLinesModel_readTag_196 (by decide) (by omega) (fun C196 => ?_) (fun C196 => ?_)
          · exact xret _ _ _ _ (pv, fv, tv, TAv) d_TripleLinesModel_readTag_207 (by first | exact (TgO_1 hS Hg2 C14 C196) | (dsimp only; exact (TgO_1 hS Hg2 C14 C196))) xP xD xS
          · refine lv_aload_n xe xb d_TripleLinesModel_readTag_199 rfl (lv_at xl 0 rfl) ?_
            refine lv_aload_n xe xb d_TripleLinesModel_readTag_200 rfl (lv_at xl 0 rfl) ?_
            refine va_get (D := D) (ci := 6) (v := .int (iI pv)) (C := R_TripleLinesModel) (T := F_TripleLinesModel) (N := 29) xe xb xt i_TripleLinesModel xo xK xP 0 rfl rfl 17 (by decide) (xt _ mw_TripleLinesModel_79) (fun _ h9 => h9) rfl d_TripleLinesModel_readTag_201 ?_
            refine tk_callVv (As := [.int (iI pv)]) (rest := []) (wr := [(aT, .inl (cI, 3000, .inl fT)), (aA, .inl (cI, 16, .inl TAv))]) (wn := fun u => [(mM, .inr (6, [.int (iI tm), .ref aT, .int (iI om), .ref aO, .int (iI tn), .ref aK, .ref aS, .ref aC, .ref aU, .ref aG, .ref aY, .ref aX, .int (iI qn), .ref aP, .int (iI tr), .int (iI rg), .int (iI ll), .int (iI pv), .int (iI u), .int (iI ov), .int (iI sz), .ref aM, .int (iI tv), .ref aA, .int (iI dm), .ref aD, .ref aB, .ref aV, .ref aE])), (aT, .inl (cI, 3000, .inl fT)), (aA, .inl (cI, 16, .inl TAv))]) ⟨xe, xb, xml, xo, xt⟩ (c_TripleLinesModel_fail l D cI mM tm aT om aO tn aK aS aC aU aG aY aX qn aP tr rg ll pv fv ov sz aM tv aA dm aD aB aV aE pv (by first | assumption | omega)) k_TripleLinesModel_fail mw_TripleLinesModel_94 ⟨Nat.le_of_ble_eq_true rfl, Nat.le_of_ble_eq_true rfl⟩ xK xP xD xS xA rfl xl.1 rfl (Nat.le_of_ble_eq_true rfl) d_TripleLinesModel_readTag_204 ⟨Nat.zero_le _, Nat.zero_le _⟩ [0] [1, 2] [2, 0, 1] rfl rfl (by decide) (by decide) (by decide) (by decide) (fun _ => rfl) rfl rfl rfl ?_
            clear xP xD xS
            intro u H locs hw_6 xP xD xS
            obtain ⟨f2_5, rfl⟩ : ∃ v, v = u := ⟨_, rfl⟩
            try dsimp only at hw_6
            replace xP : va_P D classes [(mM, .inr (6, [.int (iI tm), .ref aT, .int (iI om), .ref aO, .int (iI tn), .ref aK, .ref aS, .ref aC, .ref aU, .ref aG, .ref aY, .ref aX, .int (iI qn), .ref aP, .int (iI tr), .int (iI rg), .int (iI ll), .int (iI pv), .int (iI f2_5), .int (iI ov), .int (iI sz), .ref aM, .int (iI tv), .ref aA, .int (iI dm), .ref aD, .ref aB, .ref aV, .ref aE])), (aT, .inl (cI, 3000, .inl fT)), (aA, .inl (cI, 16, .inl TAv))] H := xP
            replace xD : va_D xA0 [(mM, .inr (6, [.int (iI tm), .ref aT, .int (iI om), .ref aO, .int (iI tn), .ref aK, .ref aS, .ref aC, .ref aU, .ref aG, .ref aY, .ref aX, .int (iI qn), .ref aP, .int (iI tr), .int (iI rg), .int (iI ll), .int (iI pv), .int (iI f2_5), .int (iI ov), .int (iI sz), .ref aM, .int (iI tv), .ref aA, .int (iI dm), .ref aD, .ref aB, .ref aV, .ref aE])), (aT, .inl (cI, 3000, .inl fT)), (aA, .inl (cI, 16, .inl TAv))] := xD
            have HF := hw_6
            exact xret _ _ _ _ (pv, f2_5, tv, TAv) d_TripleLinesModel_readTag_207 (by first | exact (TgO_0 hS Hg2 C14 C196 HF) | (dsimp only; exact (TgO_0 hS Hg2 C14 C196 HF))) xP xD xS
        · refine tk_if_eq (tgt := 207) xe xb d_TripleLinesModel_readTag_192 (by decide) (by omega) (fun c_8 => ?_) (fun c_8 => absurd c_8 (by omega))
          exact xret _ _ _ _ (pv, fv, tv, TAv) d_TripleLinesModel_readTag_207 (by first | exact (TgO_dead hS (by omega)) | (dsimp only; exact (TgO_dead hS (by omega)))) xP xD xS
      · refine lv_aload_n xe xb d_TripleLinesModel_readTag_17 rfl (lv_at xl 0 rfl) ?_
        refine tk_callVi (As := []) (rest := []) (wr := [(aT, .inl (cI, 3000, .inl fT)), (aA, .inl (cI, 16, .inl TAv))]) (wn := fun u => [(mM, .inr (6, [.int (iI tm), .ref aT, .int (iI om), .ref aO, .int (iI tn), .ref aK, .ref aS, .ref aC, .ref aU, .ref aG, .ref aY, .ref aX, .int (iI qn), .ref aP, .int (iI tr), .int (iI rg), .int (iI ll), .int (iI pv), .int (iI fv), .int (iI ov), .int (iI sz), .ref aM, .int (iI tv), .ref aA, .int (iI dm), .ref aD, .ref aB, .ref aV, .ref aE])), (aT, .inl (cI, 3000, .inl fT)), (aA, .inl (cI, 16, .inl TAv))]) ⟨xe, xb, xml, xo, xt⟩ (c_TripleLinesModel_goes l D cI mM tm aT om aO tn aK aS aC aU aG aY aX qn aP tr rg ll pv fv ov sz aM tv aA dm aD aB aV aE (by first | assumption | omega)) k_TripleLinesModel_goes mw_TripleLinesModel_86 ⟨Nat.le_of_ble_eq_true rfl, Nat.le_of_ble_eq_true rfl⟩ xK xP xD xS xA rfl xl.1 rfl (Nat.le_of_ble_eq_true rfl) d_TripleLinesModel_readTag_18 ⟨Nat.zero_le _, Nat.zero_le _⟩ [0] [1, 2] [2, 0, 1] rfl rfl (by decide) (by decide) (by decide) (by decide) (fun _ => rfl) rfl rfl rfl ?_
        clear xP xD xS
        intro z_10 u H locs hr_11 hw_9 xP xD xS
        try dsimp only at hw_9
        replace xP : va_P D classes [(mM, .inr (6, [.int (iI tm), .ref aT, .int (iI om), .ref aO, .int (iI tn), .ref aK, .ref aS, .ref aC, .ref aU, .ref aG, .ref aY, .ref aX, .int (iI qn), .ref aP, .int (iI tr), .int (iI rg), .int (iI ll), .int (iI pv), .int (iI fv), .int (iI ov), .int (iI sz), .ref aM, .int (iI tv), .ref aA, .int (iI dm), .ref aD, .ref aB, .ref aV, .ref aE])), (aT, .inl (cI, 3000, .inl fT)), (aA, .inl (cI, 16, .inl TAv))] H := xP
        replace xD : va_D xA0 [(mM, .inr (6, [.int (iI tm), .ref aT, .int (iI om), .ref aO, .int (iI tn), .ref aK, .ref aS, .ref aC, .ref aU, .ref aG, .ref aY, .ref aX, .int (iI qn), .ref aP, .int (iI tr), .int (iI rg), .int (iI ll), .int (iI pv), .int (iI fv), .int (iI ov), .int (iI sz), .ref aM, .int (iI tv), .ref aA, .int (iI dm), .ref aD, .ref aB, .ref aV, .ref aE])), (aT, .inl (cI, 3000, .inl fT)), (aA, .inl (cI, 16, .inl TAv))] := xD
        rcases hw_9 with ⟨rfl, Hg⟩ | ⟨rfl, Hg⟩
        · refine tk_if_eq (tgt := 188) xe xb d_TripleLinesModel_readTag_21 (by decide) (by omega) (fun c_12 => absurd c_12 (by omega)) (fun c_12 => ?_)
          have hl8 := (TgI_live hS Hg C14).2.1
          have hl9 := (TgI_live hS Hg C14).2.2.1
          have loop_50 : ∀ (c : Int), (c = rd (lst (tI fT) tm) pv) → (-1 ≤ c ∧ c < 256) → (isL c ∨ (0 < pt ∧ isG c)) → ∀ (H : Heap) (locs : List Loc), va_P D classes [(mM, .inr (6, [.int (iI tm), .ref aT, .int (iI om), .ref aO, .int (iI tn), .ref aK, .ref aS, .ref aC, .ref aU, .ref aG, .ref aY, .ref aX, .int (iI qn), .ref aP, .int (iI tr), .int (iI rg), .int (iI ll), .int (iI pv), .int (iI fv), .int (iI ov), .int (iI sz), .ref aM, .int (iI tv), .ref aA, .int (iI dm), .ref aD, .ref aB, .ref aV, .ref aE])), (aT, .inl (cI, 3000, .inl fT)), (aA, .inl (cI, 16, .inl TAv))] H → va_D xA0 [(mM, .inr (6, [.int (iI tm), .ref aT, .int (iI om), .ref aO, .int (iI tn), .ref aK, .ref aS, .ref aC, .ref aU, .ref aG, .ref aY, .ref aX, .int (iI qn), .ref aP, .int (iI tr), .int (iI rg), .int (iI ll), .int (iI pv), .int (iI fv), .int (iI ov), .int (iI sz), .ref aM, .int (iI tv), .ref aA, .int (iI dm), .ref aD, .ref aB, .ref aV, .ref aE])), (aT, .inl (cI, 3000, .inl fT)), (aA, .inl (cI, 16, .inl TAv))] → va_S xA0 xs.heap H locs → ∀ ls : Array Slot, lv_has ls 6 [(0, .ref mM), (1, .int (iI p)), (2, .int (iI pt)), (3, .int (iI n)), (4, .int (iI mo)), (5, .int (iI c))] → W xp l xe0 (tk_rm 2) xs xm xar xbelow xmeth xc H locs 0 0 xQ (F0 xm 50 ls []) := by
            intro c hc hcr hg H locs xP xD xS ls xl
            refine tk_iinc (v := (n + 1)) (lv' := [(3, .int (iI (n + 1))), (0, .ref mM), (1, .int (iI p)), (2, .int (iI pt)), (4, .int (iI mo)), (5, .int (iI c))]) xe xb d_TripleLinesModel_readTag_50 xl (k := 3) rfl rfl (by decide) rfl ?_
            clear xl
            intro ls xl
            refine lv_iload_n xe xb d_TripleLinesModel_readTag_53 rfl (lv_at xl 0 rfl) ?_
            refine lv_bipush (v := iI (8)) xe xb d_TripleLinesModel_readTag_54 (by decide) ?_
            refine tk_icmp_gt (tgt := 70) xe xb d_TripleLinesModel_readTag_56 (by decide) (by omega) (fun C56 => ?_) (fun C56 => ?_)
            · refine lv_aload_n xe xb d_TripleLinesModel_readTag_70 rfl (lv_at xl 1 rfl) ?_
              refine lv_aload_n xe xb d_TripleLinesModel_readTag_71 rfl (lv_at xl 1 rfl) ?_
              refine va_get (D := D) (ci := 6) (v := .int (iI pv)) (C := R_TripleLinesModel) (T := F_TripleLinesModel) (N := 29) xe xb xt i_TripleLinesModel xo xK xP 0 rfl rfl 17 (by decide) (xt _ mw_TripleLinesModel_79) (fun _ h9 => h9) rfl d_TripleLinesModel_readTag_72 ?_
              refine tk_callVv (As := [.int (iI pv)]) (rest := []) (wr := [(aT, .inl (cI, 3000, .inl fT)), (aA, .inl (cI, 16, .inl TAv))]) (wn := fun u => [(mM, .inr (6, [.int (iI tm), .ref aT, .int (iI om), .ref aO, .int (iI tn), .ref aK, .ref aS, .ref aC, .ref aU, .ref aG, .ref aY, .ref aX, .int (iI qn), .ref aP, .int (iI tr), .int (iI rg), .int (iI ll), .int (iI pv), .int (iI u), .int (iI ov), .int (iI sz), .ref aM, .int (iI tv), .ref aA, .int (iI dm), .ref aD, .ref aB, .ref aV, .ref aE])), (aT, .inl (cI, 3000, .inl fT)), (aA, .inl (cI, 16, .inl TAv))]) ⟨xe, xb, xml, xo, xt⟩ (c_TripleLinesModel_fail l D cI mM tm aT om aO tn aK aS aC aU aG aY aX qn aP tr rg ll pv fv ov sz aM tv aA dm aD aB aV aE pv (by first | assumption | omega)) k_TripleLinesModel_fail mw_TripleLinesModel_94 ⟨Nat.le_of_ble_eq_true rfl, Nat.le_of_ble_eq_true rfl⟩ xK xP xD xS xA rfl xl.1 rfl (Nat.le_of_ble_eq_true rfl) d_TripleLinesModel_readTag_75 ⟨Nat.zero_le _, Nat.zero_le _⟩ [0] [1, 2] [2, 0, 1] rfl rfl (by decide) (by decide) (by decide) (by decide) (fun _ => rfl) rfl rfl rfl ?_
              clear xP xD xS
              intro u H locs hw_14 xP xD xS
              obtain ⟨f2_13, rfl⟩ : ∃ v, v = u := ⟨_, rfl⟩
              try dsimp only at hw_14
              replace xP : va_P D classes [(mM, .inr (6, [.int (iI tm), .ref aT, .int (iI om), .ref aO, .int (iI tn), .ref aK, .ref aS, .ref aC, .ref aU, .ref aG, .ref aY, .ref aX, .int (iI qn), .ref aP, .int (iI tr), .int (iI rg), .int (iI ll), .int (iI pv), .int (iI f2_13), .int (iI ov), .int (iI sz), .ref aM, .int (iI tv), .ref aA, .int (iI dm), .ref aD, .ref aB, .ref aV, .ref aE])), (aT, .inl (cI, 3000, .inl fT)), (aA, .inl (cI, 16, .inl TAv))] H := xP
              replace xD : va_D xA0 [(mM, .inr (6, [.int (iI tm), .ref aT, .int (iI om), .ref aO, .int (iI tn), .ref aK, .ref aS, .ref aC, .ref aU, .ref aG, .ref aY, .ref aX, .int (iI qn), .ref aP, .int (iI tr), .int (iI rg), .int (iI ll), .int (iI pv), .int (iI f2_13), .int (iI ov), .int (iI sz), .ref aM, .int (iI tv), .ref aA, .int (iI dm), .ref aD, .ref aB, .ref aV, .ref aE])), (aT, .inl (cI, 3000, .inl fT)), (aA, .inl (cI, 16, .inl TAv))] := xD
              have HF := hw_14
              refine lv_goto (tgt := 122) xe xb d_TripleLinesModel_readTag_78 (by decide) ?_
              refine lv_iload xe xb d_TripleLinesModel_readTag_122 (lv_at xl 4 rfl) ?_
              refine tk_if_eq (tgt := 185) xe xb d_TripleLinesModel_readTag_124 (by decide) (by omega) (fun c_16 => absurd c_16 (by omega)) (fun c_16 => ?_)
              refine lv_aload_n xe xb d_TripleLinesModel_readTag_127 rfl (lv_at xl 1 rfl) ?_
              refine tk_callVi (As := []) (rest := []) (wr := [(aT, .inl (cI, 3000, .inl fT)), (aA, .inl (cI, 16, .inl TAv))]) (wn := fun u => [(mM, .inr (6, [.int (iI tm), .ref aT, .int (iI om), .ref aO, .int (iI tn), .ref aK, .ref aS, .ref aC, .ref aU, .ref aG, .ref aY, .ref aX, .int (iI qn), .ref aP, .int (iI tr), .int (iI rg), .int (iI ll), .int (iI pv), .int (iI f2_13), .int (iI ov), .int (iI sz), .ref aM, .int (iI tv), .ref aA, .int (iI dm), .ref aD, .ref aB, .ref aV, .ref aE])), (aT, .inl (cI, 3000, .inl fT)), (aA, .inl (cI, 16, .inl TAv))]) ⟨xe, xb, xml, xo, xt⟩ (c_TripleLinesModel_goes l D cI mM tm aT om aO tn aK aS aC aU aG aY aX qn aP tr rg ll pv f2_13 ov sz aM tv aA dm aD aB aV aE (by first | assumption | omega)) k_TripleLinesModel_goes mw_TripleLinesModel_86 ⟨Nat.le_of_ble_eq_true rfl, Nat.le_of_ble_eq_true rfl⟩ xK xP xD xS xA rfl xl.1 rfl (Nat.le_of_ble_eq_true rfl) d_TripleLinesModel_readTag_128 ⟨Nat.zero_le _, Nat.zero_le _⟩ [0] [1, 2] [2, 0, 1] rfl rfl (by decide) (by decide) (by decide) (by decide) (fun _ => rfl) rfl rfl rfl ?_
              clear xP xD xS
              intro z_18 u H locs hr_19 hw_17 xP xD xS
              try dsimp only at hw_17
              replace xP : va_P D classes [(mM, .inr (6, [.int (iI tm), .ref aT, .int (iI om), .ref aO, .int (iI tn), .ref aK, .ref aS, .ref aC, .ref aU, .ref aG, .ref aY, .ref aX, .int (iI qn), .ref aP, .int (iI tr), .int (iI rg), .int (iI ll), .int (iI pv), .int (iI f2_13), .int (iI ov), .int (iI sz), .ref aM, .int (iI tv), .ref aA, .int (iI dm), .ref aD, .ref aB, .ref aV, .ref aE])), (aT, .inl (cI, 3000, .inl fT)), (aA, .inl (cI, 16, .inl TAv))] H := xP
              replace xD : va_D xA0 [(mM, .inr (6, [.int (iI tm), .ref aT, .int (iI om), .ref aO, .int (iI tn), .ref aK, .ref aS, .ref aC, .ref aU, .ref aG, .ref aY, .ref aX, .int (iI qn), .ref aP, .int (iI tr), .int (iI rg), .int (iI ll), .int (iI pv), .int (iI f2_13), .int (iI ov), .int (iI sz), .ref aM, .int (iI tv), .ref aA, .int (iI dm), .ref aD, .ref aB, .ref aV, .ref aE])), (aT, .inl (cI, 3000, .inl fT)), (aA, .inl (cI, 16, .inl TAv))] := xD
              rcases hw_17 with ⟨rfl, Hg3⟩ | ⟨rfl, Hg3⟩
              · exfalso; (rw [if_pos Hg] at HF; omega)
              · refine tk_if_eq (tgt := 185) xe xb d_TripleLinesModel_readTag_131 (by decide) (by omega) (fun c_20 => ?_) (fun c_20 => absurd c_20 (by omega))
                have hS9 := TgI_fail (pt2 := pt) (n2 := n + 1) hS Hg C14 hc (Or.inl ⟨hg, Or.inl (by omega)⟩) HF (by omega) (by omega)
                have hd9 : _ ∨ mo = 0 ∨ (pv < pv ∧ pv ≤ tm) := Or.inl Hg3
                refine lv_goto (tgt := 12) xe xb d_TripleLinesModel_readTag_185 (by decide) ?_
                exact ih_12 pv f2_13 pt (n + 1) mo tv TAv (ms2_dec Hg C14 hm_12 hd9) hS9 _ _ xP xD xS ls (lv_sub xl [1, 2, 3, 0, 4] rfl)
            · refine lv_aload_n xe xb d_TripleLinesModel_readTag_59 rfl (lv_at xl 1 rfl) ?_
              refine va_get (D := D) (ci := 6) (v := .int (iI pv)) (C := R_TripleLinesModel) (T := F_TripleLinesModel) (N := 29) xe xb xt i_TripleLinesModel xo xK xP 0 rfl rfl 17 (by decide) (xt _ mw_TripleLinesModel_79) (fun _ h9 => h9) rfl d_TripleLinesModel_readTag_60 ?_
              refine lv_iload_n xe xb d_TripleLinesModel_readTag_63 rfl (lv_at xl 2 rfl) ?_
              refine tk_isub xe xb d_TripleLinesModel_readTag_64 ?_
              refine lv_bipush (v := iI (16)) xe xb d_TripleLinesModel_readTag_65 (by decide) ?_
              refine tk_icmp_ne (tgt := 122) xe xb d_TripleLinesModel_readTag_67 (by decide) (by omega) (fun C67 => ?_) (fun C67 => ?_)
              · refine lv_iload xe xb d_TripleLinesModel_readTag_122 (lv_at xl 4 rfl) ?_
                refine tk_if_eq (tgt := 185) xe xb d_TripleLinesModel_readTag_124 (by decide) (by omega) (fun c_21 => absurd c_21 (by omega)) (fun c_21 => ?_)
                refine lv_aload_n xe xb d_TripleLinesModel_readTag_127 rfl (lv_at xl 1 rfl) ?_
                refine tk_callVi (As := []) (rest := []) (wr := [(aT, .inl (cI, 3000, .inl fT)), (aA, .inl (cI, 16, .inl TAv))]) (wn := fun u => [(mM, .inr (6, [.int (iI tm), .ref aT, .int (iI om), .ref aO, .int (iI tn), .ref aK, .ref aS, .ref aC, .ref aU, .ref aG, .ref aY, .ref aX, .int (iI qn), .ref aP, .int (iI tr), .int (iI rg), .int (iI ll), .int (iI pv), .int (iI fv), .int (iI ov), .int (iI sz), .ref aM, .int (iI tv), .ref aA, .int (iI dm), .ref aD, .ref aB, .ref aV, .ref aE])), (aT, .inl (cI, 3000, .inl fT)), (aA, .inl (cI, 16, .inl TAv))]) ⟨xe, xb, xml, xo, xt⟩ (c_TripleLinesModel_goes l D cI mM tm aT om aO tn aK aS aC aU aG aY aX qn aP tr rg ll pv fv ov sz aM tv aA dm aD aB aV aE (by first | assumption | omega)) k_TripleLinesModel_goes mw_TripleLinesModel_86 ⟨Nat.le_of_ble_eq_true rfl, Nat.le_of_ble_eq_true rfl⟩ xK xP xD xS xA rfl xl.1 rfl (Nat.le_of_ble_eq_true rfl) d_TripleLinesModel_readTag_128 ⟨Nat.zero_le _, Nat.zero_le _⟩ [0] [1, 2] [2, 0, 1] rfl rfl (by decide) (by decide) (by decide) (by decide) (fun _ => rfl) rfl rfl rfl ?_
                clear xP xD xS
                intro z_23 u H locs hr_24 hw_22 xP xD xS
                try dsimp only at hw_22
                replace xP : va_P D classes [(mM, .inr (6, [.int (iI tm), .ref aT, .int (iI om), .ref aO, .int (iI tn), .ref aK, .ref aS, .ref aC, .ref aU, .ref aG, .ref aY, .ref aX, .int (iI qn), .ref aP, .int (iI tr), .int (iI rg), .int (iI ll), .int (iI pv), .int (iI fv), .int (iI ov), .int (iI sz), .ref aM, .int (iI tv), .ref aA, .int (iI dm), .ref aD, .ref aB, .ref aV, .ref aE])), (aT, .inl (cI, 3000, .inl fT)), (aA, .inl (cI, 16, .inl TAv))] H := xP
                replace xD : va_D xA0 [(mM, .inr (6, [.int (iI tm), .ref aT, .int (iI om), .ref aO, .int (iI tn), .ref aK, .ref aS, .ref aC, .ref aU, .ref aG, .ref aY, .ref aX, .int (iI qn), .ref aP, .int (iI tr), .int (iI rg), .int (iI ll), .int (iI pv), .int (iI fv), .int (iI ov), .int (iI sz), .ref aM, .int (iI tv), .ref aA, .int (iI dm), .ref aD, .ref aB, .ref aV, .ref aE])), (aT, .inl (cI, 3000, .inl fT)), (aA, .inl (cI, 16, .inl TAv))] := xD
                rcases hw_22 with ⟨rfl, Hg3⟩ | ⟨rfl, Hg3⟩
                · refine tk_if_eq (tgt := 185) xe xb d_TripleLinesModel_readTag_131 (by decide) (by omega) (fun c_25 => absurd c_25 (by omega)) (fun c_25 => ?_)
                  refine lv_aload_n xe xb d_TripleLinesModel_readTag_134 rfl (lv_at xl 1 rfl) ?_
                  refine va_get (D := D) (ci := 6) (v := .ref aA) (C := R_TripleLinesModel) (T := F_TripleLinesModel) (N := 29) xe xb xt i_TripleLinesModel xo xK xP 0 rfl rfl 23 (by decide) (xt _ mw_TripleLinesModel_43) (fun _ h9 => h9) rfl d_TripleLinesModel_readTag_135 ?_
                  refine lv_aload_n xe xb d_TripleLinesModel_readTag_138 rfl (lv_at xl 1 rfl) ?_
                  refine va_get (D := D) (ci := 6) (v := .int (iI tv)) (C := R_TripleLinesModel) (T := F_TripleLinesModel) (N := 29) xe xb xt i_TripleLinesModel xo xK xP 0 rfl rfl 22 (by decide) (xt _ mw_TripleLinesModel_135) (fun _ h9 => h9) rfl d_TripleLinesModel_readTag_139 ?_
                  refine lv_iload xe xb d_TripleLinesModel_readTag_142 (lv_at xl 5 rfl) ?_
                  refine lv_bipush (v := iI (65)) xe xb d_TripleLinesModel_readTag_144 (by decide) ?_
                  refine lv_bipush (v := iI (90)) xe xb d_TripleLinesModel_readTag_146 (by decide) ?_
                  refine tk_callSi (As := [.int (iI c), .int (iI 65), .int (iI 90)]) (rest := [.int (iI tv), .ref aA]) (wr := [(mM, .inr (6, [.int (iI tm), .ref aT, .int (iI om), .ref aO, .int (iI tn), .ref aK, .ref aS, .ref aC, .ref aU, .ref aG, .ref aY, .ref aX, .int (iI qn), .ref aP, .int (iI tr), .int (iI rg), .int (iI ll), .int (iI pv), .int (iI fv), .int (iI ov), .int (iI sz), .ref aM, .int (iI tv), .ref aA, .int (iI dm), .ref aD, .ref aB, .ref aV, .ref aE])), (aT, .inl (cI, 3000, .inl fT)), (aA, .inl (cI, 16, .inl TAv))]) (wn := fun u => [(mM, .inr (6, [.int (iI tm), .ref aT, .int (iI om), .ref aO, .int (iI tn), .ref aK, .ref aS, .ref aC, .ref aU, .ref aG, .ref aY, .ref aX, .int (iI qn), .ref aP, .int (iI tr), .int (iI rg), .int (iI ll), .int (iI pv), .int (iI fv), .int (iI ov), .int (iI sz), .ref aM, .int (iI tv), .ref aA, .int (iI dm), .ref aD, .ref aB, .ref aV, .ref aE])), (aT, .inl (cI, 3000, .inl fT)), (aA, .inl (cI, 16, .inl TAv))]) ⟨xe, xb, xml, xo, xt⟩ (c_TripleLinesModel_in l D cI c 65 90 (by first | assumption | omega) (by first | assumption | omega) (by first | assumption | omega)) k_TripleLinesModel_in mw_TripleLinesModel_63 ⟨Nat.le_of_ble_eq_true rfl, Nat.le_of_ble_eq_true rfl⟩ xK xP xD xS xA rfl xl.1 rfl (Nat.le_of_ble_eq_true rfl) d_TripleLinesModel_readTag_148 ⟨Nat.zero_le _, Nat.zero_le _⟩ [] [0, 1, 2] [0, 1, 2] rfl rfl (by decide) (by decide) (by decide) (by decide) (fun _ => rfl) ?_
                  clear xP xD xS
                  intro z_27 u H locs hr_28 hw_26 xP xD xS
                  try dsimp only at hw_26
                  replace xP : va_P D classes [(mM, .inr (6, [.int (iI tm), .ref aT, .int (iI om), .ref aO, .int (iI tn), .ref aK, .ref aS, .ref aC, .ref aU, .ref aG, .ref aY, .ref aX, .int (iI qn), .ref aP, .int (iI tr), .int (iI rg), .int (iI ll), .int (iI pv), .int (iI fv), .int (iI ov), .int (iI sz), .ref aM, .int (iI tv), .ref aA, .int (iI dm), .ref aD, .ref aB, .ref aV, .ref aE])), (aT, .inl (cI, 3000, .inl fT)), (aA, .inl (cI, 16, .inl TAv))] H := xP
                  replace xD : va_D xA0 [(mM, .inr (6, [.int (iI tm), .ref aT, .int (iI om), .ref aO, .int (iI tn), .ref aK, .ref aS, .ref aC, .ref aU, .ref aG, .ref aY, .ref aX, .int (iI qn), .ref aP, .int (iI tr), .int (iI rg), .int (iI ll), .int (iI pv), .int (iI fv), .int (iI ov), .int (iI sz), .ref aM, .int (iI tv), .ref aA, .int (iI dm), .ref aD, .ref aB, .ref aV, .ref aE])), (aT, .inl (cI, 3000, .inl fT)), (aA, .inl (cI, 16, .inl TAv))] := xD
                  rcases hw_26 with ⟨rfl, Hu⟩ | ⟨rfl, Hu⟩
                  · refine tk_if_eq (tgt := 162) xe xb d_TripleLinesModel_readTag_151 (by decide) (by omega) (fun c_29 => absurd c_29 (by omega)) (fun c_29 => ?_)
                    refine lv_iload xe xb d_TripleLinesModel_readTag_154 (lv_at xl 5 rfl) ?_
                    refine lv_bipush (v := iI (32)) xe xb d_TripleLinesModel_readTag_156 (by decide) ?_
                    refine tk_iadd xe xb d_TripleLinesModel_readTag_158 ?_
                    refine lv_goto (tgt := 164) xe xb d_TripleLinesModel_readTag_159 (by decide) ?_
                    refine tk_iast xe xb xK xP xD xS 2 0 rfl rfl (by omega) d_TripleLinesModel_readTag_164 ?_
                    clear xP xD xS
                    intro H locs xP xD xS
                    replace xP : va_P D classes [(mM, .inr (6, [.int (iI tm), .ref aT, .int (iI om), .ref aO, .int (iI tn), .ref aK, .ref aS, .ref aC, .ref aU, .ref aG, .ref aY, .ref aX, .int (iI qn), .ref aP, .int (iI tr), .int (iI rg), .int (iI ll), .int (iI pv), .int (iI fv), .int (iI ov), .int (iI sz), .ref aM, .int (iI tv), .ref aA, .int (iI dm), .ref aD, .ref aB, .ref aV, .ref aE])), (aT, .inl (cI, 3000, .inl fT)), (aA, .inl (cI, 16, .inl (fu TAv tv (c + 32))))] H := xP
                    replace xD : va_D xA0 [(mM, .inr (6, [.int (iI tm), .ref aT, .int (iI om), .ref aO, .int (iI tn), .ref aK, .ref aS, .ref aC, .ref aU, .ref aG, .ref aY, .ref aX, .int (iI qn), .ref aP, .int (iI tr), .int (iI rg), .int (iI ll), .int (iI pv), .int (iI fv), .int (iI ov), .int (iI sz), .ref aM, .int (iI tv), .ref aA, .int (iI dm), .ref aD, .ref aB, .ref aV, .ref aE])), (aT, .inl (cI, 3000, .inl fT)), (aA, .inl (cI, 16, .inl (fu TAv tv (c + 32))))] := xD
                    refine lv_aload_n xe xb d_TripleLinesModel_readTag_165 rfl (lv_at xl 1 rfl) ?_
                    refine lv_dup xe xb d_TripleLinesModel_readTag_166 rfl ?_
                    refine va_get (D := D) (ci := 6) (v := .int (iI tv)) (C := R_TripleLinesModel) (T := F_TripleLinesModel) (N := 29) xe xb xt i_TripleLinesModel xo xK xP 0 rfl rfl 22 (by decide) (xt _ mw_TripleLinesModel_135) (fun _ h9 => h9) rfl d_TripleLinesModel_readTag_167 ?_
                    refine lv_iconst (v := iI (1)) xe xb d_TripleLinesModel_readTag_170 rfl ?_
                    refine tk_iadd xe xb d_TripleLinesModel_readTag_171 ?_
                    refine va_put (D := D) (ci := 6) (v := .int (iI (tv + 1))) (ty := .int) (C := R_TripleLinesModel) (T := F_TripleLinesModel) (N := 29) xe xb xt i_TripleLinesModel t_TripleLinesModel t_TripleLinesModel_ok n_TripleLinesModel xo xK xP xD xS 0 rfl rfl 22 (by decide) (xt _ mw_TripleLinesModel_135) (fun _ h9 => h9) rfl (by decide +kernel) rfl rfl (Nat.le_of_ble_eq_true rfl) d_TripleLinesModel_readTag_172 ?_
                    clear xP xD xS
                    intro H locs xP xD xS
                    replace xP : va_P D classes [(mM, .inr (6, [.int (iI tm), .ref aT, .int (iI om), .ref aO, .int (iI tn), .ref aK, .ref aS, .ref aC, .ref aU, .ref aG, .ref aY, .ref aX, .int (iI qn), .ref aP, .int (iI tr), .int (iI rg), .int (iI ll), .int (iI pv), .int (iI fv), .int (iI ov), .int (iI sz), .ref aM, .int (iI (tv + 1)), .ref aA, .int (iI dm), .ref aD, .ref aB, .ref aV, .ref aE])), (aT, .inl (cI, 3000, .inl fT)), (aA, .inl (cI, 16, .inl (fu TAv tv (c + 32))))] H := xP
                    replace xD : va_D xA0 [(mM, .inr (6, [.int (iI tm), .ref aT, .int (iI om), .ref aO, .int (iI tn), .ref aK, .ref aS, .ref aC, .ref aU, .ref aG, .ref aY, .ref aX, .int (iI qn), .ref aP, .int (iI tr), .int (iI rg), .int (iI ll), .int (iI pv), .int (iI fv), .int (iI ov), .int (iI sz), .ref aM, .int (iI (tv + 1)), .ref aA, .int (iI dm), .ref aD, .ref aB, .ref aV, .ref aE])), (aT, .inl (cI, 3000, .inl fT)), (aA, .inl (cI, 16, .inl (fu TAv tv (c + 32))))] := xD
                    refine lv_aload_n xe xb d_TripleLinesModel_readTag_175 rfl (lv_at xl 1 rfl) ?_
                    refine lv_dup xe xb d_TripleLinesModel_readTag_176 rfl ?_
                    refine va_get (D := D) (ci := 6) (v := .int (iI pv)) (C := R_TripleLinesModel) (T := F_TripleLinesModel) (N := 29) xe xb xt i_TripleLinesModel xo xK xP 0 rfl rfl 17 (by decide) (xt _ mw_TripleLinesModel_79) (fun _ h9 => h9) rfl d_TripleLinesModel_readTag_177 ?_
                    refine lv_iconst (v := iI (1)) xe xb d_TripleLinesModel_readTag_180 rfl ?_
                    refine tk_iadd xe xb d_TripleLinesModel_readTag_181 ?_
                    refine va_put (D := D) (ci := 6) (v := .int (iI (pv + 1))) (ty := .int) (C := R_TripleLinesModel) (T := F_TripleLinesModel) (N := 29) xe xb xt i_TripleLinesModel t_TripleLinesModel t_TripleLinesModel_ok n_TripleLinesModel xo xK xP xD xS 0 rfl rfl 17 (by decide) (xt _ mw_TripleLinesModel_79) (fun _ h9 => h9) rfl (by decide +kernel) rfl rfl (Nat.le_of_ble_eq_true rfl) d_TripleLinesModel_readTag_182 ?_
                    clear xP xD xS
                    intro H locs xP xD xS
                    replace xP : va_P D classes [(mM, .inr (6, [.int (iI tm), .ref aT, .int (iI om), .ref aO, .int (iI tn), .ref aK, .ref aS, .ref aC, .ref aU, .ref aG, .ref aY, .ref aX, .int (iI qn), .ref aP, .int (iI tr), .int (iI rg), .int (iI ll), .int (iI (pv + 1)), .int (iI fv), .int (iI ov), .int (iI sz), .ref aM, .int (iI (tv + 1)), .ref aA, .int (iI dm), .ref aD, .ref aB, .ref aV, .ref aE])), (aT, .inl (cI, 3000, .inl fT)), (aA, .inl (cI, 16, .inl (fu TAv tv (c + 32))))] H := xP
                    replace xD : va_D xA0 [(mM, .inr (6, [.int (iI tm), .ref aT, .int (iI om), .ref aO, .int (iI tn), .ref aK, .ref aS, .ref aC, .ref aU, .ref aG, .ref aY, .ref aX, .int (iI qn), .ref aP, .int (iI tr), .int (iI rg), .int (iI ll), .int (iI (pv + 1)), .int (iI fv), .int (iI ov), .int (iI sz), .ref aM, .int (iI (tv + 1)), .ref aA, .int (iI dm), .ref aD, .ref aB, .ref aV, .ref aE])), (aT, .inl (cI, 3000, .inl fT)), (aA, .inl (cI, 16, .inl (fu TAv tv (c + 32))))] := xD
                    have hS9 := TgI_sign hL hS Hg C14 hc hg (by omega) (by omega) (show _ = lowL c from (if_pos Hu).symm) (by omega)
                    have hd9 : 0 ≤ fv ∨ mo = 0 ∨ (pv < pv + 1 ∧ pv + 1 ≤ tm) := (Or.inr (Or.inr ⟨by omega, hS9.1.2⟩))
                    refine lv_goto (tgt := 12) xe xb d_TripleLinesModel_readTag_185 (by decide) ?_
                    exact ih_12 (pv + 1) fv pt (n + 1) mo (tv + 1) (fu TAv tv (c + 32)) (ms2_dec Hg C14 hm_12 hd9) hS9 _ _ xP xD xS ls (lv_sub xl [1, 2, 3, 0, 4] rfl)
                  · refine tk_if_eq (tgt := 162) xe xb d_TripleLinesModel_readTag_151 (by decide) (by omega) (fun c_30 => ?_) (fun c_30 => absurd c_30 (by omega))
                    refine lv_iload xe xb d_TripleLinesModel_readTag_162 (lv_at xl 5 rfl) ?_
                    refine tk_iast xe xb xK xP xD xS 2 0 rfl rfl (by omega) d_TripleLinesModel_readTag_164 ?_
                    clear xP xD xS
                    intro H locs xP xD xS
                    replace xP : va_P D classes [(mM, .inr (6, [.int (iI tm), .ref aT, .int (iI om), .ref aO, .int (iI tn), .ref aK, .ref aS, .ref aC, .ref aU, .ref aG, .ref aY, .ref aX, .int (iI qn), .ref aP, .int (iI tr), .int (iI rg), .int (iI ll), .int (iI pv), .int (iI fv), .int (iI ov), .int (iI sz), .ref aM, .int (iI tv), .ref aA, .int (iI dm), .ref aD, .ref aB, .ref aV, .ref aE])), (aT, .inl (cI, 3000, .inl fT)), (aA, .inl (cI, 16, .inl (fu TAv tv c)))] H := xP
                    replace xD : va_D xA0 [(mM, .inr (6, [.int (iI tm), .ref aT, .int (iI om), .ref aO, .int (iI tn), .ref aK, .ref aS, .ref aC, .ref aU, .ref aG, .ref aY, .ref aX, .int (iI qn), .ref aP, .int (iI tr), .int (iI rg), .int (iI ll), .int (iI pv), .int (iI fv), .int (iI ov), .int (iI sz), .ref aM, .int (iI tv), .ref aA, .int (iI dm), .ref aD, .ref aB, .ref aV, .ref aE])), (aT, .inl (cI, 3000, .inl fT)), (aA, .inl (cI, 16, .inl (fu TAv tv c)))] := xD
                    refine lv_aload_n xe xb d_TripleLinesModel_readTag_165 rfl (lv_at xl 1 rfl) ?_
                    refine lv_dup xe xb d_TripleLinesModel_readTag_166 rfl ?_
                    refine va_get (D := D) (ci := 6) (v := .int (iI tv)) (C := R_TripleLinesModel) (T := F_TripleLinesModel) (N := 29) xe xb xt i_TripleLinesModel xo xK xP 0 rfl rfl 22 (by decide) (xt _ mw_TripleLinesModel_135) (fun _ h9 => h9) rfl d_TripleLinesModel_readTag_167 ?_
                    refine lv_iconst (v := iI (1)) xe xb d_TripleLinesModel_readTag_170 rfl ?_
                    refine tk_iadd xe xb d_TripleLinesModel_readTag_171 ?_
                    refine va_put (D := D) (ci := 6) (v := .int (iI (tv + 1))) (ty := .int) (C := R_TripleLinesModel) (T := F_TripleLinesModel) (N := 29) xe xb xt i_TripleLinesModel t_TripleLinesModel t_TripleLinesModel_ok n_TripleLinesModel xo xK xP xD xS 0 rfl rfl 22 (by decide) (xt _ mw_TripleLinesModel_135) (fun _ h9 => h9) rfl (by decide +kernel) rfl rfl (Nat.le_of_ble_eq_true rfl) d_TripleLinesModel_readTag_172 ?_
                    clear xP xD xS
                    intro H locs xP xD xS
                    replace xP : va_P D classes [(mM, .inr (6, [.int (iI tm), .ref aT, .int (iI om), .ref aO, .int (iI tn), .ref aK, .ref aS, .ref aC, .ref aU, .ref aG, .ref aY, .ref aX, .int (iI qn), .ref aP, .int (iI tr), .int (iI rg), .int (iI ll), .int (iI pv), .int (iI fv), .int (iI ov), .int (iI sz), .ref aM, .int (iI (tv + 1)), .ref aA, .int (iI dm), .ref aD, .ref aB, .ref aV, .ref aE])), (aT, .inl (cI, 3000, .inl fT)), (aA, .inl (cI, 16, .inl (fu TAv tv c)))] H := xP
                    replace xD : va_D xA0 [(mM, .inr (6, [.int (iI tm), .ref aT, .int (iI om), .ref aO, .int (iI tn), .ref aK, .ref aS, .ref aC, .ref aU, .ref aG, .ref aY, .ref aX, .int (iI qn), .ref aP, .int (iI tr), .int (iI rg), .int (iI ll), .int (iI pv), .int (iI fv), .int (iI ov), .int (iI sz), .ref aM, .int (iI (tv + 1)), .ref aA, .int (iI dm), .ref aD, .ref aB, .ref aV, .ref aE])), (aT, .inl (cI, 3000, .inl fT)), (aA, .inl (cI, 16, .inl (fu TAv tv c)))] := xD
                    refine lv_aload_n xe xb d_TripleLinesModel_readTag_175 rfl (lv_at xl 1 rfl) ?_
                    refine lv_dup xe xb d_TripleLinesModel_readTag_176 rfl ?_
                    refine va_get (D := D) (ci := 6) (v := .int (iI pv)) (C := R_TripleLinesModel) (T := F_TripleLinesModel) (N := 29) xe xb xt i_TripleLinesModel xo xK xP 0 rfl rfl 17 (by decide) (xt _ mw_TripleLinesModel_79) (fun _ h9 => h9) rfl d_TripleLinesModel_readTag_177 ?_
                    refine lv_iconst (v := iI (1)) xe xb d_TripleLinesModel_readTag_180 rfl ?_
                    refine tk_iadd xe xb d_TripleLinesModel_readTag_181 ?_
                    refine va_put (D := D) (ci := 6) (v := .int (iI (pv + 1))) (ty := .int) (C := R_TripleLinesModel) (T := F_TripleLinesModel) (N := 29) xe xb xt i_TripleLinesModel t_TripleLinesModel t_TripleLinesModel_ok n_TripleLinesModel xo xK xP xD xS 0 rfl rfl 17 (by decide) (xt _ mw_TripleLinesModel_79) (fun _ h9 => h9) rfl (by decide +kernel) rfl rfl (Nat.le_of_ble_eq_true rfl) d_TripleLinesModel_readTag_182 ?_
                    clear xP xD xS
                    intro H locs xP xD xS
                    replace xP : va_P D classes [(mM, .inr (6, [.int (iI tm), .ref aT, .int (iI om), .ref aO, .int (iI tn), .ref aK, .ref aS, .ref aC, .ref aU, .ref aG, .ref aY, .ref aX, .int (iI qn), .ref aP, .int (iI tr), .int (iI rg), .int (iI ll), .int (iI (pv + 1)), .int (iI fv), .int (iI ov), .int (iI sz), .ref aM, .int (iI (tv + 1)), .ref aA, .int (iI dm), .ref aD, .ref aB, .ref aV, .ref aE])), (aT, .inl (cI, 3000, .inl fT)), (aA, .inl (cI, 16, .inl (fu TAv tv c)))] H := xP
                    replace xD : va_D xA0 [(mM, .inr (6, [.int (iI tm), .ref aT, .int (iI om), .ref aO, .int (iI tn), .ref aK, .ref aS, .ref aC, .ref aU, .ref aG, .ref aY, .ref aX, .int (iI qn), .ref aP, .int (iI tr), .int (iI rg), .int (iI ll), .int (iI (pv + 1)), .int (iI fv), .int (iI ov), .int (iI sz), .ref aM, .int (iI (tv + 1)), .ref aA, .int (iI dm), .ref aD, .ref aB, .ref aV, .ref aE])), (aT, .inl (cI, 3000, .inl fT)), (aA, .inl (cI, 16, .inl (fu TAv tv c)))] := xD
                    have hS9 := TgI_sign hL hS Hg C14 hc hg (by omega) (by omega) (show _ = lowL c from (if_neg Hu).symm) (by omega)
                    have hd9 : 0 ≤ fv ∨ mo = 0 ∨ (pv < pv + 1 ∧ pv + 1 ≤ tm) := (Or.inr (Or.inr ⟨by omega, hS9.1.2⟩))
                    refine lv_goto (tgt := 12) xe xb d_TripleLinesModel_readTag_185 (by decide) ?_
                    exact ih_12 (pv + 1) fv pt (n + 1) mo (tv + 1) (fu TAv tv c) (ms2_dec Hg C14 hm_12 hd9) hS9 _ _ xP xD xS ls (lv_sub xl [1, 2, 3, 0, 4] rfl)
                · exfalso; omega
              · refine lv_aload_n xe xb d_TripleLinesModel_readTag_70 rfl (lv_at xl 1 rfl) ?_
                refine lv_aload_n xe xb d_TripleLinesModel_readTag_71 rfl (lv_at xl 1 rfl) ?_
                refine va_get (D := D) (ci := 6) (v := .int (iI pv)) (C := R_TripleLinesModel) (T := F_TripleLinesModel) (N := 29) xe xb xt i_TripleLinesModel xo xK xP 0 rfl rfl 17 (by decide) (xt _ mw_TripleLinesModel_79) (fun _ h9 => h9) rfl d_TripleLinesModel_readTag_72 ?_
                refine tk_callVv (As := [.int (iI pv)]) (rest := []) (wr := [(aT, .inl (cI, 3000, .inl fT)), (aA, .inl (cI, 16, .inl TAv))]) (wn := fun u => [(mM, .inr (6, [.int (iI tm), .ref aT, .int (iI om), .ref aO, .int (iI tn), .ref aK, .ref aS, .ref aC, .ref aU, .ref aG, .ref aY, .ref aX, .int (iI qn), .ref aP, .int (iI tr), .int (iI rg), .int (iI ll), .int (iI pv), .int (iI u), .int (iI ov), .int (iI sz), .ref aM, .int (iI tv), .ref aA, .int (iI dm), .ref aD, .ref aB, .ref aV, .ref aE])), (aT, .inl (cI, 3000, .inl fT)), (aA, .inl (cI, 16, .inl TAv))]) ⟨xe, xb, xml, xo, xt⟩ (c_TripleLinesModel_fail l D cI mM tm aT om aO tn aK aS aC aU aG aY aX qn aP tr rg ll pv fv ov sz aM tv aA dm aD aB aV aE pv (by first | assumption | omega)) k_TripleLinesModel_fail mw_TripleLinesModel_94 ⟨Nat.le_of_ble_eq_true rfl, Nat.le_of_ble_eq_true rfl⟩ xK xP xD xS xA rfl xl.1 rfl (Nat.le_of_ble_eq_true rfl) d_TripleLinesModel_readTag_75 ⟨Nat.zero_le _, Nat.zero_le _⟩ [0] [1, 2] [2, 0, 1] rfl rfl (by decide) (by decide) (by decide) (by decide) (fun _ => rfl) rfl rfl rfl ?_
                clear xP xD xS
                intro u H locs hw_32 xP xD xS
                obtain ⟨f2_31, rfl⟩ : ∃ v, v = u := ⟨_, rfl⟩
                try dsimp only at hw_32
                replace xP : va_P D classes [(mM, .inr (6, [.int (iI tm), .ref aT, .int (iI om), .ref aO, .int (iI tn), .ref aK, .ref aS, .ref aC, .ref aU, .ref aG, .ref aY, .ref aX, .int (iI qn), .ref aP, .int (iI tr), .int (iI rg), .int (iI ll), .int (iI pv), .int (iI f2_31), .int (iI ov), .int (iI sz), .ref aM, .int (iI tv), .ref aA, .int (iI dm), .ref aD, .ref aB, .ref aV, .ref aE])), (aT, .inl (cI, 3000, .inl fT)), (aA, .inl (cI, 16, .inl TAv))] H := xP
                replace xD : va_D xA0 [(mM, .inr (6, [.int (iI tm), .ref aT, .int (iI om), .ref aO, .int (iI tn), .ref aK, .ref aS, .ref aC, .ref aU, .ref aG, .ref aY, .ref aX, .int (iI qn), .ref aP, .int (iI tr), .int (iI rg), .int (iI ll), .int (iI pv), .int (iI f2_31), .int (iI ov), .int (iI sz), .ref aM, .int (iI tv), .ref aA, .int (iI dm), .ref aD, .ref aB, .ref aV, .ref aE])), (aT, .inl (cI, 3000, .inl fT)), (aA, .inl (cI, 16, .inl TAv))] := xD
                have HF := hw_32
                refine lv_goto (tgt := 122) xe xb d_TripleLinesModel_readTag_78 (by decide) ?_
                refine lv_iload xe xb d_TripleLinesModel_readTag_122 (lv_at xl 4 rfl) ?_
                refine tk_if_eq (tgt := 185) xe xb d_TripleLinesModel_readTag_124 (by decide) (by omega) (fun c_34 => absurd c_34 (by omega)) (fun c_34 => ?_)
                refine lv_aload_n xe xb d_TripleLinesModel_readTag_127 rfl (lv_at xl 1 rfl) ?_
                refine tk_callVi (As := []) (rest := []) (wr := [(aT, .inl (cI, 3000, .inl fT)), (aA, .inl (cI, 16, .inl TAv))]) (wn := fun u => [(mM, .inr (6, [.int (iI tm), .ref aT, .int (iI om), .ref aO, .int (iI tn), .ref aK, .ref aS, .ref aC, .ref aU, .ref aG, .ref aY, .ref aX, .int (iI qn), .ref aP, .int (iI tr), .int (iI rg), .int (iI ll), .int (iI pv), .int (iI f2_31), .int (iI ov), .int (iI sz), .ref aM, .int (iI tv), .ref aA, .int (iI dm), .ref aD, .ref aB, .ref aV, .ref aE])), (aT, .inl (cI, 3000, .inl fT)), (aA, .inl (cI, 16, .inl TAv))]) ⟨xe, xb, xml, xo, xt⟩ (c_TripleLinesModel_goes l D cI mM tm aT om aO tn aK aS aC aU aG aY aX qn aP tr rg ll pv f2_31 ov sz aM tv aA dm aD aB aV aE (by first | assumption | omega)) k_TripleLinesModel_goes mw_TripleLinesModel_86 ⟨Nat.le_of_ble_eq_true rfl, Nat.le_of_ble_eq_true rfl⟩ xK xP xD xS xA rfl xl.1 rfl (Nat.le_of_ble_eq_true rfl) d_TripleLinesModel_readTag_128 ⟨Nat.zero_le _, Nat.zero_le _⟩ [0] [1, 2] [2, 0, 1] rfl rfl (by decide) (by decide) (by decide) (by decide) (fun _ => rfl) rfl rfl rfl ?_
                clear xP xD xS
                intro z_36 u H locs hr_37 hw_35 xP xD xS
                try dsimp only at hw_35
                replace xP : va_P D classes [(mM, .inr (6, [.int (iI tm), .ref aT, .int (iI om), .ref aO, .int (iI tn), .ref aK, .ref aS, .ref aC, .ref aU, .ref aG, .ref aY, .ref aX, .int (iI qn), .ref aP, .int (iI tr), .int (iI rg), .int (iI ll), .int (iI pv), .int (iI f2_31), .int (iI ov), .int (iI sz), .ref aM, .int (iI tv), .ref aA, .int (iI dm), .ref aD, .ref aB, .ref aV, .ref aE])), (aT, .inl (cI, 3000, .inl fT)), (aA, .inl (cI, 16, .inl TAv))] H := xP
                replace xD : va_D xA0 [(mM, .inr (6, [.int (iI tm), .ref aT, .int (iI om), .ref aO, .int (iI tn), .ref aK, .ref aS, .ref aC, .ref aU, .ref aG, .ref aY, .ref aX, .int (iI qn), .ref aP, .int (iI tr), .int (iI rg), .int (iI ll), .int (iI pv), .int (iI f2_31), .int (iI ov), .int (iI sz), .ref aM, .int (iI tv), .ref aA, .int (iI dm), .ref aD, .ref aB, .ref aV, .ref aE])), (aT, .inl (cI, 3000, .inl fT)), (aA, .inl (cI, 16, .inl TAv))] := xD
                rcases hw_35 with ⟨rfl, Hg3⟩ | ⟨rfl, Hg3⟩
                · exfalso; (rw [if_pos Hg] at HF; omega)
                · refine tk_if_eq (tgt := 185) xe xb d_TripleLinesModel_readTag_131 (by decide) (by omega) (fun c_38 => ?_) (fun c_38 => absurd c_38 (by omega))
                  have hS9 := TgI_fail (pt2 := pt) (n2 := n + 1) hS Hg C14 hc (Or.inl ⟨hg, Or.inr (by omega)⟩) HF (by omega) (by omega)
                  have hd9 : _ ∨ mo = 0 ∨ (pv < pv ∧ pv ≤ tm) := Or.inl Hg3
                  refine lv_goto (tgt := 12) xe xb d_TripleLinesModel_readTag_185 (by decide) ?_
                  exact ih_12 pv f2_31 pt (n + 1) mo tv TAv (ms2_dec Hg C14 hm_12 hd9) hS9 _ _ xP xD xS ls (lv_sub xl [1, 2, 3, 0, 4] rfl)
          have loop_81 : ∀ (c : Int), (c = rd (lst (tI fT) tm) pv) → (-1 ≤ c ∧ c < 256) → (¬ (isL c ∨ (0 < pt ∧ isG c))) → ∀ (H : Heap) (locs : List Loc), va_P D classes [(mM, .inr (6, [.int (iI tm), .ref aT, .int (iI om), .ref aO, .int (iI tn), .ref aK, .ref aS, .ref aC, .ref aU, .ref aG, .ref aY, .ref aX, .int (iI qn), .ref aP, .int (iI tr), .int (iI rg), .int (iI ll), .int (iI pv), .int (iI fv), .int (iI ov), .int (iI sz), .ref aM, .int (iI tv), .ref aA, .int (iI dm), .ref aD, .ref aB, .ref aV, .ref aE])), (aT, .inl (cI, 3000, .inl fT)), (aA, .inl (cI, 16, .inl TAv))] H → va_D xA0 [(mM, .inr (6, [.int (iI tm), .ref aT, .int (iI om), .ref aO, .int (iI tn), .ref aK, .ref aS, .ref aC, .ref aU, .ref aG, .ref aY, .ref aX, .int (iI qn), .ref aP, .int (iI tr), .int (iI rg), .int (iI ll), .int (iI pv), .int (iI fv), .int (iI ov), .int (iI sz), .ref aM, .int (iI tv), .ref aA, .int (iI dm), .ref aD, .ref aB, .ref aV, .ref aE])), (aT, .inl (cI, 3000, .inl fT)), (aA, .inl (cI, 16, .inl TAv))] → va_S xA0 xs.heap H locs → ∀ ls : Array Slot, lv_has ls 6 [(0, .ref mM), (1, .int (iI p)), (2, .int (iI pt)), (3, .int (iI n)), (4, .int (iI mo)), (5, .int (iI c))] → W xp l xe0 (tk_rm 2) xs xm xar xbelow xmeth xc H locs 0 0 xQ (F0 xm 81 ls []) := by
            intro c hc hcr hg H locs xP xD xS ls xl
            refine lv_iload xe xb d_TripleLinesModel_readTag_81 (lv_at xl 5 rfl) ?_
            refine lv_bipush (v := iI (45)) xe xb d_TripleLinesModel_readTag_83 (by decide) ?_
            refine tk_icmp_ne (tgt := 119) xe xb d_TripleLinesModel_readTag_85 (by decide) (by omega) (fun C85 => ?_) (fun C85 => ?_)
            · refine lv_iconst (v := iI (0)) xe xb d_TripleLinesModel_readTag_119 rfl ?_
              refine lv_istore (lv' := [(4, .int (iI 0)), (0, .ref mM), (1, .int (iI p)), (2, .int (iI pt)), (3, .int (iI n)), (5, .int (iI c))]) xe xb d_TripleLinesModel_readTag_120 xl (by decide) rfl ?_
              clear xl
              intro ls xl
              refine lv_iload xe xb d_TripleLinesModel_readTag_122 (lv_at xl 0 rfl) ?_
              refine tk_if_eq (tgt := 185) xe xb d_TripleLinesModel_readTag_124 (by decide) (by omega) (fun c_39 => ?_) (fun c_39 => absurd c_39 (by omega))
              have hS9 := TgI_stop hS Hg C14 hc hg (by omega)
              have hd9 : 0 ≤ fv ∨ (0 : Int) = 0 ∨ (pv < pv ∧ pv ≤ tm) := Or.inr (Or.inl rfl)
              refine lv_goto (tgt := 12) xe xb d_TripleLinesModel_readTag_185 (by decide) ?_
              exact ih_12 pv fv pt n 0 tv TAv (ms2_dec Hg C14 hm_12 hd9) hS9 _ _ xP xD xS ls (lv_sub xl [1, 2, 3, 4, 0] rfl)
            · refine lv_iload_n xe xb d_TripleLinesModel_readTag_88 rfl (lv_at xl 3 rfl) ?_
              refine tk_if_le (tgt := 119) xe xb d_TripleLinesModel_readTag_89 (by decide) (by omega) (fun C89 => ?_) (fun C89 => ?_)
              · refine lv_iconst (v := iI (0)) xe xb d_TripleLinesModel_readTag_119 rfl ?_
                refine lv_istore (lv' := [(4, .int (iI 0)), (0, .ref mM), (1, .int (iI p)), (2, .int (iI pt)), (3, .int (iI n)), (5, .int (iI c))]) xe xb d_TripleLinesModel_readTag_120 xl (by decide) rfl ?_
                clear xl
                intro ls xl
                refine lv_iload xe xb d_TripleLinesModel_readTag_122 (lv_at xl 0 rfl) ?_
                refine tk_if_eq (tgt := 185) xe xb d_TripleLinesModel_readTag_124 (by decide) (by omega) (fun c_40 => ?_) (fun c_40 => absurd c_40 (by omega))
                have hS9 := TgI_stop hS Hg C14 hc hg (by omega)
                have hd9 : 0 ≤ fv ∨ (0 : Int) = 0 ∨ (pv < pv ∧ pv ≤ tm) := Or.inr (Or.inl rfl)
                refine lv_goto (tgt := 12) xe xb d_TripleLinesModel_readTag_185 (by decide) ?_
                exact ih_12 pv fv pt n 0 tv TAv (ms2_dec Hg C14 hm_12 hd9) hS9 _ _ xP xD xS ls (lv_sub xl [1, 2, 3, 4, 0] rfl)
              · refine tk_iinc (v := (pt + 1)) (lv' := [(2, .int (iI (pt + 1))), (0, .ref mM), (1, .int (iI p)), (3, .int (iI n)), (4, .int (iI mo)), (5, .int (iI c))]) xe xb d_TripleLinesModel_readTag_92 xl (k := 2) rfl rfl (by decide) rfl ?_
                clear xl
                intro ls xl
                refine lv_iconst (v := iI (0)) xe xb d_TripleLinesModel_readTag_95 rfl ?_
                refine lv_istore_n (lv' := [(3, .int (iI 0)), (2, .int (iI (pt + 1))), (0, .ref mM), (1, .int (iI p)), (4, .int (iI mo)), (5, .int (iI c))]) xe xb d_TripleLinesModel_readTag_96 rfl xl (by decide) rfl ?_
                clear xl
                intro ls xl
                refine lv_aload_n xe xb d_TripleLinesModel_readTag_97 rfl (lv_at xl 2 rfl) ?_
                refine va_get (D := D) (ci := 6) (v := .int (iI pv)) (C := R_TripleLinesModel) (T := F_TripleLinesModel) (N := 29) xe xb xt i_TripleLinesModel xo xK xP 0 rfl rfl 17 (by decide) (xt _ mw_TripleLinesModel_79) (fun _ h9 => h9) rfl d_TripleLinesModel_readTag_98 ?_
                refine lv_iload_n xe xb d_TripleLinesModel_readTag_101 rfl (lv_at xl 3 rfl) ?_
                refine tk_isub xe xb d_TripleLinesModel_readTag_102 ?_
                refine lv_bipush (v := iI (16)) xe xb d_TripleLinesModel_readTag_103 (by decide) ?_
                refine tk_icmp_ne (tgt := 122) xe xb d_TripleLinesModel_readTag_105 (by decide) (by omega) (fun C105 => ?_) (fun C105 => ?_)
                · refine lv_iload xe xb d_TripleLinesModel_readTag_122 (lv_at xl 4 rfl) ?_
                  refine tk_if_eq (tgt := 185) xe xb d_TripleLinesModel_readTag_124 (by decide) (by omega) (fun c_41 => absurd c_41 (by omega)) (fun c_41 => ?_)
                  refine lv_aload_n xe xb d_TripleLinesModel_readTag_127 rfl (lv_at xl 2 rfl) ?_
                  refine tk_callVi (As := []) (rest := []) (wr := [(aT, .inl (cI, 3000, .inl fT)), (aA, .inl (cI, 16, .inl TAv))]) (wn := fun u => [(mM, .inr (6, [.int (iI tm), .ref aT, .int (iI om), .ref aO, .int (iI tn), .ref aK, .ref aS, .ref aC, .ref aU, .ref aG, .ref aY, .ref aX, .int (iI qn), .ref aP, .int (iI tr), .int (iI rg), .int (iI ll), .int (iI pv), .int (iI fv), .int (iI ov), .int (iI sz), .ref aM, .int (iI tv), .ref aA, .int (iI dm), .ref aD, .ref aB, .ref aV, .ref aE])), (aT, .inl (cI, 3000, .inl fT)), (aA, .inl (cI, 16, .inl TAv))]) ⟨xe, xb, xml, xo, xt⟩ (c_TripleLinesModel_goes l D cI mM tm aT om aO tn aK aS aC aU aG aY aX qn aP tr rg ll pv fv ov sz aM tv aA dm aD aB aV aE (by first | assumption | omega)) k_TripleLinesModel_goes mw_TripleLinesModel_86 ⟨Nat.le_of_ble_eq_true rfl, Nat.le_of_ble_eq_true rfl⟩ xK xP xD xS xA rfl xl.1 rfl (Nat.le_of_ble_eq_true rfl) d_TripleLinesModel_readTag_128 ⟨Nat.zero_le _, Nat.zero_le _⟩ [0] [1, 2] [2, 0, 1] rfl rfl (by decide) (by decide) (by decide) (by decide) (fun _ => rfl) rfl rfl rfl ?_
                  clear xP xD xS
                  intro z_43 u H locs hr_44 hw_42 xP xD xS
                  try dsimp only at hw_42
                  replace xP : va_P D classes [(mM, .inr (6, [.int (iI tm), .ref aT, .int (iI om), .ref aO, .int (iI tn), .ref aK, .ref aS, .ref aC, .ref aU, .ref aG, .ref aY, .ref aX, .int (iI qn), .ref aP, .int (iI tr), .int (iI rg), .int (iI ll), .int (iI pv), .int (iI fv), .int (iI ov), .int (iI sz), .ref aM, .int (iI tv), .ref aA, .int (iI dm), .ref aD, .ref aB, .ref aV, .ref aE])), (aT, .inl (cI, 3000, .inl fT)), (aA, .inl (cI, 16, .inl TAv))] H := xP
                  replace xD : va_D xA0 [(mM, .inr (6, [.int (iI tm), .ref aT, .int (iI om), .ref aO, .int (iI tn), .ref aK, .ref aS, .ref aC, .ref aU, .ref aG, .ref aY, .ref aX, .int (iI qn), .ref aP, .int (iI tr), .int (iI rg), .int (iI ll), .int (iI pv), .int (iI fv), .int (iI ov), .int (iI sz), .ref aM, .int (iI tv), .ref aA, .int (iI dm), .ref aD, .ref aB, .ref aV, .ref aE])), (aT, .inl (cI, 3000, .inl fT)), (aA, .inl (cI, 16, .inl TAv))] := xD
                  rcases hw_42 with ⟨rfl, Hg3⟩ | ⟨rfl, Hg3⟩
                  · refine tk_if_eq (tgt := 185) xe xb d_TripleLinesModel_readTag_131 (by decide) (by omega) (fun c_45 => absurd c_45 (by omega)) (fun c_45 => ?_)
                    refine lv_aload_n xe xb d_TripleLinesModel_readTag_134 rfl (lv_at xl 2 rfl) ?_
                    refine va_get (D := D) (ci := 6) (v := .ref aA) (C := R_TripleLinesModel) (T := F_TripleLinesModel) (N := 29) xe xb xt i_TripleLinesModel xo xK xP 0 rfl rfl 23 (by decide) (xt _ mw_TripleLinesModel_43) (fun _ h9 => h9) rfl d_TripleLinesModel_readTag_135 ?_
                    refine lv_aload_n xe xb d_TripleLinesModel_readTag_138 rfl (lv_at xl 2 rfl) ?_
                    refine va_get (D := D) (ci := 6) (v := .int (iI tv)) (C := R_TripleLinesModel) (T := F_TripleLinesModel) (N := 29) xe xb xt i_TripleLinesModel xo xK xP 0 rfl rfl 22 (by decide) (xt _ mw_TripleLinesModel_135) (fun _ h9 => h9) rfl d_TripleLinesModel_readTag_139 ?_
                    refine lv_iload xe xb d_TripleLinesModel_readTag_142 (lv_at xl 5 rfl) ?_
                    refine lv_bipush (v := iI (65)) xe xb d_TripleLinesModel_readTag_144 (by decide) ?_
                    refine lv_bipush (v := iI (90)) xe xb d_TripleLinesModel_readTag_146 (by decide) ?_
                    refine tk_callSi (As := [.int (iI c), .int (iI 65), .int (iI 90)]) (rest := [.int (iI tv), .ref aA]) (wr := [(mM, .inr (6, [.int (iI tm), .ref aT, .int (iI om), .ref aO, .int (iI tn), .ref aK, .ref aS, .ref aC, .ref aU, .ref aG, .ref aY, .ref aX, .int (iI qn), .ref aP, .int (iI tr), .int (iI rg), .int (iI ll), .int (iI pv), .int (iI fv), .int (iI ov), .int (iI sz), .ref aM, .int (iI tv), .ref aA, .int (iI dm), .ref aD, .ref aB, .ref aV, .ref aE])), (aT, .inl (cI, 3000, .inl fT)), (aA, .inl (cI, 16, .inl TAv))]) (wn := fun u => [(mM, .inr (6, [.int (iI tm), .ref aT, .int (iI om), .ref aO, .int (iI tn), .ref aK, .ref aS, .ref aC, .ref aU, .ref aG, .ref aY, .ref aX, .int (iI qn), .ref aP, .int (iI tr), .int (iI rg), .int (iI ll), .int (iI pv), .int (iI fv), .int (iI ov), .int (iI sz), .ref aM, .int (iI tv), .ref aA, .int (iI dm), .ref aD, .ref aB, .ref aV, .ref aE])), (aT, .inl (cI, 3000, .inl fT)), (aA, .inl (cI, 16, .inl TAv))]) ⟨xe, xb, xml, xo, xt⟩ (c_TripleLinesModel_in l D cI c 65 90 (by first | assumption | omega) (by first | assumption | omega) (by first | assumption | omega)) k_TripleLinesModel_in mw_TripleLinesModel_63 ⟨Nat.le_of_ble_eq_true rfl, Nat.le_of_ble_eq_true rfl⟩ xK xP xD xS xA rfl xl.1 rfl (Nat.le_of_ble_eq_true rfl) d_TripleLinesModel_readTag_148 ⟨Nat.zero_le _, Nat.zero_le _⟩ [] [0, 1, 2] [0, 1, 2] rfl rfl (by decide) (by decide) (by decide) (by decide) (fun _ => rfl) ?_
                    clear xP xD xS
                    intro z_47 u H locs hr_48 hw_46 xP xD xS
                    try dsimp only at hw_46
                    replace xP : va_P D classes [(mM, .inr (6, [.int (iI tm), .ref aT, .int (iI om), .ref aO, .int (iI tn), .ref aK, .ref aS, .ref aC, .ref aU, .ref aG, .ref aY, .ref aX, .int (iI qn), .ref aP, .int (iI tr), .int (iI rg), .int (iI ll), .int (iI pv), .int (iI fv), .int (iI ov), .int (iI sz), .ref aM, .int (iI tv), .ref aA, .int (iI dm), .ref aD, .ref aB, .ref aV, .ref aE])), (aT, .inl (cI, 3000, .inl fT)), (aA, .inl (cI, 16, .inl TAv))] H := xP
                    replace xD : va_D xA0 [(mM, .inr (6, [.int (iI tm), .ref aT, .int (iI om), .ref aO, .int (iI tn), .ref aK, .ref aS, .ref aC, .ref aU, .ref aG, .ref aY, .ref aX, .int (iI qn), .ref aP, .int (iI tr), .int (iI rg), .int (iI ll), .int (iI pv), .int (iI fv), .int (iI ov), .int (iI sz), .ref aM, .int (iI tv), .ref aA, .int (iI dm), .ref aD, .ref aB, .ref aV, .ref aE])), (aT, .inl (cI, 3000, .inl fT)), (aA, .inl (cI, 16, .inl TAv))] := xD
                    rcases hw_46 with ⟨rfl, Hu⟩ | ⟨rfl, Hu⟩
                    · refine tk_if_eq (tgt := 162) xe xb d_TripleLinesModel_readTag_151 (by decide) (by omega) (fun c_49 => absurd c_49 (by omega)) (fun c_49 => ?_)
                      refine lv_iload xe xb d_TripleLinesModel_readTag_154 (lv_at xl 5 rfl) ?_
                      refine lv_bipush (v := iI (32)) xe xb d_TripleLinesModel_readTag_156 (by decide) ?_
                      refine tk_iadd xe xb d_TripleLinesModel_readTag_158 ?_
                      refine lv_goto (tgt := 164) xe xb d_TripleLinesModel_readTag_159 (by decide) ?_
                      refine tk_iast xe xb xK xP xD xS 2 0 rfl rfl (by omega) d_TripleLinesModel_readTag_164 ?_
                      clear xP xD xS
                      intro H locs xP xD xS
                      replace xP : va_P D classes [(mM, .inr (6, [.int (iI tm), .ref aT, .int (iI om), .ref aO, .int (iI tn), .ref aK, .ref aS, .ref aC, .ref aU, .ref aG, .ref aY, .ref aX, .int (iI qn), .ref aP, .int (iI tr), .int (iI rg), .int (iI ll), .int (iI pv), .int (iI fv), .int (iI ov), .int (iI sz), .ref aM, .int (iI tv), .ref aA, .int (iI dm), .ref aD, .ref aB, .ref aV, .ref aE])), (aT, .inl (cI, 3000, .inl fT)), (aA, .inl (cI, 16, .inl (fu TAv tv (c + 32))))] H := xP
                      replace xD : va_D xA0 [(mM, .inr (6, [.int (iI tm), .ref aT, .int (iI om), .ref aO, .int (iI tn), .ref aK, .ref aS, .ref aC, .ref aU, .ref aG, .ref aY, .ref aX, .int (iI qn), .ref aP, .int (iI tr), .int (iI rg), .int (iI ll), .int (iI pv), .int (iI fv), .int (iI ov), .int (iI sz), .ref aM, .int (iI tv), .ref aA, .int (iI dm), .ref aD, .ref aB, .ref aV, .ref aE])), (aT, .inl (cI, 3000, .inl fT)), (aA, .inl (cI, 16, .inl (fu TAv tv (c + 32))))] := xD
                      refine lv_aload_n xe xb d_TripleLinesModel_readTag_165 rfl (lv_at xl 2 rfl) ?_
                      refine lv_dup xe xb d_TripleLinesModel_readTag_166 rfl ?_
                      refine va_get (D := D) (ci := 6) (v := .int (iI tv)) (C := R_TripleLinesModel) (T := F_TripleLinesModel) (N := 29) xe xb xt i_TripleLinesModel xo xK xP 0 rfl rfl 22 (by decide) (xt _ mw_TripleLinesModel_135) (fun _ h9 => h9) rfl d_TripleLinesModel_readTag_167 ?_
                      refine lv_iconst (v := iI (1)) xe xb d_TripleLinesModel_readTag_170 rfl ?_
                      refine tk_iadd xe xb d_TripleLinesModel_readTag_171 ?_
                      refine va_put (D := D) (ci := 6) (v := .int (iI (tv + 1))) (ty := .int) (C := R_TripleLinesModel) (T := F_TripleLinesModel) (N := 29) xe xb xt i_TripleLinesModel t_TripleLinesModel t_TripleLinesModel_ok n_TripleLinesModel xo xK xP xD xS 0 rfl rfl 22 (by decide) (xt _ mw_TripleLinesModel_135) (fun _ h9 => h9) rfl (by decide +kernel) rfl rfl (Nat.le_of_ble_eq_true rfl) d_TripleLinesModel_readTag_172 ?_
                      clear xP xD xS
                      intro H locs xP xD xS
                      replace xP : va_P D classes [(mM, .inr (6, [.int (iI tm), .ref aT, .int (iI om), .ref aO, .int (iI tn), .ref aK, .ref aS, .ref aC, .ref aU, .ref aG, .ref aY, .ref aX, .int (iI qn), .ref aP, .int (iI tr), .int (iI rg), .int (iI ll), .int (iI pv), .int (iI fv), .int (iI ov), .int (iI sz), .ref aM, .int (iI (tv + 1)), .ref aA, .int (iI dm), .ref aD, .ref aB, .ref aV, .ref aE])), (aT, .inl (cI, 3000, .inl fT)), (aA, .inl (cI, 16, .inl (fu TAv tv (c + 32))))] H := xP
                      replace xD : va_D xA0 [(mM, .inr (6, [.int (iI tm), .ref aT, .int (iI om), .ref aO, .int (iI tn), .ref aK, .ref aS, .ref aC, .ref aU, .ref aG, .ref aY, .ref aX, .int (iI qn), .ref aP, .int (iI tr), .int (iI rg), .int (iI ll), .int (iI pv), .int (iI fv), .int (iI ov), .int (iI sz), .ref aM, .int (iI (tv + 1)), .ref aA, .int (iI dm), .ref aD, .ref aB, .ref aV, .ref aE])), (aT, .inl (cI, 3000, .inl fT)), (aA, .inl (cI, 16, .inl (fu TAv tv (c + 32))))] := xD
                      refine lv_aload_n xe xb d_TripleLinesModel_readTag_175 rfl (lv_at xl 2 rfl) ?_
                      refine lv_dup xe xb d_TripleLinesModel_readTag_176 rfl ?_
                      refine va_get (D := D) (ci := 6) (v := .int (iI pv)) (C := R_TripleLinesModel) (T := F_TripleLinesModel) (N := 29) xe xb xt i_TripleLinesModel xo xK xP 0 rfl rfl 17 (by decide) (xt _ mw_TripleLinesModel_79) (fun _ h9 => h9) rfl d_TripleLinesModel_readTag_177 ?_
                      refine lv_iconst (v := iI (1)) xe xb d_TripleLinesModel_readTag_180 rfl ?_
                      refine tk_iadd xe xb d_TripleLinesModel_readTag_181 ?_
                      refine va_put (D := D) (ci := 6) (v := .int (iI (pv + 1))) (ty := .int) (C := R_TripleLinesModel) (T := F_TripleLinesModel) (N := 29) xe xb xt i_TripleLinesModel t_TripleLinesModel t_TripleLinesModel_ok n_TripleLinesModel xo xK xP xD xS 0 rfl rfl 17 (by decide) (xt _ mw_TripleLinesModel_79) (fun _ h9 => h9) rfl (by decide +kernel) rfl rfl (Nat.le_of_ble_eq_true rfl) d_TripleLinesModel_readTag_182 ?_
                      clear xP xD xS
                      intro H locs xP xD xS
                      replace xP : va_P D classes [(mM, .inr (6, [.int (iI tm), .ref aT, .int (iI om), .ref aO, .int (iI tn), .ref aK, .ref aS, .ref aC, .ref aU, .ref aG, .ref aY, .ref aX, .int (iI qn), .ref aP, .int (iI tr), .int (iI rg), .int (iI ll), .int (iI (pv + 1)), .int (iI fv), .int (iI ov), .int (iI sz), .ref aM, .int (iI (tv + 1)), .ref aA, .int (iI dm), .ref aD, .ref aB, .ref aV, .ref aE])), (aT, .inl (cI, 3000, .inl fT)), (aA, .inl (cI, 16, .inl (fu TAv tv (c + 32))))] H := xP
                      replace xD : va_D xA0 [(mM, .inr (6, [.int (iI tm), .ref aT, .int (iI om), .ref aO, .int (iI tn), .ref aK, .ref aS, .ref aC, .ref aU, .ref aG, .ref aY, .ref aX, .int (iI qn), .ref aP, .int (iI tr), .int (iI rg), .int (iI ll), .int (iI (pv + 1)), .int (iI fv), .int (iI ov), .int (iI sz), .ref aM, .int (iI (tv + 1)), .ref aA, .int (iI dm), .ref aD, .ref aB, .ref aV, .ref aE])), (aT, .inl (cI, 3000, .inl fT)), (aA, .inl (cI, 16, .inl (fu TAv tv (c + 32))))] := xD
                      have hS9 := TgI_dash hL hS Hg C14 hc C85 C89 (by omega) (show _ = lowL c from (if_pos Hu).symm) (by omega)
                      have hd9 : 0 ≤ fv ∨ mo = 0 ∨ (pv < pv + 1 ∧ pv + 1 ≤ tm) := (Or.inr (Or.inr ⟨by omega, hS9.1.2⟩))
                      refine lv_goto (tgt := 12) xe xb d_TripleLinesModel_readTag_185 (by decide) ?_
                      exact ih_12 (pv + 1) fv (pt + 1) 0 mo (tv + 1) (fu TAv tv (c + 32)) (ms2_dec Hg C14 hm_12 hd9) hS9 _ _ xP xD xS ls (lv_sub xl [2, 3, 1, 0, 4] rfl)
                    · refine tk_if_eq (tgt := 162) xe xb d_TripleLinesModel_readTag_151 (by decide) (by omega) (fun c_50 => ?_) (fun c_50 => absurd c_50 (by omega))
                      refine lv_iload xe xb d_TripleLinesModel_readTag_162 (lv_at xl 5 rfl) ?_
                      refine tk_iast xe xb xK xP xD xS 2 0 rfl rfl (by omega) d_TripleLinesModel_readTag_164 ?_
                      clear xP xD xS
                      intro H locs xP xD xS
                      replace xP : va_P D classes [(mM, .inr (6, [.int (iI tm), .ref aT, .int (iI om), .ref aO, .int (iI tn), .ref aK, .ref aS, .ref aC, .ref aU, .ref aG, .ref aY, .ref aX, .int (iI qn), .ref aP, .int (iI tr), .int (iI rg), .int (iI ll), .int (iI pv), .int (iI fv), .int (iI ov), .int (iI sz), .ref aM, .int (iI tv), .ref aA, .int (iI dm), .ref aD, .ref aB, .ref aV, .ref aE])), (aT, .inl (cI, 3000, .inl fT)), (aA, .inl (cI, 16, .inl (fu TAv tv c)))] H := xP
                      replace xD : va_D xA0 [(mM, .inr (6, [.int (iI tm), .ref aT, .int (iI om), .ref aO, .int (iI tn), .ref aK, .ref aS, .ref aC, .ref aU, .ref aG, .ref aY, .ref aX, .int (iI qn), .ref aP, .int (iI tr), .int (iI rg), .int (iI ll), .int (iI pv), .int (iI fv), .int (iI ov), .int (iI sz), .ref aM, .int (iI tv), .ref aA, .int (iI dm), .ref aD, .ref aB, .ref aV, .ref aE])), (aT, .inl (cI, 3000, .inl fT)), (aA, .inl (cI, 16, .inl (fu TAv tv c)))] := xD
                      refine lv_aload_n xe xb d_TripleLinesModel_readTag_165 rfl (lv_at xl 2 rfl) ?_
                      refine lv_dup xe xb d_TripleLinesModel_readTag_166 rfl ?_
                      refine va_get (D := D) (ci := 6) (v := .int (iI tv)) (C := R_TripleLinesModel) (T := F_TripleLinesModel) (N := 29) xe xb xt i_TripleLinesModel xo xK xP 0 rfl rfl 22 (by decide) (xt _ mw_TripleLinesModel_135) (fun _ h9 => h9) rfl d_TripleLinesModel_readTag_167 ?_
                      refine lv_iconst (v := iI (1)) xe xb d_TripleLinesModel_readTag_170 rfl ?_
                      refine tk_iadd xe xb d_TripleLinesModel_readTag_171 ?_
                      refine va_put (D := D) (ci := 6) (v := .int (iI (tv + 1))) (ty := .int) (C := R_TripleLinesModel) (T := F_TripleLinesModel) (N := 29) xe xb xt i_TripleLinesModel t_TripleLinesModel t_TripleLinesModel_ok n_TripleLinesModel xo xK xP xD xS 0 rfl rfl 22 (by decide) (xt _ mw_TripleLinesModel_135) (fun _ h9 => h9) rfl (by decide +kernel) rfl rfl (Nat.le_of_ble_eq_true rfl) d_TripleLinesModel_readTag_172 ?_
                      clear xP xD xS
                      intro H locs xP xD xS
                      replace xP : va_P D classes [(mM, .inr (6, [.int (iI tm), .ref aT, .int (iI om), .ref aO, .int (iI tn), .ref aK, .ref aS, .ref aC, .ref aU, .ref aG, .ref aY, .ref aX, .int (iI qn), .ref aP, .int (iI tr), .int (iI rg), .int (iI ll), .int (iI pv), .int (iI fv), .int (iI ov), .int (iI sz), .ref aM, .int (iI (tv + 1)), .ref aA, .int (iI dm), .ref aD, .ref aB, .ref aV, .ref aE])), (aT, .inl (cI, 3000, .inl fT)), (aA, .inl (cI, 16, .inl (fu TAv tv c)))] H := xP
                      replace xD : va_D xA0 [(mM, .inr (6, [.int (iI tm), .ref aT, .int (iI om), .ref aO, .int (iI tn), .ref aK, .ref aS, .ref aC, .ref aU, .ref aG, .ref aY, .ref aX, .int (iI qn), .ref aP, .int (iI tr), .int (iI rg), .int (iI ll), .int (iI pv), .int (iI fv), .int (iI ov), .int (iI sz), .ref aM, .int (iI (tv + 1)), .ref aA, .int (iI dm), .ref aD, .ref aB, .ref aV, .ref aE])), (aT, .inl (cI, 3000, .inl fT)), (aA, .inl (cI, 16, .inl (fu TAv tv c)))] := xD
                      refine lv_aload_n xe xb d_TripleLinesModel_readTag_175 rfl (lv_at xl 2 rfl) ?_
                      refine lv_dup xe xb d_TripleLinesModel_readTag_176 rfl ?_
                      refine va_get (D := D) (ci := 6) (v := .int (iI pv)) (C := R_TripleLinesModel) (T := F_TripleLinesModel) (N := 29) xe xb xt i_TripleLinesModel xo xK xP 0 rfl rfl 17 (by decide) (xt _ mw_TripleLinesModel_79) (fun _ h9 => h9) rfl d_TripleLinesModel_readTag_177 ?_
                      refine lv_iconst (v := iI (1)) xe xb d_TripleLinesModel_readTag_180 rfl ?_
                      refine tk_iadd xe xb d_TripleLinesModel_readTag_181 ?_
                      refine va_put (D := D) (ci := 6) (v := .int (iI (pv + 1))) (ty := .int) (C := R_TripleLinesModel) (T := F_TripleLinesModel) (N := 29) xe xb xt i_TripleLinesModel t_TripleLinesModel t_TripleLinesModel_ok n_TripleLinesModel xo xK xP xD xS 0 rfl rfl 17 (by decide) (xt _ mw_TripleLinesModel_79) (fun _ h9 => h9) rfl (by decide +kernel) rfl rfl (Nat.le_of_ble_eq_true rfl) d_TripleLinesModel_readTag_182 ?_
                      clear xP xD xS
                      intro H locs xP xD xS
                      replace xP : va_P D classes [(mM, .inr (6, [.int (iI tm), .ref aT, .int (iI om), .ref aO, .int (iI tn), .ref aK, .ref aS, .ref aC, .ref aU, .ref aG, .ref aY, .ref aX, .int (iI qn), .ref aP, .int (iI tr), .int (iI rg), .int (iI ll), .int (iI (pv + 1)), .int (iI fv), .int (iI ov), .int (iI sz), .ref aM, .int (iI (tv + 1)), .ref aA, .int (iI dm), .ref aD, .ref aB, .ref aV, .ref aE])), (aT, .inl (cI, 3000, .inl fT)), (aA, .inl (cI, 16, .inl (fu TAv tv c)))] H := xP
                      replace xD : va_D xA0 [(mM, .inr (6, [.int (iI tm), .ref aT, .int (iI om), .ref aO, .int (iI tn), .ref aK, .ref aS, .ref aC, .ref aU, .ref aG, .ref aY, .ref aX, .int (iI qn), .ref aP, .int (iI tr), .int (iI rg), .int (iI ll), .int (iI (pv + 1)), .int (iI fv), .int (iI ov), .int (iI sz), .ref aM, .int (iI (tv + 1)), .ref aA, .int (iI dm), .ref aD, .ref aB, .ref aV, .ref aE])), (aT, .inl (cI, 3000, .inl fT)), (aA, .inl (cI, 16, .inl (fu TAv tv c)))] := xD
                      have hS9 := TgI_dash hL hS Hg C14 hc C85 C89 (by omega) (show _ = lowL c from (if_neg Hu).symm) (by omega)
                      have hd9 : 0 ≤ fv ∨ mo = 0 ∨ (pv < pv + 1 ∧ pv + 1 ≤ tm) := (Or.inr (Or.inr ⟨by omega, hS9.1.2⟩))
                      refine lv_goto (tgt := 12) xe xb d_TripleLinesModel_readTag_185 (by decide) ?_
                      exact ih_12 (pv + 1) fv (pt + 1) 0 mo (tv + 1) (fu TAv tv c) (ms2_dec Hg C14 hm_12 hd9) hS9 _ _ xP xD xS ls (lv_sub xl [2, 3, 1, 0, 4] rfl)
                  · exfalso; omega
                · refine lv_aload_n xe xb d_TripleLinesModel_readTag_108 rfl (lv_at xl 2 rfl) ?_
                  refine lv_aload_n xe xb d_TripleLinesModel_readTag_109 rfl (lv_at xl 2 rfl) ?_
                  refine va_get (D := D) (ci := 6) (v := .int (iI pv)) (C := R_TripleLinesModel) (T := F_TripleLinesModel) (N := 29) xe xb xt i_TripleLinesModel xo xK xP 0 rfl rfl 17 (by decide) (xt _ mw_TripleLinesModel_79) (fun _ h9 => h9) rfl d_TripleLinesModel_readTag_110 ?_
                  refine tk_callVv (As := [.int (iI pv)]) (rest := []) (wr := [(aT, .inl (cI, 3000, .inl fT)), (aA, .inl (cI, 16, .inl TAv))]) (wn := fun u => [(mM, .inr (6, [.int (iI tm), .ref aT, .int (iI om), .ref aO, .int (iI tn), .ref aK, .ref aS, .ref aC, .ref aU, .ref aG, .ref aY, .ref aX, .int (iI qn), .ref aP, .int (iI tr), .int (iI rg), .int (iI ll), .int (iI pv), .int (iI u), .int (iI ov), .int (iI sz), .ref aM, .int (iI tv), .ref aA, .int (iI dm), .ref aD, .ref aB, .ref aV, .ref aE])), (aT, .inl (cI, 3000, .inl fT)), (aA, .inl (cI, 16, .inl TAv))]) ⟨xe, xb, xml, xo, xt⟩ (c_TripleLinesModel_fail l D cI mM tm aT om aO tn aK aS aC aU aG aY aX qn aP tr rg ll pv fv ov sz aM tv aA dm aD aB aV aE pv (by first | assumption | omega)) k_TripleLinesModel_fail mw_TripleLinesModel_94 ⟨Nat.le_of_ble_eq_true rfl, Nat.le_of_ble_eq_true rfl⟩ xK xP xD xS xA rfl xl.1 rfl (Nat.le_of_ble_eq_true rfl) d_TripleLinesModel_readTag_113 ⟨Nat.zero_le _, Nat.zero_le _⟩ [0] [1, 2] [2, 0, 1] rfl rfl (by decide) (by decide) (by decide) (by decide) (fun _ => rfl) rfl rfl rfl ?_
                  clear xP xD xS
                  intro u H locs hw_52 xP xD xS
                  obtain ⟨f2_51, rfl⟩ : ∃ v, v = u := ⟨_, rfl⟩
                  try dsimp only at hw_52
                  replace xP : va_P D classes [(mM, .inr (6, [.int (iI tm), .ref aT, .int (iI om), .ref aO, .int (iI tn), .ref aK, .ref aS, .ref aC, .ref aU, .ref aG, .ref aY, .ref aX, .int (iI qn), .ref aP, .int (iI tr), .int (iI rg), .int (iI ll), .int (iI pv), .int (iI f2_51), .int (iI ov), .int (iI sz), .ref aM, .int (iI tv), .ref aA, .int (iI dm), .ref aD, .ref aB, .ref aV, .ref aE])), (aT, .inl (cI, 3000, .inl fT)), (aA, .inl (cI, 16, .inl TAv))] H := xP
                  replace xD : va_D xA0 [(mM, .inr (6, [.int (iI tm), .ref aT, .int (iI om), .ref aO, .int (iI tn), .ref aK, .ref aS, .ref aC, .ref aU, .ref aG, .ref aY, .ref aX, .int (iI qn), .ref aP, .int (iI tr), .int (iI rg), .int (iI ll), .int (iI pv), .int (iI f2_51), .int (iI ov), .int (iI sz), .ref aM, .int (iI tv), .ref aA, .int (iI dm), .ref aD, .ref aB, .ref aV, .ref aE])), (aT, .inl (cI, 3000, .inl fT)), (aA, .inl (cI, 16, .inl TAv))] := xD
                  have HF := hw_52
                  refine lv_goto (tgt := 122) xe xb d_TripleLinesModel_readTag_116 (by decide) ?_
                  refine lv_iload xe xb d_TripleLinesModel_readTag_122 (lv_at xl 4 rfl) ?_
                  refine tk_if_eq (tgt := 185) xe xb d_TripleLinesModel_readTag_124 (by decide) (by omega) (fun c_54 => absurd c_54 (by omega)) (fun c_54 => ?_)
                  refine lv_aload_n xe xb d_TripleLinesModel_readTag_127 rfl (lv_at xl 2 rfl) ?_
                  refine tk_callVi (As := []) (rest := []) (wr := [(aT, .inl (cI, 3000, .inl fT)), (aA, .inl (cI, 16, .inl TAv))]) (wn := fun u => [(mM, .inr (6, [.int (iI tm), .ref aT, .int (iI om), .ref aO, .int (iI tn), .ref aK, .ref aS, .ref aC, .ref aU, .ref aG, .ref aY, .ref aX, .int (iI qn), .ref aP, .int (iI tr), .int (iI rg), .int (iI ll), .int (iI pv), .int (iI f2_51), .int (iI ov), .int (iI sz), .ref aM, .int (iI tv), .ref aA, .int (iI dm), .ref aD, .ref aB, .ref aV, .ref aE])), (aT, .inl (cI, 3000, .inl fT)), (aA, .inl (cI, 16, .inl TAv))]) ⟨xe, xb, xml, xo, xt⟩ (c_TripleLinesModel_goes l D cI mM tm aT om aO tn aK aS aC aU aG aY aX qn aP tr rg ll pv f2_51 ov sz aM tv aA dm aD aB aV aE (by first | assumption | omega)) k_TripleLinesModel_goes mw_TripleLinesModel_86 ⟨Nat.le_of_ble_eq_true rfl, Nat.le_of_ble_eq_true rfl⟩ xK xP xD xS xA rfl xl.1 rfl (Nat.le_of_ble_eq_true rfl) d_TripleLinesModel_readTag_128 ⟨Nat.zero_le _, Nat.zero_le _⟩ [0] [1, 2] [2, 0, 1] rfl rfl (by decide) (by decide) (by decide) (by decide) (fun _ => rfl) rfl rfl rfl ?_
                  clear xP xD xS
                  intro z_56 u H locs hr_57 hw_55 xP xD xS
                  try dsimp only at hw_55
                  replace xP : va_P D classes [(mM, .inr (6, [.int (iI tm), .ref aT, .int (iI om), .ref aO, .int (iI tn), .ref aK, .ref aS, .ref aC, .ref aU, .ref aG, .ref aY, .ref aX, .int (iI qn), .ref aP, .int (iI tr), .int (iI rg), .int (iI ll), .int (iI pv), .int (iI f2_51), .int (iI ov), .int (iI sz), .ref aM, .int (iI tv), .ref aA, .int (iI dm), .ref aD, .ref aB, .ref aV, .ref aE])), (aT, .inl (cI, 3000, .inl fT)), (aA, .inl (cI, 16, .inl TAv))] H := xP
                  replace xD : va_D xA0 [(mM, .inr (6, [.int (iI tm), .ref aT, .int (iI om), .ref aO, .int (iI tn), .ref aK, .ref aS, .ref aC, .ref aU, .ref aG, .ref aY, .ref aX, .int (iI qn), .ref aP, .int (iI tr), .int (iI rg), .int (iI ll), .int (iI pv), .int (iI f2_51), .int (iI ov), .int (iI sz), .ref aM, .int (iI tv), .ref aA, .int (iI dm), .ref aD, .ref aB, .ref aV, .ref aE])), (aT, .inl (cI, 3000, .inl fT)), (aA, .inl (cI, 16, .inl TAv))] := xD
                  rcases hw_55 with ⟨rfl, Hg3⟩ | ⟨rfl, Hg3⟩
                  · exfalso; (rw [if_pos Hg] at HF; omega)
                  · refine tk_if_eq (tgt := 185) xe xb d_TripleLinesModel_readTag_131 (by decide) (by omega) (fun c_58 => ?_) (fun c_58 => absurd c_58 (by omega))
                    have hS9 := TgI_fail (pt2 := pt + 1) (n2 := 0) hS Hg C14 hc (Or.inr ⟨⟨C85, C89⟩, by omega⟩) HF (by omega) (by omega)
                    have hd9 : _ ∨ mo = 0 ∨ (pv < pv ∧ pv ≤ tm) := Or.inl Hg3
                    refine lv_goto (tgt := 12) xe xb d_TripleLinesModel_readTag_185 (by decide) ?_
                    exact ih_12 pv f2_51 (pt + 1) 0 mo tv TAv (ms2_dec Hg C14 hm_12 hd9) hS9 _ _ xP xD xS ls (lv_sub xl [2, 3, 1, 0, 4] rfl)
          refine lv_aload_n xe xb d_TripleLinesModel_readTag_24 rfl (lv_at xl 0 rfl) ?_
          refine tk_callVi (As := []) (rest := []) (wr := [(aA, .inl (cI, 16, .inl TAv))]) (wn := fun u => [(mM, .inr (6, [.int (iI tm), .ref aT, .int (iI om), .ref aO, .int (iI tn), .ref aK, .ref aS, .ref aC, .ref aU, .ref aG, .ref aY, .ref aX, .int (iI qn), .ref aP, .int (iI tr), .int (iI rg), .int (iI ll), .int (iI pv), .int (iI fv), .int (iI ov), .int (iI sz), .ref aM, .int (iI tv), .ref aA, .int (iI dm), .ref aD, .ref aB, .ref aV, .ref aE])), (aT, .inl (cI, 3000, .inl fT)), (aA, .inl (cI, 16, .inl TAv))]) ⟨xe, xb, xml, xo, xt⟩ (c_TripleLinesModel_peek l D cI mM tm aT om aO tn aK aS aC aU aG aY aX qn aP tr rg ll pv fv ov sz aM tv aA dm aD aB aV aE fT (by first | assumption | omega) (by first | assumption | omega)) k_TripleLinesModel_peek mw_TripleLinesModel_90 ⟨Nat.le_of_ble_eq_true rfl, Nat.le_of_ble_eq_true rfl⟩ xK xP xD xS xA rfl xl.1 rfl (Nat.le_of_ble_eq_true rfl) d_TripleLinesModel_readTag_25 ⟨Nat.zero_le _, Nat.zero_le _⟩ [0, 1] [2] [1, 2, 0] rfl rfl (by decide) (by decide) (by decide) (by decide) (fun _ => rfl) rfl rfl rfl ?_
          clear xP xD xS
          intro z_60 u H locs hr_61 hw_59 xP xD xS
          try dsimp only at hw_59
          replace xP : va_P D classes [(mM, .inr (6, [.int (iI tm), .ref aT, .int (iI om), .ref aO, .int (iI tn), .ref aK, .ref aS, .ref aC, .ref aU, .ref aG, .ref aY, .ref aX, .int (iI qn), .ref aP, .int (iI tr), .int (iI rg), .int (iI ll), .int (iI pv), .int (iI fv), .int (iI ov), .int (iI sz), .ref aM, .int (iI tv), .ref aA, .int (iI dm), .ref aD, .ref aB, .ref aV, .ref aE])), (aT, .inl (cI, 3000, .inl fT)), (aA, .inl (cI, 16, .inl TAv))] H := xP
          replace xD : va_D xA0 [(mM, .inr (6, [.int (iI tm), .ref aT, .int (iI om), .ref aO, .int (iI tn), .ref aK, .ref aS, .ref aC, .ref aU, .ref aG, .ref aY, .ref aX, .int (iI qn), .ref aP, .int (iI tr), .int (iI rg), .int (iI ll), .int (iI pv), .int (iI fv), .int (iI ov), .int (iI sz), .ref aM, .int (iI tv), .ref aA, .int (iI dm), .ref aD, .ref aB, .ref aV, .ref aE])), (aT, .inl (cI, 3000, .inl fT)), (aA, .inl (cI, 16, .inl TAv))] := xD
          have HP := hw_59
          have hbt := rd_byt hB pv
          rw [← HP] at hbt
          refine lv_istore (lv' := [(5, .int (iI z_60)), (0, .ref mM), (1, .int (iI p)), (2, .int (iI pt)), (3, .int (iI n)), (4, .int (iI mo))]) xe xb d_TripleLinesModel_readTag_28 xl (by decide) rfl ?_
          clear xl
          intro ls xl
          refine lv_iload xe xb d_TripleLinesModel_readTag_30 (lv_at xl 0 rfl) ?_
          refine tk_callSi (As := [.int (iI z_60)]) (rest := []) (wr := [(mM, .inr (6, [.int (iI tm), .ref aT, .int (iI om), .ref aO, .int (iI tn), .ref aK, .ref aS, .ref aC, .ref aU, .ref aG, .ref aY, .ref aX, .int (iI qn), .ref aP, .int (iI tr), .int (iI rg), .int (iI ll), .int (iI pv), .int (iI fv), .int (iI ov), .int (iI sz), .ref aM, .int (iI tv), .ref aA, .int (iI dm), .ref aD, .ref aB, .ref aV, .ref aE])), (aT, .inl (cI, 3000, .inl fT)), (aA, .inl (cI, 16, .inl TAv))]) (wn := fun u => [(mM, .inr (6, [.int (iI tm), .ref aT, .int (iI om), .ref aO, .int (iI tn), .ref aK, .ref aS, .ref aC, .ref aU, .ref aG, .ref aY, .ref aX, .int (iI qn), .ref aP, .int (iI tr), .int (iI rg), .int (iI ll), .int (iI pv), .int (iI fv), .int (iI ov), .int (iI sz), .ref aM, .int (iI tv), .ref aA, .int (iI dm), .ref aD, .ref aB, .ref aV, .ref aE])), (aT, .inl (cI, 3000, .inl fT)), (aA, .inl (cI, 16, .inl TAv))]) ⟨xe, xb, xml, xo, xt⟩ (c_TripleLinesModel_isLetter l D cI z_60 (by first | assumption | omega)) k_TripleLinesModel_isLetter mw_TripleLinesModel_173 ⟨Nat.le_of_ble_eq_true rfl, Nat.le_of_ble_eq_true rfl⟩ xK xP xD xS xA rfl xl.1 rfl (Nat.le_of_ble_eq_true rfl) d_TripleLinesModel_readTag_32 ⟨Nat.zero_le _, Nat.zero_le _⟩ [] [0, 1, 2] [0, 1, 2] rfl rfl (by decide) (by decide) (by decide) (by decide) (fun _ => rfl) ?_
          clear xP xD xS
          intro z_63 u H locs hr_64 hw_62 xP xD xS
          try dsimp only at hw_62
          replace xP : va_P D classes [(mM, .inr (6, [.int (iI tm), .ref aT, .int (iI om), .ref aO, .int (iI tn), .ref aK, .ref aS, .ref aC, .ref aU, .ref aG, .ref aY, .ref aX, .int (iI qn), .ref aP, .int (iI tr), .int (iI rg), .int (iI ll), .int (iI pv), .int (iI fv), .int (iI ov), .int (iI sz), .ref aM, .int (iI tv), .ref aA, .int (iI dm), .ref aD, .ref aB, .ref aV, .ref aE])), (aT, .inl (cI, 3000, .inl fT)), (aA, .inl (cI, 16, .inl TAv))] H := xP
          replace xD : va_D xA0 [(mM, .inr (6, [.int (iI tm), .ref aT, .int (iI om), .ref aO, .int (iI tn), .ref aK, .ref aS, .ref aC, .ref aU, .ref aG, .ref aY, .ref aX, .int (iI qn), .ref aP, .int (iI tr), .int (iI rg), .int (iI ll), .int (iI pv), .int (iI fv), .int (iI ov), .int (iI sz), .ref aM, .int (iI tv), .ref aA, .int (iI dm), .ref aD, .ref aB, .ref aV, .ref aE])), (aT, .inl (cI, 3000, .inl fT)), (aA, .inl (cI, 16, .inl TAv))] := xD
          rcases hw_62 with ⟨rfl, Hl⟩ | ⟨rfl, Hl⟩
          · refine tk_if_ne (tgt := 50) xe xb d_TripleLinesModel_readTag_35 (by decide) (by omega) (fun c_65 => ?_) (fun c_65 => absurd c_65 (by omega))
            exact loop_50 z_60 (by first | assumption | omega) (by first | assumption | omega) (by first | assumption | omega) _ _ xP xD xS ls (lv_sub xl [1, 2, 3, 4, 5, 0] rfl)
          · refine tk_if_ne (tgt := 50) xe xb d_TripleLinesModel_readTag_35 (by decide) (by omega) (fun c_66 => absurd c_66 (by omega)) (fun c_66 => ?_)
            refine lv_iload_n xe xb d_TripleLinesModel_readTag_38 rfl (lv_at xl 3 rfl) ?_
            refine tk_if_le (tgt := 81) xe xb d_TripleLinesModel_readTag_39 (by decide) (by omega) (fun C39 => ?_) (fun C39 => ?_)
            · exact loop_81 z_60 (by first | assumption | omega) (by first | assumption | omega) (by first | assumption | omega) _ _ xP xD xS ls (lv_sub xl [1, 2, 3, 4, 5, 0] rfl)
            · refine lv_iload xe xb d_TripleLinesModel_readTag_42 (lv_at xl 0 rfl) ?_
              refine tk_callSi (As := [.int (iI z_60)]) (rest := []) (wr := [(mM, .inr (6, [.int (iI tm), .ref aT, .int (iI om), .ref aO, .int (iI tn), .ref aK, .ref aS, .ref aC, .ref aU, .ref aG, .ref aY, .ref aX, .int (iI qn), .ref aP, .int (iI tr), .int (iI rg), .int (iI ll), .int (iI pv), .int (iI fv), .int (iI ov), .int (iI sz), .ref aM, .int (iI tv), .ref aA, .int (iI dm), .ref aD, .ref aB, .ref aV, .ref aE])), (aT, .inl (cI, 3000, .inl fT)), (aA, .inl (cI, 16, .inl TAv))]) (wn := fun u => [(mM, .inr (6, [.int (iI tm), .ref aT, .int (iI om), .ref aO, .int (iI tn), .ref aK, .ref aS, .ref aC, .ref aU, .ref aG, .ref aY, .ref aX, .int (iI qn), .ref aP, .int (iI tr), .int (iI rg), .int (iI ll), .int (iI pv), .int (iI fv), .int (iI ov), .int (iI sz), .ref aM, .int (iI tv), .ref aA, .int (iI dm), .ref aD, .ref aB, .ref aV, .ref aE])), (aT, .inl (cI, 3000, .inl fT)), (aA, .inl (cI, 16, .inl TAv))]) ⟨xe, xb, xml, xo, xt⟩ (c_TripleLinesModel_isDigit l D cI z_60 (by first | assumption | omega)) k_TripleLinesModel_isDigit mw_TripleLinesModel_67 ⟨Nat.le_of_ble_eq_true rfl, Nat.le_of_ble_eq_true rfl⟩ xK xP xD xS xA rfl xl.1 rfl (Nat.le_of_ble_eq_true rfl) d_TripleLinesModel_readTag_44 ⟨Nat.zero_le _, Nat.zero_le _⟩ [] [0, 1, 2] [0, 1, 2] rfl rfl (by decide) (by decide) (by decide) (by decide) (fun _ => rfl) ?_
              clear xP xD xS
              intro z_68 u H locs hr_69 hw_67 xP xD xS
              try dsimp only at hw_67
              replace xP : va_P D classes [(mM, .inr (6, [.int (iI tm), .ref aT, .int (iI om), .ref aO, .int (iI tn), .ref aK, .ref aS, .ref aC, .ref aU, .ref aG, .ref aY, .ref aX, .int (iI qn), .ref aP, .int (iI tr), .int (iI rg), .int (iI ll), .int (iI pv), .int (iI fv), .int (iI ov), .int (iI sz), .ref aM, .int (iI tv), .ref aA, .int (iI dm), .ref aD, .ref aB, .ref aV, .ref aE])), (aT, .inl (cI, 3000, .inl fT)), (aA, .inl (cI, 16, .inl TAv))] H := xP
              replace xD : va_D xA0 [(mM, .inr (6, [.int (iI tm), .ref aT, .int (iI om), .ref aO, .int (iI tn), .ref aK, .ref aS, .ref aC, .ref aU, .ref aG, .ref aY, .ref aX, .int (iI qn), .ref aP, .int (iI tr), .int (iI rg), .int (iI ll), .int (iI pv), .int (iI fv), .int (iI ov), .int (iI sz), .ref aM, .int (iI tv), .ref aA, .int (iI dm), .ref aD, .ref aB, .ref aV, .ref aE])), (aT, .inl (cI, 3000, .inl fT)), (aA, .inl (cI, 16, .inl TAv))] := xD
              rcases hw_67 with ⟨rfl, Hd⟩ | ⟨rfl, Hd⟩
              · refine tk_if_eq (tgt := 81) xe xb d_TripleLinesModel_readTag_47 (by decide) (by omega) (fun c_70 => absurd c_70 (by omega)) (fun c_70 => ?_)
                exact loop_50 z_60 (by first | assumption | omega) (by first | assumption | omega) (by first | assumption | omega) _ _ xP xD xS ls (lv_sub xl [1, 2, 3, 4, 5, 0] rfl)
              · refine tk_if_eq (tgt := 81) xe xb d_TripleLinesModel_readTag_47 (by decide) (by omega) (fun c_71 => ?_) (fun c_71 => absurd c_71 (by omega))
                exact loop_81 z_60 (by first | assumption | omega) (by first | assumption | omega) (by first | assumption | omega) _ _ xP xD xS ls (lv_sub xl [1, 2, 3, 4, 5, 0] rfl)
        · refine tk_if_eq (tgt := 188) xe xb d_TripleLinesModel_readTag_21 (by decide) (by omega) (fun c_72 => ?_) (fun c_72 => absurd c_72 (by omega))
          refine lv_aload_n xe xb d_TripleLinesModel_readTag_188 rfl (lv_at xl 0 rfl) ?_
          refine tk_callVi (As := []) (rest := []) (wr := [(aT, .inl (cI, 3000, .inl fT)), (aA, .inl (cI, 16, .inl TAv))]) (wn := fun u => [(mM, .inr (6, [.int (iI tm), .ref aT, .int (iI om), .ref aO, .int (iI tn), .ref aK, .ref aS, .ref aC, .ref aU, .ref aG, .ref aY, .ref aX, .int (iI qn), .ref aP, .int (iI tr), .int (iI rg), .int (iI ll), .int (iI pv), .int (iI fv), .int (iI ov), .int (iI sz), .ref aM, .int (iI tv), .ref aA, .int (iI dm), .ref aD, .ref aB, .ref aV, .ref aE])), (aT, .inl (cI, 3000, .inl fT)), (aA, .inl (cI, 16, .inl TAv))]) ⟨xe, xb, xml, xo, xt⟩ (c_TripleLinesModel_goes l D cI mM tm aT om aO tn aK aS aC aU aG aY aX qn aP tr rg ll pv fv ov sz aM tv aA dm aD aB aV aE (by first | assumption | omega)) k_TripleLinesModel_goes mw_TripleLinesModel_86 ⟨Nat.le_of_ble_eq_true rfl, Nat.le_of_ble_eq_true rfl⟩ xK xP xD xS xA rfl xl.1 rfl (Nat.le_of_ble_eq_true rfl) d_TripleLinesModel_readTag_189 ⟨Nat.zero_le _, Nat.zero_le _⟩ [0] [1, 2] [2, 0, 1] rfl rfl (by decide) (by decide) (by decide) (by decide) (fun _ => rfl) rfl rfl rfl ?_
          clear xP xD xS
          intro z_74 u H locs hr_75 hw_73 xP xD xS
          try dsimp only at hw_73
          replace xP : va_P D classes [(mM, .inr (6, [.int (iI tm), .ref aT, .int (iI om), .ref aO, .int (iI tn), .ref aK, .ref aS, .ref aC, .ref aU, .ref aG, .ref aY, .ref aX, .int (iI qn), .ref aP, .int (iI tr), .int (iI rg), .int (iI ll), .int (iI pv), .int (iI fv), .int (iI ov), .int (iI sz), .ref aM, .int (iI tv), .ref aA, .int (iI dm), .ref aD, .ref aB, .ref aV, .ref aE])), (aT, .inl (cI, 3000, .inl fT)), (aA, .inl (cI, 16, .inl TAv))] H := xP
          replace xD : va_D xA0 [(mM, .inr (6, [.int (iI tm), .ref aT, .int (iI om), .ref aO, .int (iI tn), .ref aK, .ref aS, .ref aC, .ref aU, .ref aG, .ref aY, .ref aX, .int (iI qn), .ref aP, .int (iI tr), .int (iI rg), .int (iI ll), .int (iI pv), .int (iI fv), .int (iI ov), .int (iI sz), .ref aM, .int (iI tv), .ref aA, .int (iI dm), .ref aD, .ref aB, .ref aV, .ref aE])), (aT, .inl (cI, 3000, .inl fT)), (aA, .inl (cI, 16, .inl TAv))] := xD
          rcases hw_73 with ⟨rfl, Hg2⟩ | ⟨rfl, Hg2⟩
          · exfalso; omega
          · refine tk_if_eq (tgt := 207) xe xb d_TripleLinesModel_readTag_192 (by decide) (by omega) (fun c_76 => ?_) (fun c_76 => absurd c_76 (by omega))
            exact xret _ _ _ _ (pv, fv, tv, TAv) d_TripleLinesModel_readTag_207 (by first | exact (TgO_dead hS (by omega)) | (dsimp only; exact (TgO_dead hS (by omega)))) xP xD xS
  exact loop_12 _ p f 0 0 1 tz TA (Nat.lt_succ_self _) (by rw [htz]; exact ⟨hp, by omega, by omega, by omega, by omega, Or.inr rfl, Or.inr (Or.inl ⟨hf, by omega, by omega, rfl, by rw [lst_neg (g := tI TA) (Int.le_refl 0)]; rfl⟩)⟩) _ _ xP xD xS ls (lv_sub xl [4, 3, 2, 1, 0] rfl)
