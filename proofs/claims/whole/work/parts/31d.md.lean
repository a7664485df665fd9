theorem d_TripleLinesModel_note_0 : decode b_TripleLinesModel_note 0 = .ok (.aload_n 0, 1) := by decide +kernel
theorem d_TripleLinesModel_note_1 : decode b_TripleLinesModel_note 1 = .ok (.invokevirtual 86, 3) := by decide +kernel
theorem d_TripleLinesModel_note_4 : decode b_TripleLinesModel_note 4 = .ok (.ifCond .eq 19, 3) := by decide +kernel
theorem d_TripleLinesModel_note_7 : decode b_TripleLinesModel_note 7 = .ok (.aload_n 0, 1) := by decide +kernel
theorem d_TripleLinesModel_note_8 : decode b_TripleLinesModel_note 8 = .ok (.getfield 141, 3) := by decide +kernel
theorem d_TripleLinesModel_note_11 : decode b_TripleLinesModel_note 11 = .ok (.ifCond .ne 12, 3) := by decide +kernel
theorem d_TripleLinesModel_note_14 : decode b_TripleLinesModel_note 14 = .ok (.aload_n 0, 1) := by decide +kernel
theorem d_TripleLinesModel_note_15 : decode b_TripleLinesModel_note 15 = .ok (.iload_n 1, 1) := by decide +kernel
theorem d_TripleLinesModel_note_16 : decode b_TripleLinesModel_note 16 = .ok (.iload_n 2, 1) := by decide +kernel
theorem d_TripleLinesModel_note_17 : decode b_TripleLinesModel_note 17 = .ok (.invokevirtual 145, 3) := by decide +kernel
theorem d_TripleLinesModel_note_20 : decode b_TripleLinesModel_note 20 = .ok (.goto 4, 3) := by decide +kernel
theorem d_TripleLinesModel_note_23 : decode b_TripleLinesModel_note 23 = .ok (.iconst 0, 1) := by decide +kernel
theorem d_TripleLinesModel_note_24 : decode b_TripleLinesModel_note 24 = .ok (.istore_n 3, 1) := by decide +kernel
theorem d_TripleLinesModel_note_25 : decode b_TripleLinesModel_note 25 = .ok (.iload_n 3, 1) := by decide +kernel
theorem d_TripleLinesModel_note_26 : decode b_TripleLinesModel_note 26 = .ok (.ifCond .lt 5, 3) := by decide +kernel
theorem d_TripleLinesModel_note_29 : decode b_TripleLinesModel_note 29 = .ok (.iload_n 3, 1) := by decide +kernel
theorem d_TripleLinesModel_note_30 : decode b_TripleLinesModel_note 30 = .ok (.ireturn, 1) := by decide +kernel
theorem d_TripleLinesModel_note_31 : decode b_TripleLinesModel_note 31 = .ok (.aload_n 0, 1) := by decide +kernel
theorem d_TripleLinesModel_note_32 : decode b_TripleLinesModel_note 32 = .ok (.getfield 132, 3) := by decide +kernel
theorem d_TripleLinesModel_note_35 : decode b_TripleLinesModel_note 35 = .ok (.bipush 120, 2) := by decide +kernel
theorem d_TripleLinesModel_note_37 : decode b_TripleLinesModel_note 37 = .ok (.if_icmp .ne 10, 3) := by decide +kernel
theorem d_TripleLinesModel_note_40 : decode b_TripleLinesModel_note 40 = .ok (.aload_n 0, 1) := by decide +kernel
theorem d_TripleLinesModel_note_41 : decode b_TripleLinesModel_note 41 = .ok (.iconst 1, 1) := by decide +kernel
theorem d_TripleLinesModel_note_42 : decode b_TripleLinesModel_note 42 = .ok (.putfield 141, 3) := by decide +kernel
theorem d_TripleLinesModel_note_45 : decode b_TripleLinesModel_note 45 = .ok (.iconst 0, 1) := by decide +kernel
theorem d_TripleLinesModel_note_46 : decode b_TripleLinesModel_note 46 = .ok (.ireturn, 1) := by decide +kernel
theorem d_TripleLinesModel_note_47 : decode b_TripleLinesModel_note 47 = .ok (.aload_n 0, 1) := by decide +kernel
theorem d_TripleLinesModel_note_48 : decode b_TripleLinesModel_note 48 = .ok (.getfield 16, 3) := by decide +kernel
theorem d_TripleLinesModel_note_51 : decode b_TripleLinesModel_note 51 = .ok (.aload_n 0, 1) := by decide +kernel
theorem d_TripleLinesModel_note_52 : decode b_TripleLinesModel_note 52 = .ok (.getfield 132, 3) := by decide +kernel
theorem d_TripleLinesModel_note_55 : decode b_TripleLinesModel_note 55 = .ok (.iload_n 1, 1) := by decide +kernel
theorem d_TripleLinesModel_note_56 : decode b_TripleLinesModel_note 56 = .ok (.iastore, 1) := by decide +kernel
theorem d_TripleLinesModel_note_57 : decode b_TripleLinesModel_note 57 = .ok (.aload_n 0, 1) := by decide +kernel
theorem d_TripleLinesModel_note_58 : decode b_TripleLinesModel_note 58 = .ok (.getfield 31, 3) := by decide +kernel
theorem d_TripleLinesModel_note_61 : decode b_TripleLinesModel_note 61 = .ok (.aload_n 0, 1) := by decide +kernel
theorem d_TripleLinesModel_note_62 : decode b_TripleLinesModel_note 62 = .ok (.getfield 132, 3) := by decide +kernel
theorem d_TripleLinesModel_note_65 : decode b_TripleLinesModel_note 65 = .ok (.iload_n 2, 1) := by decide +kernel
theorem d_TripleLinesModel_note_66 : decode b_TripleLinesModel_note 66 = .ok (.iastore, 1) := by decide +kernel
theorem d_TripleLinesModel_note_67 : decode b_TripleLinesModel_note 67 = .ok (.aload_n 0, 1) := by decide +kernel
theorem d_TripleLinesModel_note_68 : decode b_TripleLinesModel_note 68 = .ok (.getfield 19, 3) := by decide +kernel
theorem d_TripleLinesModel_note_71 : decode b_TripleLinesModel_note 71 = .ok (.aload_n 0, 1) := by decide +kernel
theorem d_TripleLinesModel_note_72 : decode b_TripleLinesModel_note 72 = .ok (.getfield 132, 3) := by decide +kernel
theorem d_TripleLinesModel_note_75 : decode b_TripleLinesModel_note 75 = .ok (.aload_n 0, 1) := by decide +kernel
theorem d_TripleLinesModel_note_76 : decode b_TripleLinesModel_note 76 = .ok (.getfield 129, 3) := by decide +kernel
theorem d_TripleLinesModel_note_79 : decode b_TripleLinesModel_note 79 = .ok (.iastore, 1) := by decide +kernel
theorem d_TripleLinesModel_note_80 : decode b_TripleLinesModel_note 80 = .ok (.aload_n 0, 1) := by decide +kernel
theorem d_TripleLinesModel_note_81 : decode b_TripleLinesModel_note 81 = .ok (.getfield 25, 3) := by decide +kernel
theorem d_TripleLinesModel_note_84 : decode b_TripleLinesModel_note 84 = .ok (.aload_n 0, 1) := by decide +kernel
theorem d_TripleLinesModel_note_85 : decode b_TripleLinesModel_note 85 = .ok (.getfield 132, 3) := by decide +kernel
theorem d_TripleLinesModel_note_88 : decode b_TripleLinesModel_note 88 = .ok (.aload_n 0, 1) := by decide +kernel
theorem d_TripleLinesModel_note_89 : decode b_TripleLinesModel_note 89 = .ok (.getfield 135, 3) := by decide +kernel
theorem d_TripleLinesModel_note_92 : decode b_TripleLinesModel_note 92 = .ok (.iastore, 1) := by decide +kernel
theorem d_TripleLinesModel_note_93 : decode b_TripleLinesModel_note 93 = .ok (.aload_n 0, 1) := by decide +kernel
theorem d_TripleLinesModel_note_94 : decode b_TripleLinesModel_note 94 = .ok (.getfield 34, 3) := by decide +kernel
theorem d_TripleLinesModel_note_97 : decode b_TripleLinesModel_note 97 = .ok (.aload_n 0, 1) := by decide +kernel
theorem d_TripleLinesModel_note_98 : decode b_TripleLinesModel_note 98 = .ok (.getfield 132, 3) := by decide +kernel
theorem d_TripleLinesModel_note_101 : decode b_TripleLinesModel_note 101 = .ok (.aload_n 0, 1) := by decide +kernel
theorem d_TripleLinesModel_note_102 : decode b_TripleLinesModel_note 102 = .ok (.getfield 138, 3) := by decide +kernel
theorem d_TripleLinesModel_note_105 : decode b_TripleLinesModel_note 105 = .ok (.iastore, 1) := by decide +kernel
theorem d_TripleLinesModel_note_106 : decode b_TripleLinesModel_note 106 = .ok (.iconst 0, 1) := by decide +kernel
theorem d_TripleLinesModel_note_107 : decode b_TripleLinesModel_note 107 = .ok (.istore 4, 2) := by decide +kernel
theorem d_TripleLinesModel_note_109 : decode b_TripleLinesModel_note 109 = .ok (.iload 4, 2) := by decide +kernel
theorem d_TripleLinesModel_note_111 : decode b_TripleLinesModel_note 111 = .ok (.aload_n 0, 1) := by decide +kernel
theorem d_TripleLinesModel_note_112 : decode b_TripleLinesModel_note 112 = .ok (.getfield 129, 3) := by decide +kernel
theorem d_TripleLinesModel_note_115 : decode b_TripleLinesModel_note 115 = .ok (.if_icmp .ge 31, 3) := by decide +kernel
theorem d_TripleLinesModel_note_118 : decode b_TripleLinesModel_note 118 = .ok (.aload_n 0, 1) := by decide +kernel
theorem d_TripleLinesModel_note_119 : decode b_TripleLinesModel_note 119 = .ok (.getfield 22, 3) := by decide +kernel
theorem d_TripleLinesModel_note_122 : decode b_TripleLinesModel_note 122 = .ok (.bipush 40, 2) := by decide +kernel
theorem d_TripleLinesModel_note_124 : decode b_TripleLinesModel_note 124 = .ok (.aload_n 0, 1) := by decide +kernel
theorem d_TripleLinesModel_note_125 : decode b_TripleLinesModel_note 125 = .ok (.getfield 132, 3) := by decide +kernel
theorem d_TripleLinesModel_note_128 : decode b_TripleLinesModel_note 128 = .ok (.imul, 1) := by decide +kernel
theorem d_TripleLinesModel_note_129 : decode b_TripleLinesModel_note 129 = .ok (.iload 4, 2) := by decide +kernel
theorem d_TripleLinesModel_note_131 : decode b_TripleLinesModel_note 131 = .ok (.iadd, 1) := by decide +kernel
theorem d_TripleLinesModel_note_132 : decode b_TripleLinesModel_note 132 = .ok (.aload_n 0, 1) := by decide +kernel
theorem d_TripleLinesModel_note_133 : decode b_TripleLinesModel_note 133 = .ok (.getfield 40, 3) := by decide +kernel
theorem d_TripleLinesModel_note_136 : decode b_TripleLinesModel_note 136 = .ok (.iload 4, 2) := by decide +kernel
theorem d_TripleLinesModel_note_138 : decode b_TripleLinesModel_note 138 = .ok (.iaload, 1) := by decide +kernel
theorem d_TripleLinesModel_note_139 : decode b_TripleLinesModel_note 139 = .ok (.iastore, 1) := by decide +kernel
theorem d_TripleLinesModel_note_140 : decode b_TripleLinesModel_note 140 = .ok (.iinc 4 1, 3) := by decide +kernel
theorem d_TripleLinesModel_note_143 : decode b_TripleLinesModel_note 143 = .ok (.goto (-34), 3) := by decide +kernel
theorem d_TripleLinesModel_note_146 : decode b_TripleLinesModel_note 146 = .ok (.iconst 0, 1) := by decide +kernel
theorem d_TripleLinesModel_note_147 : decode b_TripleLinesModel_note 147 = .ok (.istore 4, 2) := by decide +kernel
theorem d_TripleLinesModel_note_149 : decode b_TripleLinesModel_note 149 = .ok (.iload 4, 2) := by decide +kernel
theorem d_TripleLinesModel_note_151 : decode b_TripleLinesModel_note 151 = .ok (.aload_n 0, 1) := by decide +kernel
theorem d_TripleLinesModel_note_152 : decode b_TripleLinesModel_note 152 = .ok (.getfield 135, 3) := by decide +kernel
theorem d_TripleLinesModel_note_155 : decode b_TripleLinesModel_note 155 = .ok (.if_icmp .ge 31, 3) := by decide +kernel
theorem d_TripleLinesModel_note_158 : decode b_TripleLinesModel_note 158 = .ok (.aload_n 0, 1) := by decide +kernel
theorem d_TripleLinesModel_note_159 : decode b_TripleLinesModel_note 159 = .ok (.getfield 28, 3) := by decide +kernel
theorem d_TripleLinesModel_note_162 : decode b_TripleLinesModel_note 162 = .ok (.bipush 16, 2) := by decide +kernel
theorem d_TripleLinesModel_note_164 : decode b_TripleLinesModel_note 164 = .ok (.aload_n 0, 1) := by decide +kernel
theorem d_TripleLinesModel_note_165 : decode b_TripleLinesModel_note 165 = .ok (.getfield 132, 3) := by decide +kernel
theorem d_TripleLinesModel_note_168 : decode b_TripleLinesModel_note 168 = .ok (.imul, 1) := by decide +kernel
theorem d_TripleLinesModel_note_169 : decode b_TripleLinesModel_note 169 = .ok (.iload 4, 2) := by decide +kernel
theorem d_TripleLinesModel_note_171 : decode b_TripleLinesModel_note 171 = .ok (.iadd, 1) := by decide +kernel
theorem d_TripleLinesModel_note_172 : decode b_TripleLinesModel_note 172 = .ok (.aload_n 0, 1) := by decide +kernel
theorem d_TripleLinesModel_note_173 : decode b_TripleLinesModel_note 173 = .ok (.getfield 43, 3) := by decide +kernel
theorem d_TripleLinesModel_note_176 : decode b_TripleLinesModel_note 176 = .ok (.iload 4, 2) := by decide +kernel
theorem d_TripleLinesModel_note_178 : decode b_TripleLinesModel_note 178 = .ok (.iaload, 1) := by decide +kernel
theorem d_TripleLinesModel_note_179 : decode b_TripleLinesModel_note 179 = .ok (.iastore, 1) := by decide +kernel
theorem d_TripleLinesModel_note_180 : decode b_TripleLinesModel_note 180 = .ok (.iinc 4 1, 3) := by decide +kernel
theorem d_TripleLinesModel_note_183 : decode b_TripleLinesModel_note 183 = .ok (.goto (-34), 3) := by decide +kernel
theorem d_TripleLinesModel_note_186 : decode b_TripleLinesModel_note 186 = .ok (.aload_n 0, 1) := by decide +kernel
theorem d_TripleLinesModel_note_187 : decode b_TripleLinesModel_note 187 = .ok (.dup, 1) := by decide +kernel
theorem d_TripleLinesModel_note_188 : decode b_TripleLinesModel_note 188 = .ok (.getfield 132, 3) := by decide +kernel
theorem d_TripleLinesModel_note_191 : decode b_TripleLinesModel_note 191 = .ok (.iconst 1, 1) := by decide +kernel
theorem d_TripleLinesModel_note_192 : decode b_TripleLinesModel_note 192 = .ok (.iadd, 1) := by decide +kernel
theorem d_TripleLinesModel_note_193 : decode b_TripleLinesModel_note 193 = .ok (.putfield 132, 3) := by decide +kernel
theorem d_TripleLinesModel_note_196 : decode b_TripleLinesModel_note 196 = .ok (.aload_n 0, 1) := by decide +kernel
theorem d_TripleLinesModel_note_197 : decode b_TripleLinesModel_note 197 = .ok (.getfield 132, 3) := by decide +kernel
theorem d_TripleLinesModel_note_200 : decode b_TripleLinesModel_note 200 = .ok (.iconst 1, 1) := by decide +kernel
theorem d_TripleLinesModel_note_201 : decode b_TripleLinesModel_note 201 = .ok (.isub, 1) := by decide +kernel
theorem d_TripleLinesModel_note_202 : decode b_TripleLinesModel_note 202 = .ok (.ireturn, 1) := by decide +kernel
set_option maxHeartbeats 4000000 in
set_option maxRecDepth 100000 in
theorem c_TripleLinesModel_note (l : Launch) (D : va_G) (cI : ClassId) (mM : Nat) (tm : Int) (aT : Nat) (om : Int) (aO : Nat) (tn : Int) (aK : Nat) (aS : Nat) (aC : Nat) (aU : Nat) (aG : Nat) (aY : Nat) (aX : Nat) (qn : Int) (aP : Nat) (tr : Int) (rg : Int) (ll : Int) (p : Int) (f : Int) (ov : Int) (sz : Int) (aM : Nat) (tz : Int) (aA : Nat) (dm : Int) (aD : Nat) (aB : Nat) (aV : Nat) (aE : Nat) (K : Nat → Int32) (Ln : Nat → Int32) (C : Nat → Int32) (TL : Nat → Int32) (TG : Nat → Int32) (TY : Nat → Int32) (SC : Nat → Int32) (MD : Nat → Int32) (TA : Nat → Int32) (kd : Int) (ty : Int) (a : Int) (fr : Int) (hf : -2147483648 ≤ f ∧ f < 2147483648) (hs : tOk Ln TL tn) (hsz : 0 ≤ sz ∧ sz ≤ 40) (htz : 0 ≤ tz ∧ tz ≤ 16) (hk : -2147483648 ≤ kd ∧ kd < 2147483648) (hy : -2147483648 ≤ ty ∧ ty < 2147483648) (hsc : scO SC tr fr tn) (hfr : 0 ≤ fr ∧ fr ≤ tn) (ha : (kd = 1 ∧ a = fr) ∨ (kd ≠ 1 ∧ a = 0)) (htr : -2147483648 ≤ tr ∧ tr < 2147483648) (hov : ov = 0 ∨ ov = 1) : CtI l D [(cI, .int)] y_TripleLinesModel_note b_TripleLinesModel_note 5 (some .int) 1 [.ref mM, .int (iI kd), .int (iI ty)] [(mM, .inr (6, [.int (iI tm), .ref aT, .int (iI om), .ref aO, .int (iI tn), .ref aK, .ref aS, .ref aC, .ref aU, .ref aG, .ref aY, .ref aX, .int (iI qn), .ref aP, .int (iI tr), .int (iI rg), .int (iI ll), .int (iI p), .int (iI f), .int (iI ov), .int (iI sz), .ref aM, .int (iI tz), .ref aA, .int (iI dm), .ref aD, .ref aB, .ref aV, .ref aE])), (aK, .inl (cI, 120, .inl K)), (aS, .inl (cI, 120, .inl Ln)), (aC, .inl (cI, 4800, .inl C)), (aU, .inl (cI, 120, .inl TL)), (aG, .inl (cI, 1920, .inl TG)), (aY, .inl (cI, 120, .inl TY)), (aX, .inl (cI, 120, .inl SC)), (aM, .inl (cI, 40, .inl MD)), (aA, .inl (cI, 16, .inl TA))] (S := Int × Int × (Nat → Int32) × (Nat → Int32) × (Nat → Int32) × (Nat → Int32) × (Nat → Int32) × (Nat → Int32) × (Nat → Int32)) (fun z u => tOk u.2.2.2.1 u.2.2.2.2.2.1 u.1 ∧ scO u.2.2.2.2.2.2.2.2 tr fr u.1 ∧ ((f < 0 ∧ ov = 0 ∧ nOutM (lst (tmAt u.2.2.1 u.2.2.2.1 u.2.2.2.2.1 u.2.2.2.2.2.1 u.2.2.2.2.2.2.1 u.2.2.2.2.2.2.2.1) u.1) u.2.1 z (lst (tmAt K Ln C TL TG TY) tn) a (kd, lst (tI MD) sz, lst (tI TA) tz, ty)) ∨ (¬ (f < 0 ∧ ov = 0) ∧ z = 0 ∧ u.2.1 = ov ∧ (lst (tmAt u.2.2.1 u.2.2.2.1 u.2.2.2.2.1 u.2.2.2.2.2.1 u.2.2.2.2.2.2.1 u.2.2.2.2.2.2.2.1) u.1) = (lst (tmAt K Ln C TL TG TY) tn)))) (fun u => [(mM, .inr (6, [.int (iI tm), .ref aT, .int (iI om), .ref aO, .int (iI u.1), .ref aK, .ref aS, .ref aC, .ref aU, .ref aG, .ref aY, .ref aX, .int (iI qn), .ref aP, .int (iI tr), .int (iI rg), .int (iI ll), .int (iI p), .int (iI f), .int (iI u.2.1), .int (iI sz), .ref aM, .int (iI tz), .ref aA, .int (iI dm), .ref aD, .ref aB, .ref aV, .ref aE])), (aK, .inl (cI, 120, .inl u.2.2.1)), (aS, .inl (cI, 120, .inl u.2.2.2.1)), (aC, .inl (cI, 4800, .inl u.2.2.2.2.1)), (aU, .inl (cI, 120, .inl u.2.2.2.2.2.1)), (aG, .inl (cI, 1920, .inl u.2.2.2.2.2.2.1)), (aY, .inl (cI, 120, .inl u.2.2.2.2.2.2.2.1)), (aX, .inl (cI, 120, .inl u.2.2.2.2.2.2.2.2)), (aM, .inl (cI, 40, .inl MD)), (aA, .inl (cI, 16, .inl TA))]) := by
  refine CtI.walk (fun _ => True) (fun z _ => vp_nar_int _) (by decide) (Nat.le_of_ble_eq_true rfl) ?_
  intro xp xe0 xs xm xar xbelow xmeth xc xA0 xQ xe xb xml xo xt xP xK xD xA xret ls xl xS
  have xl : lv_has ls 5 [(0, .ref mM), (1, .int (iI kd)), (2, .int (iI ty))] := xl
  have xo : xs.vm.findClass R_TripleLinesModel = some xm.cls := xo
  have hs0 := hs
  obtain ⟨s0, s1, s2⟩ := hs0
  have hL : (((lst (tmAt K Ln C TL TG TY) tn)).length : Int) = tn := by rw [lst_length]; omega
  refine lv_aload_n xe xb d_TripleLinesModel_note_0 rfl (lv_at xl 0 rfl) ?_
  refine tk_callVi (As := []) (rest := []) (wr := [(aK, .inl (cI, 120, .inl K)), (aS, .inl (cI, 120, .inl Ln)), (aC, .inl (cI, 4800, .inl C)), (aU, .inl (cI, 120, .inl TL)), (aG, .inl (cI, 1920, .inl TG)), (aY, .inl (cI, 120, .inl TY)), (aX, .inl (cI, 120, .inl SC)), (aM, .inl (cI, 40, .inl MD)), (aA, .inl (cI, 16, .inl TA))]) (wn := fun u => [(mM, .inr (6, [.int (iI tm), .ref aT, .int (iI om), .ref aO, .int (iI tn), .ref aK, .ref aS, .ref aC, .ref aU, .ref aG, .ref aY, .ref aX, .int (iI qn), .ref aP, .int (iI tr), .int (iI rg), .int (iI ll), .int (iI p), .int (iI f), .int (iI ov), .int (iI sz), .ref aM, .int (iI tz), .ref aA, .int (iI dm), .ref aD, .ref aB, .ref aV, .ref aE])), (aK, .inl (cI, 120, .inl K)), (aS, .inl (cI, 120, .inl Ln)), (aC, .inl (cI, 4800, .inl C)), (aU, .inl (cI, 120, .inl TL)), (aG, .inl (cI, 1920, .inl TG)), (aY, .inl (cI, 120, .inl TY)), (aX, .inl (cI, 120, .inl SC)), (aM, .inl (cI, 40, .inl MD)), (aA, .inl (cI, 16, .inl TA))]) ⟨xe, xb, xml, xo, xt⟩ (c_TripleLinesModel_goes l D cI mM tm aT om aO tn aK aS aC aU aG aY aX qn aP tr rg ll p f ov sz aM tz aA dm aD aB aV aE (by first | assumption | omega)) k_TripleLinesModel_goes mw_TripleLinesModel_86 ⟨Nat.le_of_ble_eq_true rfl, Nat.le_of_ble_eq_true rfl⟩ xK xP xD xS xA rfl xl.1 rfl (Nat.le_of_ble_eq_true rfl) d_TripleLinesModel_note_1 ⟨Nat.zero_le _, Nat.zero_le _⟩ [0] [1, 2, 3, 4, 5, 6, 7, 8, 9] [9, 0, 1, 2, 3, 4, 5, 6, 7, 8] rfl rfl (by decide) (by decide) (by decide) (by decide) (fun _ => rfl) rfl rfl rfl ?_
  clear xP xD xS
  intro z_2 u H locs hr_3 hw_1 xP xD xS
  try dsimp only at hw_1
  replace xP : va_P D classes [(mM, .inr (6, [.int (iI tm), .ref aT, .int (iI om), .ref aO, .int (iI tn), .ref aK, .ref aS, .ref aC, .ref aU, .ref aG, .ref aY, .ref aX, .int (iI qn), .ref aP, .int (iI tr), .int (iI rg), .int (iI ll), .int (iI p), .int (iI f), .int (iI ov), .int (iI sz), .ref aM, .int (iI tz), .ref aA, .int (iI dm), .ref aD, .ref aB, .ref aV, .ref aE])), (aK, .inl (cI, 120, .inl K)), (aS, .inl (cI, 120, .inl Ln)), (aC, .inl (cI, 4800, .inl C)), (aU, .inl (cI, 120, .inl TL)), (aG, .inl (cI, 1920, .inl TG)), (aY, .inl (cI, 120, .inl TY)), (aX, .inl (cI, 120, .inl SC)), (aM, .inl (cI, 40, .inl MD)), (aA, .inl (cI, 16, .inl TA))] H := xP
  replace xD : va_D xA0 [(mM, .inr (6, [.int (iI tm), .ref aT, .int (iI om), .ref aO, .int (iI tn), .ref aK, .ref aS, .ref aC, .ref aU, .ref aG, .ref aY, .ref aX, .int (iI qn), .ref aP, .int (iI tr), .int (iI rg), .int (iI ll), .int (iI p), .int (iI f), .int (iI ov), .int (iI sz), .ref aM, .int (iI tz), .ref aA, .int (iI dm), .ref aD, .ref aB, .ref aV, .ref aE])), (aK, .inl (cI, 120, .inl K)), (aS, .inl (cI, 120, .inl Ln)), (aC, .inl (cI, 4800, .inl C)), (aU, .inl (cI, 120, .inl TL)), (aG, .inl (cI, 1920, .inl TG)), (aY, .inl (cI, 120, .inl TY)), (aX, .inl (cI, 120, .inl SC)), (aM, .inl (cI, 40, .inl MD)), (aA, .inl (cI, 16, .inl TA))] := xD
  rcases hw_1 with ⟨rfl, Hg⟩ | ⟨rfl, Hg⟩
  · refine tk_if_eq (tgt := 23) xe xb d_TripleLinesModel_note_4 (by decide) (by omega) (fun c_4 => absurd c_4 (by omega)) (fun c_4 => ?_)
    refine lv_aload_n xe xb d_TripleLinesModel_note_7 rfl (lv_at xl 0 rfl) ?_
    refine va_get (D := D) (ci := 6) (v := .int (iI ov)) (C := R_TripleLinesModel) (T := F_TripleLinesModel) (N := 29) xe xb xt i_TripleLinesModel xo xK xP 0 rfl rfl 19 (by decide) (xt _ mw_TripleLinesModel_141) (fun _ h9 => h9) rfl d_TripleLinesModel_note_8 ?_
    refine tk_if_ne (tgt := 23) xe xb d_TripleLinesModel_note_11 (by decide) (by omega) (fun C11 => ?_) (fun C11 => ?_)
    · refine lv_iconst (v := iI (0)) xe xb d_TripleLinesModel_note_23 rfl ?_
      refine lv_istore_n (lv' := [(3, .int (iI 0)), (0, .ref mM), (1, .int (iI kd)), (2, .int (iI ty))]) xe xb d_TripleLinesModel_note_24 rfl xl (by decide) rfl ?_
      clear xl
      intro ls xl
      refine lv_iload_n xe xb d_TripleLinesModel_note_25 rfl (lv_at xl 0 rfl) ?_
      refine tk_if_lt (tgt := 31) xe xb d_TripleLinesModel_note_26 (by decide) (by omega) (fun C26 => absurd C26 (by omega)) (fun C26 => ?_)
      refine lv_iload_n xe xb d_TripleLinesModel_note_29 rfl (lv_at xl 0 rfl) ?_
      exact xret _ _ _ _ 0 (tn, ov, K, Ln, C, TL, TG, TY, SC) d_TripleLinesModel_note_30 trivial (by omega) (by first | exact (⟨hs, hsc, Or.inr ⟨by omega, rfl, rfl, rfl⟩⟩) | (dsimp only; exact (⟨hs, hsc, Or.inr ⟨by omega, rfl, rfl, rfl⟩⟩))) xP xD xS
    · refine lv_aload_n xe xb d_TripleLinesModel_note_14 rfl (lv_at xl 0 rfl) ?_
      refine lv_iload_n xe xb d_TripleLinesModel_note_15 rfl (lv_at xl 1 rfl) ?_
      refine lv_iload_n xe xb d_TripleLinesModel_note_16 rfl (lv_at xl 2 rfl) ?_
      refine tk_callVi (As := [.int (iI kd), .int (iI ty)]) (rest := []) (wr := []) (wn := fun u => [(mM, .inr (6, [.int (iI tm), .ref aT, .int (iI om), .ref aO, .int (iI tn), .ref aK, .ref aS, .ref aC, .ref aU, .ref aG, .ref aY, .ref aX, .int (iI qn), .ref aP, .int (iI tr), .int (iI rg), .int (iI ll), .int (iI p), .int (iI f), .int (iI ov), .int (iI sz), .ref aM, .int (iI tz), .ref aA, .int (iI dm), .ref aD, .ref aB, .ref aV, .ref aE])), (aK, .inl (cI, 120, .inl K)), (aS, .inl (cI, 120, .inl Ln)), (aC, .inl (cI, 4800, .inl C)), (aU, .inl (cI, 120, .inl TL)), (aG, .inl (cI, 1920, .inl TG)), (aY, .inl (cI, 120, .inl TY)), (aX, .inl (cI, 120, .inl SC)), (aM, .inl (cI, 40, .inl MD)), (aA, .inl (cI, 16, .inl TA))]) ⟨xe, xb, xml, xo, xt⟩ (c_TripleLinesModel_termOf l D cI mM tm aT om aO tn aK aS aC aU aG aY aX qn aP tr rg ll p f ov sz aM tz aA dm aD aB aV aE K Ln C TL TG TY SC MD TA kd ty a fr (by first | assumption | omega) (by first | assumption | omega) (by first | assumption | omega) (by first | assumption | omega) (by first | assumption | omega) (by first | assumption | omega) (by first | assumption | omega) (by first | assumption | omega) (by first | assumption | omega)) k_TripleLinesModel_termOf mw_TripleLinesModel_145 ⟨Nat.le_of_ble_eq_true rfl, Nat.le_of_ble_eq_true rfl⟩ xK xP xD xS xA rfl xl.1 rfl (Nat.le_of_ble_eq_true rfl) d_TripleLinesModel_note_17 ⟨Nat.zero_le _, Nat.zero_le _⟩ [0, 1, 2, 3, 4, 5, 6, 7, 8, 9] [] [0, 1, 2, 3, 4, 5, 6, 7, 8, 9] rfl rfl (by decide) (by decide) (by decide) (by decide) (fun _ => rfl) rfl rfl rfl ?_
      clear xP xD xS
      intro z_6 u H locs hr_7 hw_5 xP xD xS
      try dsimp only at hw_5
      replace xP : va_P D classes [(mM, .inr (6, [.int (iI tm), .ref aT, .int (iI om), .ref aO, .int (iI tn), .ref aK, .ref aS, .ref aC, .ref aU, .ref aG, .ref aY, .ref aX, .int (iI qn), .ref aP, .int (iI tr), .int (iI rg), .int (iI ll), .int (iI p), .int (iI f), .int (iI ov), .int (iI sz), .ref aM, .int (iI tz), .ref aA, .int (iI dm), .ref aD, .ref aB, .ref aV, .ref aE])), (aK, .inl (cI, 120, .inl K)), (aS, .inl (cI, 120, .inl Ln)), (aC, .inl (cI, 4800, .inl C)), (aU, .inl (cI, 120, .inl TL)), (aG, .inl (cI, 1920, .inl TG)), (aY, .inl (cI, 120, .inl TY)), (aX, .inl (cI, 120, .inl SC)), (aM, .inl (cI, 40, .inl MD)), (aA, .inl (cI, 16, .inl TA))] H := xP
      replace xD : va_D xA0 [(mM, .inr (6, [.int (iI tm), .ref aT, .int (iI om), .ref aO, .int (iI tn), .ref aK, .ref aS, .ref aC, .ref aU, .ref aG, .ref aY, .ref aX, .int (iI qn), .ref aP, .int (iI tr), .int (iI rg), .int (iI ll), .int (iI p), .int (iI f), .int (iI ov), .int (iI sz), .ref aM, .int (iI tz), .ref aA, .int (iI dm), .ref aD, .ref aB, .ref aV, .ref aE])), (aK, .inl (cI, 120, .inl K)), (aS, .inl (cI, 120, .inl Ln)), (aC, .inl (cI, 4800, .inl C)), (aU, .inl (cI, 120, .inl TL)), (aG, .inl (cI, 1920, .inl TG)), (aY, .inl (cI, 120, .inl TY)), (aX, .inl (cI, 120, .inl SC)), (aM, .inl (cI, 40, .inl MD)), (aA, .inl (cI, 16, .inl TA))] := xD
      have HT := hw_5
      refine lv_goto (tgt := 24) xe xb d_TripleLinesModel_note_20 (by decide) ?_
      refine lv_istore_n (lv' := [(3, .int (iI z_6)), (0, .ref mM), (1, .int (iI kd)), (2, .int (iI ty))]) xe xb d_TripleLinesModel_note_24 rfl xl (by decide) rfl ?_
      clear xl
      intro ls xl
      refine lv_iload_n xe xb d_TripleLinesModel_note_25 rfl (lv_at xl 0 rfl) ?_
      refine tk_if_lt (tgt := 31) xe xb d_TripleLinesModel_note_26 (by decide) (by omega) (fun C26 => ?_) (fun C26 => ?_)
      · refine lv_aload_n xe xb d_TripleLinesModel_note_31 rfl (lv_at xl 1 rfl) ?_
        refine va_get (D := D) (ci := 6) (v := .int (iI tn)) (C := R_TripleLinesModel) (T := F_TripleLinesModel) (N := 29) xe xb xt i_TripleLinesModel xo xK xP 0 rfl rfl 4 (by decide) (xt _ mw_TripleLinesModel_132) (fun _ h9 => h9) rfl d_TripleLinesModel_note_32 ?_
        refine lv_bipush (v := iI (120)) xe xb d_TripleLinesModel_note_35 (by decide) ?_
        refine tk_icmp_ne (tgt := 47) xe xb d_TripleLinesModel_note_37 (by decide) (by omega) (fun c_8 => ?_) (fun c_8 => ?_)
        · refine lv_aload_n xe xb d_TripleLinesModel_note_47 rfl (lv_at xl 1 rfl) ?_
          refine va_get (D := D) (ci := 6) (v := .ref aK) (C := R_TripleLinesModel) (T := F_TripleLinesModel) (N := 29) xe xb xt i_TripleLinesModel xo xK xP 0 rfl rfl 5 (by decide) (xt _ mw_TripleLinesModel_16) (fun _ h9 => h9) rfl d_TripleLinesModel_note_48 ?_
          refine lv_aload_n xe xb d_TripleLinesModel_note_51 rfl (lv_at xl 1 rfl) ?_
          refine va_get (D := D) (ci := 6) (v := .int (iI tn)) (C := R_TripleLinesModel) (T := F_TripleLinesModel) (N := 29) xe xb xt i_TripleLinesModel xo xK xP 0 rfl rfl 4 (by decide) (xt _ mw_TripleLinesModel_132) (fun _ h9 => h9) rfl d_TripleLinesModel_note_52 ?_
          refine lv_iload_n xe xb d_TripleLinesModel_note_55 rfl (lv_at xl 2 rfl) ?_
          refine tk_iast xe xb xK xP xD xS 1 0 rfl rfl (by omega) d_TripleLinesModel_note_56 ?_
          clear xP xD xS
          intro H locs xP xD xS
          replace xP : va_P D classes [(mM, .inr (6, [.int (iI tm), .ref aT, .int (iI om), .ref aO, .int (iI tn), .ref aK, .ref aS, .ref aC, .ref aU, .ref aG, .ref aY, .ref aX, .int (iI qn), .ref aP, .int (iI tr), .int (iI rg), .int (iI ll), .int (iI p), .int (iI f), .int (iI ov), .int (iI sz), .ref aM, .int (iI tz), .ref aA, .int (iI dm), .ref aD, .ref aB, .ref aV, .ref aE])), (aK, .inl (cI, 120, .inl (fu K tn kd))), (aS, .inl (cI, 120, .inl Ln)), (aC, .inl (cI, 4800, .inl C)), (aU, .inl (cI, 120, .inl TL)), (aG, .inl (cI, 1920, .inl TG)), (aY, .inl (cI, 120, .inl TY)), (aX, .inl (cI, 120, .inl SC)), (aM, .inl (cI, 40, .inl MD)), (aA, .inl (cI, 16, .inl TA))] H := xP
          replace xD : va_D xA0 [(mM, .inr (6, [.int (iI tm), .ref aT, .int (iI om), .ref aO, .int (iI tn), .ref aK, .ref aS, .ref aC, .ref aU, .ref aG, .ref aY, .ref aX, .int (iI qn), .ref aP, .int (iI tr), .int (iI rg), .int (iI ll), .int (iI p), .int (iI f), .int (iI ov), .int (iI sz), .ref aM, .int (iI tz), .ref aA, .int (iI dm), .ref aD, .ref aB, .ref aV, .ref aE])), (aK, .inl (cI, 120, .inl (fu K tn kd))), (aS, .inl (cI, 120, .inl Ln)), (aC, .inl (cI, 4800, .inl C)), (aU, .inl (cI, 120, .inl TL)), (aG, .inl (cI, 1920, .inl TG)), (aY, .inl (cI, 120, .inl TY)), (aX, .inl (cI, 120, .inl SC)), (aM, .inl (cI, 40, .inl MD)), (aA, .inl (cI, 16, .inl TA))] := xD
          refine lv_aload_n xe xb d_TripleLinesModel_note_57 rfl (lv_at xl 1 rfl) ?_
          refine va_get (D := D) (ci := 6) (v := .ref aY) (C := R_TripleLinesModel) (T := F_TripleLinesModel) (N := 29) xe xb xt i_TripleLinesModel xo xK xP 0 rfl rfl 10 (by decide) (xt _ mw_TripleLinesModel_31) (fun _ h9 => h9) rfl d_TripleLinesModel_note_58 ?_
          refine lv_aload_n xe xb d_TripleLinesModel_note_61 rfl (lv_at xl 1 rfl) ?_
          refine va_get (D := D) (ci := 6) (v := .int (iI tn)) (C := R_TripleLinesModel) (T := F_TripleLinesModel) (N := 29) xe xb xt i_TripleLinesModel xo xK xP 0 rfl rfl 4 (by decide) (xt _ mw_TripleLinesModel_132) (fun _ h9 => h9) rfl d_TripleLinesModel_note_62 ?_
          refine lv_iload_n xe xb d_TripleLinesModel_note_65 rfl (lv_at xl 3 rfl) ?_
          refine tk_iast xe xb xK xP xD xS 6 0 rfl rfl (by omega) d_TripleLinesModel_note_66 ?_
          clear xP xD xS
          intro H locs xP xD xS
          replace xP : va_P D classes [(mM, .inr (6, [.int (iI tm), .ref aT, .int (iI om), .ref aO, .int (iI tn), .ref aK, .ref aS, .ref aC, .ref aU, .ref aG, .ref aY, .ref aX, .int (iI qn), .ref aP, .int (iI tr), .int (iI rg), .int (iI ll), .int (iI p), .int (iI f), .int (iI ov), .int (iI sz), .ref aM, .int (iI tz), .ref aA, .int (iI dm), .ref aD, .ref aB, .ref aV, .ref aE])), (aK, .inl (cI, 120, .inl (fu K tn kd))), (aS, .inl (cI, 120, .inl Ln)), (aC, .inl (cI, 4800, .inl C)), (aU, .inl (cI, 120, .inl TL)), (aG, .inl (cI, 1920, .inl TG)), (aY, .inl (cI, 120, .inl (fu TY tn ty))), (aX, .inl (cI, 120, .inl SC)), (aM, .inl (cI, 40, .inl MD)), (aA, .inl (cI, 16, .inl TA))] H := xP
          replace xD : va_D xA0 [(mM, .inr (6, [.int (iI tm), .ref aT, .int (iI om), .ref aO, .int (iI tn), .ref aK, .ref aS, .ref aC, .ref aU, .ref aG, .ref aY, .ref aX, .int (iI qn), .ref aP, .int (iI tr), .int (iI rg), .int (iI ll), .int (iI p), .int (iI f), .int (iI ov), .int (iI sz), .ref aM, .int (iI tz), .ref aA, .int (iI dm), .ref aD, .ref aB, .ref aV, .ref aE])), (aK, .inl (cI, 120, .inl (fu K tn kd))), (aS, .inl (cI, 120, .inl Ln)), (aC, .inl (cI, 4800, .inl C)), (aU, .inl (cI, 120, .inl TL)), (aG, .inl (cI, 1920, .inl TG)), (aY, .inl (cI, 120, .inl (fu TY tn ty))), (aX, .inl (cI, 120, .inl SC)), (aM, .inl (cI, 40, .inl MD)), (aA, .inl (cI, 16, .inl TA))] := xD
          refine lv_aload_n xe xb d_TripleLinesModel_note_67 rfl (lv_at xl 1 rfl) ?_
          refine va_get (D := D) (ci := 6) (v := .ref aS) (C := R_TripleLinesModel) (T := F_TripleLinesModel) (N := 29) xe xb xt i_TripleLinesModel xo xK xP 0 rfl rfl 6 (by decide) (xt _ mw_TripleLinesModel_19) (fun _ h9 => h9) rfl d_TripleLinesModel_note_68 ?_
          refine lv_aload_n xe xb d_TripleLinesModel_note_71 rfl (lv_at xl 1 rfl) ?_
          refine va_get (D := D) (ci := 6) (v := .int (iI tn)) (C := R_TripleLinesModel) (T := F_TripleLinesModel) (N := 29) xe xb xt i_TripleLinesModel xo xK xP 0 rfl rfl 4 (by decide) (xt _ mw_TripleLinesModel_132) (fun _ h9 => h9) rfl d_TripleLinesModel_note_72 ?_
          refine lv_aload_n xe xb d_TripleLinesModel_note_75 rfl (lv_at xl 1 rfl) ?_
          refine va_get (D := D) (ci := 6) (v := .int (iI sz)) (C := R_TripleLinesModel) (T := F_TripleLinesModel) (N := 29) xe xb xt i_TripleLinesModel xo xK xP 0 rfl rfl 20 (by decide) (xt _ mw_TripleLinesModel_129) (fun _ h9 => h9) rfl d_TripleLinesModel_note_76 ?_
          refine tk_iast xe xb xK xP xD xS 2 0 rfl rfl (by omega) d_TripleLinesModel_note_79 ?_
          clear xP xD xS
          intro H locs xP xD xS
          replace xP : va_P D classes [(mM, .inr (6, [.int (iI tm), .ref aT, .int (iI om), .ref aO, .int (iI tn), .ref aK, .ref aS, .ref aC, .ref aU, .ref aG, .ref aY, .ref aX, .int (iI qn), .ref aP, .int (iI tr), .int (iI rg), .int (iI ll), .int (iI p), .int (iI f), .int (iI ov), .int (iI sz), .ref aM, .int (iI tz), .ref aA, .int (iI dm), .ref aD, .ref aB, .ref aV, .ref aE])), (aK, .inl (cI, 120, .inl (fu K tn kd))), (aS, .inl (cI, 120, .inl (fu Ln tn sz))), (aC, .inl (cI, 4800, .inl C)), (aU, .inl (cI, 120, .inl TL)), (aG, .inl (cI, 1920, .inl TG)), (aY, .inl (cI, 120, .inl (fu TY tn ty))), (aX, .inl (cI, 120, .inl SC)), (aM, .inl (cI, 40, .inl MD)), (aA, .inl (cI, 16, .inl TA))] H := xP
          replace xD : va_D xA0 [(mM, .inr (6, [.int (iI tm), .ref aT, .int (iI om), .ref aO, .int (iI tn), .ref aK, .ref aS, .ref aC, .ref aU, .ref aG, .ref aY, .ref aX, .int (iI qn), .ref aP, .int (iI tr), .int (iI rg), .int (iI ll), .int (iI p), .int (iI f), .int (iI ov), .int (iI sz), .ref aM, .int (iI tz), .ref aA, .int (iI dm), .ref aD, .ref aB, .ref aV, .ref aE])), (aK, .inl (cI, 120, .inl (fu K tn kd))), (aS, .inl (cI, 120, .inl (fu Ln tn sz))), (aC, .inl (cI, 4800, .inl C)), (aU, .inl (cI, 120, .inl TL)), (aG, .inl (cI, 1920, .inl TG)), (aY, .inl (cI, 120, .inl (fu TY tn ty))), (aX, .inl (cI, 120, .inl SC)), (aM, .inl (cI, 40, .inl MD)), (aA, .inl (cI, 16, .inl TA))] := xD
          refine lv_aload_n xe xb d_TripleLinesModel_note_80 rfl (lv_at xl 1 rfl) ?_
          refine va_get (D := D) (ci := 6) (v := .ref aU) (C := R_TripleLinesModel) (T := F_TripleLinesModel) (N := 29) xe xb xt i_TripleLinesModel xo xK xP 0 rfl rfl 8 (by decide) (xt _ mw_TripleLinesModel_25) (fun _ h9 => h9) rfl d_TripleLinesModel_note_81 ?_
          refine lv_aload_n xe xb d_TripleLinesModel_note_84 rfl (lv_at xl 1 rfl) ?_
          refine va_get (D := D) (ci := 6) (v := .int (iI tn)) (C := R_TripleLinesModel) (T := F_TripleLinesModel) (N := 29) xe xb xt i_TripleLinesModel xo xK xP 0 rfl rfl 4 (by decide) (xt _ mw_TripleLinesModel_132) (fun _ h9 => h9) rfl d_TripleLinesModel_note_85 ?_
          refine lv_aload_n xe xb d_TripleLinesModel_note_88 rfl (lv_at xl 1 rfl) ?_
          refine va_get (D := D) (ci := 6) (v := .int (iI tz)) (C := R_TripleLinesModel) (T := F_TripleLinesModel) (N := 29) xe xb xt i_TripleLinesModel xo xK xP 0 rfl rfl 22 (by decide) (xt _ mw_TripleLinesModel_135) (fun _ h9 => h9) rfl d_TripleLinesModel_note_89 ?_
          refine tk_iast xe xb xK xP xD xS 4 0 rfl rfl (by omega) d_TripleLinesModel_note_92 ?_
          clear xP xD xS
          intro H locs xP xD xS
          replace xP : va_P D classes [(mM, .inr (6, [.int (iI tm), .ref aT, .int (iI om), .ref aO, .int (iI tn), .ref aK, .ref aS, .ref aC, .ref aU, .ref aG, .ref aY, .ref aX, .int (iI qn), .ref aP, .int (iI tr), .int (iI rg), .int (iI ll), .int (iI p), .int (iI f), .int (iI ov), .int (iI sz), .ref aM, .int (iI tz), .ref aA, .int (iI dm), .ref aD, .ref aB, .ref aV, .ref aE])), (aK, .inl (cI, 120, .inl (fu K tn kd))), (aS, .inl (cI, 120, .inl (fu Ln tn sz))), (aC, .inl (cI, 4800, .inl C)), (aU, .inl (cI, 120, .inl (fu TL tn tz))), (aG, .inl (cI, 1920, .inl TG)), (aY, .inl (cI, 120, .inl (fu TY tn ty))), (aX, .inl (cI, 120, .inl SC)), (aM, .inl (cI, 40, .inl MD)), (aA, .inl (cI, 16, .inl TA))] H := xP
          replace xD : va_D xA0 [(mM, .inr (6, [.int (iI tm), .ref aT, .int (iI om), .ref aO, .int (iI tn), .ref aK, .ref aS, .ref aC, .ref aU, .ref aG, .ref aY, .ref aX, .int (iI qn), .ref aP, .int (iI tr), .int (iI rg), .int (iI ll), .int (iI p), .int (iI f), .int (iI ov), .int (iI sz), .ref aM, .int (iI tz), .ref aA, .int (iI dm), .ref aD, .ref aB, .ref aV, .ref aE])), (aK, .inl (cI, 120, .inl (fu K tn kd))), (aS, .inl (cI, 120, .inl (fu Ln tn sz))), (aC, .inl (cI, 4800, .inl C)), (aU, .inl (cI, 120, .inl (fu TL tn tz))), (aG, .inl (cI, 1920, .inl TG)), (aY, .inl (cI, 120, .inl (fu TY tn ty))), (aX, .inl (cI, 120, .inl SC)), (aM, .inl (cI, 40, .inl MD)), (aA, .inl (cI, 16, .inl TA))] := xD
          refine lv_aload_n xe xb d_TripleLinesModel_note_93 rfl (lv_at xl 1 rfl) ?_
          refine va_get (D := D) (ci := 6) (v := .ref aX) (C := R_TripleLinesModel) (T := F_TripleLinesModel) (N := 29) xe xb xt i_TripleLinesModel xo xK xP 0 rfl rfl 11 (by decide) (xt _ mw_TripleLinesModel_34) (fun _ h9 => h9) rfl d_TripleLinesModel_note_94 ?_
          refine lv_aload_n xe xb d_TripleLinesModel_note_97 rfl (lv_at xl 1 rfl) ?_
          refine va_get (D := D) (ci := 6) (v := .int (iI tn)) (C := R_TripleLinesModel) (T := F_TripleLinesModel) (N := 29) xe xb xt i_TripleLinesModel xo xK xP 0 rfl rfl 4 (by decide) (xt _ mw_TripleLinesModel_132) (fun _ h9 => h9) rfl d_TripleLinesModel_note_98 ?_
          refine lv_aload_n xe xb d_TripleLinesModel_note_101 rfl (lv_at xl 1 rfl) ?_
          refine va_get (D := D) (ci := 6) (v := .int (iI tr)) (C := R_TripleLinesModel) (T := F_TripleLinesModel) (N := 29) xe xb xt i_TripleLinesModel xo xK xP 0 rfl rfl 14 (by decide) (xt _ mw_TripleLinesModel_138) (fun _ h9 => h9) rfl d_TripleLinesModel_note_102 ?_
          refine tk_iast xe xb xK xP xD xS 7 0 rfl rfl (by omega) d_TripleLinesModel_note_105 ?_
          clear xP xD xS
          intro H locs xP xD xS
          replace xP : va_P D classes [(mM, .inr (6, [.int (iI tm), .ref aT, .int (iI om), .ref aO, .int (iI tn), .ref aK, .ref aS, .ref aC, .ref aU, .ref aG, .ref aY, .ref aX, .int (iI qn), .ref aP, .int (iI tr), .int (iI rg), .int (iI ll), .int (iI p), .int (iI f), .int (iI ov), .int (iI sz), .ref aM, .int (iI tz), .ref aA, .int (iI dm), .ref aD, .ref aB, .ref aV, .ref aE])), (aK, .inl (cI, 120, .inl (fu K tn kd))), (aS, .inl (cI, 120, .inl (fu Ln tn sz))), (aC, .inl (cI, 4800, .inl C)), (aU, .inl (cI, 120, .inl (fu TL tn tz))), (aG, .inl (cI, 1920, .inl TG)), (aY, .inl (cI, 120, .inl (fu TY tn ty))), (aX, .inl (cI, 120, .inl (fu SC tn tr))), (aM, .inl (cI, 40, .inl MD)), (aA, .inl (cI, 16, .inl TA))] H := xP
          replace xD : va_D xA0 [(mM, .inr (6, [.int (iI tm), .ref aT, .int (iI om), .ref aO, .int (iI tn), .ref aK, .ref aS, .ref aC, .ref aU, .ref aG, .ref aY, .ref aX, .int (iI qn), .ref aP, .int (iI tr), .int (iI rg), .int (iI ll), .int (iI p), .int (iI f), .int (iI ov), .int (iI sz), .ref aM, .int (iI tz), .ref aA, .int (iI dm), .ref aD, .ref aB, .ref aV, .ref aE])), (aK, .inl (cI, 120, .inl (fu K tn kd))), (aS, .inl (cI, 120, .inl (fu Ln tn sz))), (aC, .inl (cI, 4800, .inl C)), (aU, .inl (cI, 120, .inl (fu TL tn tz))), (aG, .inl (cI, 1920, .inl TG)), (aY, .inl (cI, 120, .inl (fu TY tn ty))), (aX, .inl (cI, 120, .inl (fu SC tn tr))), (aM, .inl (cI, 40, .inl MD)), (aA, .inl (cI, 16, .inl TA))] := xD
          refine lv_iconst (v := iI (0)) xe xb d_TripleLinesModel_note_106 rfl ?_
          refine lv_istore (lv' := [(4, .int (iI 0)), (3, .int (iI z_6)), (0, .ref mM), (1, .int (iI kd)), (2, .int (iI ty))]) xe xb d_TripleLinesModel_note_107 xl (by decide) rfl ?_
          clear xl
          intro ls xl
          have loop_109 : ∀ (n9 : Nat) (Cv : Nat → Int32) (i : Int), (sz - i).toNat < n9 → (0 ≤ i ∧ i ≤ sz) → (∀ j, 0 ≤ j → j < tn * 40 → tI Cv j = tI C j) → (∀ j, 0 ≤ j → j < i → tI Cv (tn * 40 + j) = tI MD j) → ∀ (H : Heap) (locs : List Loc), va_P D classes [(mM, .inr (6, [.int (iI tm), .ref aT, .int (iI om), .ref aO, .int (iI tn), .ref aK, .ref aS, .ref aC, .ref aU, .ref aG, .ref aY, .ref aX, .int (iI qn), .ref aP, .int (iI tr), .int (iI rg), .int (iI ll), .int (iI p), .int (iI f), .int (iI ov), .int (iI sz), .ref aM, .int (iI tz), .ref aA, .int (iI dm), .ref aD, .ref aB, .ref aV, .ref aE])), (aK, .inl (cI, 120, .inl (fu K tn kd))), (aS, .inl (cI, 120, .inl (fu Ln tn sz))), (aC, .inl (cI, 4800, .inl Cv)), (aU, .inl (cI, 120, .inl (fu TL tn tz))), (aG, .inl (cI, 1920, .inl TG)), (aY, .inl (cI, 120, .inl (fu TY tn ty))), (aX, .inl (cI, 120, .inl (fu SC tn tr))), (aM, .inl (cI, 40, .inl MD)), (aA, .inl (cI, 16, .inl TA))] H → va_D xA0 [(mM, .inr (6, [.int (iI tm), .ref aT, .int (iI om), .ref aO, .int (iI tn), .ref aK, .ref aS, .ref aC, .ref aU, .ref aG, .ref aY, .ref aX, .int (iI qn), .ref aP, .int (iI tr), .int (iI rg), .int (iI ll), .int (iI p), .int (iI f), .int (iI ov), .int (iI sz), .ref aM, .int (iI tz), .ref aA, .int (iI dm), .ref aD, .ref aB, .ref aV, .ref aE])), (aK, .inl (cI, 120, .inl (fu K tn kd))), (aS, .inl (cI, 120, .inl (fu Ln tn sz))), (aC, .inl (cI, 4800, .inl Cv)), (aU, .inl (cI, 120, .inl (fu TL tn tz))), (aG, .inl (cI, 1920, .inl TG)), (aY, .inl (cI, 120, .inl (fu TY tn ty))), (aX, .inl (cI, 120, .inl (fu SC tn tr))), (aM, .inl (cI, 40, .inl MD)), (aA, .inl (cI, 16, .inl TA))] → va_S xA0 xs.heap H locs → ∀ ls : Array Slot, lv_has ls 5 [(0, .ref mM), (4, .int (iI i))] → W xp l xe0 (tk_rm 1) xs xm xar xbelow xmeth xc H locs 0 0 xQ (F0 xm 109 ls []) := by
            intro n9
            induction n9 with
            | zero => intro Cv i h9; exact absurd h9 (Nat.not_lt_zero _)
            | succ n9 ih9 =>
              intro Cv i hm9 hi h1 h2 H locs xP xD xS ls xl
              have ih_109 := ih9
              have hm_109 := hm9
              refine lv_iload xe xb d_TripleLinesModel_note_109 (lv_at xl 1 rfl) ?_
              refine lv_aload_n xe xb d_TripleLinesModel_note_111 rfl (lv_at xl 0 rfl) ?_
              refine va_get (D := D) (ci := 6) (v := .int (iI sz)) (C := R_TripleLinesModel) (T := F_TripleLinesModel) (N := 29) xe xb xt i_TripleLinesModel xo xK xP 0 rfl rfl 20 (by decide) (xt _ mw_TripleLinesModel_129) (fun _ h9 => h9) rfl d_TripleLinesModel_note_112 ?_
              refine tk_icmp_ge (tgt := 146) xe xb d_TripleLinesModel_note_115 (by decide) (by omega) (fun c_9 => ?_) (fun c_9 => ?_)
              · refine lv_iconst (v := iI (0)) xe xb d_TripleLinesModel_note_146 rfl ?_
                refine lv_istore (lv' := [(4, .int (iI 0)), (0, .ref mM)]) xe xb d_TripleLinesModel_note_147 xl (by decide) rfl ?_
                clear xl
                intro ls xl
                have loop_149 : ∀ (n9 : Nat) (Cw : Nat → Int32) (Gv : Nat → Int32) (i : Int), (tz - i).toNat < n9 → (0 ≤ i ∧ i ≤ tz) → (∀ j, 0 ≤ j → j < tn * 40 → tI Cw j = tI C j) → (seg Cw (tn * 40) sz = lst (tI MD) sz) → (∀ j, 0 ≤ j → j < tn * 16 → tI Gv j = tI TG j) → (∀ j, 0 ≤ j → j < i → tI Gv (tn * 16 + j) = tI TA j) → ∀ (H : Heap) (locs : List Loc), va_P D classes [(mM, .inr (6, [.int (iI tm), .ref aT, .int (iI om), .ref aO, .int (iI tn), .ref aK, .ref aS, .ref aC, .ref aU, .ref aG, .ref aY, .ref aX, .int (iI qn), .ref aP, .int (iI tr), .int (iI rg), .int (iI ll), .int (iI p), .int (iI f), .int (iI ov), .int (iI sz), .ref aM, .int (iI tz), .ref aA, .int (iI dm), .ref aD, .ref aB, .ref aV, .ref aE])), (aK, .inl (cI, 120, .inl (fu K tn kd))), (aS, .inl (cI, 120, .inl (fu Ln tn sz))), (aC, .inl (cI, 4800, .inl Cw)), (aU, .inl (cI, 120, .inl (fu TL tn tz))), (aG, .inl (cI, 1920, .inl Gv)), (aY, .inl (cI, 120, .inl (fu TY tn ty))), (aX, .inl (cI, 120, .inl (fu SC tn tr))), (aM, .inl (cI, 40, .inl MD)), (aA, .inl (cI, 16, .inl TA))] H → va_D xA0 [(mM, .inr (6, [.int (iI tm), .ref aT, .int (iI om), .ref aO, .int (iI tn), .ref aK, .ref aS, .ref aC, .ref aU, .ref aG, .ref aY, .ref aX, .int (iI qn), .ref aP, .int (iI tr), .int (iI rg), .int (iI ll), .int (iI p), .int (iI f), .int (iI ov), .int (iI sz), .ref aM, .int (iI tz), .ref aA, .int (iI dm), .ref aD, .ref aB, .ref aV, .ref aE])), (aK, .inl (cI, 120, .inl (fu K tn kd))), (aS, .inl (cI, 120, .inl (fu Ln tn sz))), (aC, .inl (cI, 4800, .inl Cw)), (aU, .inl (cI, 120, .inl (fu TL tn tz))), (aG, .inl (cI, 1920, .inl Gv)), (aY, .inl (cI, 120, .inl (fu TY tn ty))), (aX, .inl (cI, 120, .inl (fu SC tn tr))), (aM, .inl (cI, 40, .inl MD)), (aA, .inl (cI, 16, .inl TA))] → va_S xA0 xs.heap H locs → ∀ ls : Array Slot, lv_has ls 5 [(0, .ref mM), (4, .int (iI i))] → W xp l xe0 (tk_rm 1) xs xm xar xbelow xmeth xc H locs 0 0 xQ (F0 xm 149 ls []) := by
                  intro n9
                  induction n9 with
                  | zero => intro Cw Gv i h9; exact absurd h9 (Nat.not_lt_zero _)
                  | succ n9 ih9 =>
                    intro Cw Gv i hm9 hi g1 g2 h1 h2 H locs xP xD xS ls xl
                    have ih_149 := ih9
                    have hm_149 := hm9
                    refine lv_iload xe xb d_TripleLinesModel_note_149 (lv_at xl 1 rfl) ?_
                    refine lv_aload_n xe xb d_TripleLinesModel_note_151 rfl (lv_at xl 0 rfl) ?_
                    refine va_get (D := D) (ci := 6) (v := .int (iI tz)) (C := R_TripleLinesModel) (T := F_TripleLinesModel) (N := 29) xe xb xt i_TripleLinesModel xo xK xP 0 rfl rfl 22 (by decide) (xt _ mw_TripleLinesModel_135) (fun _ h9 => h9) rfl d_TripleLinesModel_note_152 ?_
                    refine tk_icmp_ge (tgt := 186) xe xb d_TripleLinesModel_note_155 (by decide) (by omega) (fun c_10 => ?_) (fun c_10 => ?_)
                    · refine lv_aload_n xe xb d_TripleLinesModel_note_186 rfl (lv_at xl 0 rfl) ?_
                      refine lv_dup xe xb d_TripleLinesModel_note_187 rfl ?_
                      refine va_get (D := D) (ci := 6) (v := .int (iI tn)) (C := R_TripleLinesModel) (T := F_TripleLinesModel) (N := 29) xe xb xt i_TripleLinesModel xo xK xP 0 rfl rfl 4 (by decide) (xt _ mw_TripleLinesModel_132) (fun _ h9 => h9) rfl d_TripleLinesModel_note_188 ?_
                      refine lv_iconst (v := iI (1)) xe xb d_TripleLinesModel_note_191 rfl ?_
                      refine tk_iadd xe xb d_TripleLinesModel_note_192 ?_
                      refine va_put (D := D) (ci := 6) (v := .int (iI (tn + 1))) (ty := .int) (C := R_TripleLinesModel) (T := F_TripleLinesModel) (N := 29) xe xb xt i_TripleLinesModel t_TripleLinesModel t_TripleLinesModel_ok n_TripleLinesModel xo xK xP xD xS 0 rfl rfl 4 (by decide) (xt _ mw_TripleLinesModel_132) (fun _ h9 => h9) rfl (by decide +kernel) rfl rfl (Nat.le_of_ble_eq_true rfl) d_TripleLinesModel_note_193 ?_
                      clear xP xD xS
                      intro H locs xP xD xS
                      replace xP : va_P D classes [(mM, .inr (6, [.int (iI tm), .ref aT, .int (iI om), .ref aO, .int (iI (tn + 1)), .ref aK, .ref aS, .ref aC, .ref aU, .ref aG, .ref aY, .ref aX, .int (iI qn), .ref aP, .int (iI tr), .int (iI rg), .int (iI ll), .int (iI p), .int (iI f), .int (iI ov), .int (iI sz), .ref aM, .int (iI tz), .ref aA, .int (iI dm), .ref aD, .ref aB, .ref aV, .ref aE])), (aK, .inl (cI, 120, .inl (fu K tn kd))), (aS, .inl (cI, 120, .inl (fu Ln tn sz))), (aC, .inl (cI, 4800, .inl Cw)), (aU, .inl (cI, 120, .inl (fu TL tn tz))), (aG, .inl (cI, 1920, .inl Gv)), (aY, .inl (cI, 120, .inl (fu TY tn ty))), (aX, .inl (cI, 120, .inl (fu SC tn tr))), (aM, .inl (cI, 40, .inl MD)), (aA, .inl (cI, 16, .inl TA))] H := xP
                      replace xD : va_D xA0 [(mM, .inr (6, [.int (iI tm), .ref aT, .int (iI om), .ref aO, .int (iI (tn + 1)), .ref aK, .ref aS, .ref aC, .ref aU, .ref aG, .ref aY, .ref aX, .int (iI qn), .ref aP, .int (iI tr), .int (iI rg), .int (iI ll), .int (iI p), .int (iI f), .int (iI ov), .int (iI sz), .ref aM, .int (iI tz), .ref aA, .int (iI dm), .ref aD, .ref aB, .ref aV, .ref aE])), (aK, .inl (cI, 120, .inl (fu K tn kd))), (aS, .inl (cI, 120, .inl (fu Ln tn sz))), (aC, .inl (cI, 4800, .inl Cw)), (aU, .inl (cI, 120, .inl (fu TL tn tz))), (aG, .inl (cI, 1920, .inl Gv)), (aY, .inl (cI, 120, .inl (fu TY tn ty))), (aX, .inl (cI, 120, .inl (fu SC tn tr))), (aM, .inl (cI, 40, .inl MD)), (aA, .inl (cI, 16, .inl TA))] := xD
                      refine lv_aload_n xe xb d_TripleLinesModel_note_196 rfl (lv_at xl 0 rfl) ?_
                      refine va_get (D := D) (ci := 6) (v := .int (iI (tn + 1))) (C := R_TripleLinesModel) (T := F_TripleLinesModel) (N := 29) xe xb xt i_TripleLinesModel xo xK xP 0 rfl rfl 4 (by decide) (xt _ mw_TripleLinesModel_132) (fun _ h9 => h9) rfl d_TripleLinesModel_note_197 ?_
                      refine lv_iconst (v := iI (1)) xe xb d_TripleLinesModel_note_200 rfl ?_
                      refine tk_isub xe xb d_TripleLinesModel_note_201 ?_
                      exact xret _ _ _ _ ((tn + 1) - 1) ((tn + 1), ov, (fu K tn kd), (fu Ln tn sz), Cw, (fu TL tn tz), Gv, (fu TY tn ty), (fu SC tn tr)) d_TripleLinesModel_note_202 trivial (by omega) (by first | exact (by have h9 := tmAt_push (K := K) (C := C) (TG := TG) (TY := TY) (nx := sz) (ng := tz) (k := kd) (ty := ty) hs (by omega) hk hy hsz htz g1 h1 g2 (lst_ext (fun j j0 j1 => h2 j j0 (by omega))); have h8 := idxF_rg ((lst (tmAt K Ln C TL TG TY) tn).drop a.toNat) (kd, lst (tI MD) sz, lst (tI TA) tz, ty) a (by omega); refine ⟨h9.1, scO_push (by omega) (by omega) htr hsc, Or.inl ⟨Hg, by omega, Or.inr (Or.inr ?_)⟩⟩; rw [← HT] at h8 ⊢; exact ⟨by omega, by omega, by omega, h9.2, by omega⟩) | (dsimp only; exact (by have h9 := tmAt_push (K := K) (C := C) (TG := TG) (TY := TY) (nx := sz) (ng := tz) (k := kd) (ty := ty) hs (by omega) hk hy hsz htz g1 h1 g2 (lst_ext (fun j j0 j1 => h2 j j0 (by omega))); have h8 := idxF_rg ((lst (tmAt K Ln C TL TG TY) tn).drop a.toNat) (kd, lst (tI MD) sz, lst (tI TA) tz, ty) a (by omega); refine ⟨h9.1, scO_push (by omega) (by omega) htr hsc, Or.inl ⟨Hg, by omega, Or.inr (Or.inr ?_)⟩⟩; rw [← HT] at h8 ⊢; exact ⟨by omega, by omega, by omega, h9.2, by omega⟩))) xP xD xS
                    · refine lv_aload_n xe xb d_TripleLinesModel_note_158 rfl (lv_at xl 0 rfl) ?_
                      refine va_get (D := D) (ci := 6) (v := .ref aG) (C := R_TripleLinesModel) (T := F_TripleLinesModel) (N := 29) xe xb xt i_TripleLinesModel xo xK xP 0 rfl rfl 9 (by decide) (xt _ mw_TripleLinesModel_28) (fun _ h9 => h9) rfl d_TripleLinesModel_note_159 ?_
                      refine lv_bipush (v := iI (16)) xe xb d_TripleLinesModel_note_162 (by decide) ?_
                      refine lv_aload_n xe xb d_TripleLinesModel_note_164 rfl (lv_at xl 0 rfl) ?_
                      refine va_get (D := D) (ci := 6) (v := .int (iI tn)) (C := R_TripleLinesModel) (T := F_TripleLinesModel) (N := 29) xe xb xt i_TripleLinesModel xo xK xP 0 rfl rfl 4 (by decide) (xt _ mw_TripleLinesModel_132) (fun _ h9 => h9) rfl d_TripleLinesModel_note_165 ?_
                      refine tk_imul xe xb d_TripleLinesModel_note_168 ?_
                      refine lv_iload xe xb d_TripleLinesModel_note_169 (lv_at xl 1 rfl) ?_
                      refine tk_iadd xe xb d_TripleLinesModel_note_171 ?_
                      refine lv_aload_n xe xb d_TripleLinesModel_note_172 rfl (lv_at xl 0 rfl) ?_
                      refine va_get (D := D) (ci := 6) (v := .ref aA) (C := R_TripleLinesModel) (T := F_TripleLinesModel) (N := 29) xe xb xt i_TripleLinesModel xo xK xP 0 rfl rfl 23 (by decide) (xt _ mw_TripleLinesModel_43) (fun _ h9 => h9) rfl d_TripleLinesModel_note_173 ?_
                      refine lv_iload xe xb d_TripleLinesModel_note_176 (lv_at xl 1 rfl) ?_
                      refine tk_iald xe xb xK xP 9 0 rfl rfl (by omega) d_TripleLinesModel_note_178 ?_
                      have hr_11 := tI_rg TA i
                      refine tk_iast xe xb xK xP xD xS 5 0 rfl rfl (by omega) d_TripleLinesModel_note_179 ?_
                      clear xP xD xS
                      intro H locs xP xD xS
                      replace xP : va_P D classes [(mM, .inr (6, [.int (iI tm), .ref aT, .int (iI om), .ref aO, .int (iI tn), .ref aK, .ref aS, .ref aC, .ref aU, .ref aG, .ref aY, .ref aX, .int (iI qn), .ref aP, .int (iI tr), .int (iI rg), .int (iI ll), .int (iI p), .int (iI f), .int (iI ov), .int (iI sz), .ref aM, .int (iI tz), .ref aA, .int (iI dm), .ref aD, .ref aB, .ref aV, .ref aE])), (aK, .inl (cI, 120, .inl (fu K tn kd))), (aS, .inl (cI, 120, .inl (fu Ln tn sz))), (aC, .inl (cI, 4800, .inl Cw)), (aU, .inl (cI, 120, .inl (fu TL tn tz))), (aG, .inl (cI, 1920, .inl (fu Gv ((16 * tn) + i) (tI TA i)))), (aY, .inl (cI, 120, .inl (fu TY tn ty))), (aX, .inl (cI, 120, .inl (fu SC tn tr))), (aM, .inl (cI, 40, .inl MD)), (aA, .inl (cI, 16, .inl TA))] H := xP
                      replace xD : va_D xA0 [(mM, .inr (6, [.int (iI tm), .ref aT, .int (iI om), .ref aO, .int (iI tn), .ref aK, .ref aS, .ref aC, .ref aU, .ref aG, .ref aY, .ref aX, .int (iI qn), .ref aP, .int (iI tr), .int (iI rg), .int (iI ll), .int (iI p), .int (iI f), .int (iI ov), .int (iI sz), .ref aM, .int (iI tz), .ref aA, .int (iI dm), .ref aD, .ref aB, .ref aV, .ref aE])), (aK, .inl (cI, 120, .inl (fu K tn kd))), (aS, .inl (cI, 120, .inl (fu Ln tn sz))), (aC, .inl (cI, 4800, .inl Cw)), (aU, .inl (cI, 120, .inl (fu TL tn tz))), (aG, .inl (cI, 1920, .inl (fu Gv ((16 * tn) + i) (tI TA i)))), (aY, .inl (cI, 120, .inl (fu TY tn ty))), (aX, .inl (cI, 120, .inl (fu SC tn tr))), (aM, .inl (cI, 40, .inl MD)), (aA, .inl (cI, 16, .inl TA))] := xD
                      refine tk_iinc (v := (i + 1)) (lv' := [(4, .int (iI (i + 1))), (0, .ref mM)]) xe xb d_TripleLinesModel_note_180 xl (k := 1) rfl rfl (by decide) rfl ?_
                      clear xl
                      intro ls xl
                      refine lv_goto (tgt := 149) xe xb d_TripleLinesModel_note_183 (by decide) ?_
                      exact ih_149 Cw (fu Gv ((16 * tn) + i) (tI TA i)) (i + 1) (by omega) (by first | assumption | omega) g1 g2 (fun j j0 j1 => by rw [fu_ne (by omega) j0 (by omega)]; exact h1 j j0 j1) (fun j j0 j1 => by (rcases (show j < i ∨ j = i by omega) with h9 | h9; (rw [fu_ne (by omega) (by omega) (by omega)]; exact h2 j j0 h9); (rw [h9, Int.mul_comm tn 16]; exact fu_eq (tI_rg _ _)))) _ _ xP xD xS ls (lv_sub xl [1, 0] rfl)
                exact loop_149 _ Cv TG 0 (Nat.lt_succ_self _) (by first | assumption | omega) h1 (lst_ext (fun j j0 j1 => h2 j j0 (by omega))) (fun j _ _ => rfl) (fun j h0 h1 => by omega) _ _ xP xD xS ls (lv_sub xl [1, 0] rfl)
              · refine lv_aload_n xe xb d_TripleLinesModel_note_118 rfl (lv_at xl 0 rfl) ?_
                refine va_get (D := D) (ci := 6) (v := .ref aC) (C := R_TripleLinesModel) (T := F_TripleLinesModel) (N := 29) xe xb xt i_TripleLinesModel xo xK xP 0 rfl rfl 7 (by decide) (xt _ mw_TripleLinesModel_22) (fun _ h9 => h9) rfl d_TripleLinesModel_note_119 ?_
                refine lv_bipush (v := iI (40)) xe xb d_TripleLinesModel_note_122 (by decide) ?_
                refine lv_aload_n xe xb d_TripleLinesModel_note_124 rfl (lv_at xl 0 rfl) ?_
                refine va_get (D := D) (ci := 6) (v := .int (iI tn)) (C := R_TripleLinesModel) (T := F_TripleLinesModel) (N := 29) xe xb xt i_TripleLinesModel xo xK xP 0 rfl rfl 4 (by decide) (xt _ mw_TripleLinesModel_132) (fun _ h9 => h9) rfl d_TripleLinesModel_note_125 ?_
                refine tk_imul xe xb d_TripleLinesModel_note_128 ?_
                refine lv_iload xe xb d_TripleLinesModel_note_129 (lv_at xl 1 rfl) ?_
                refine tk_iadd xe xb d_TripleLinesModel_note_131 ?_
                refine lv_aload_n xe xb d_TripleLinesModel_note_132 rfl (lv_at xl 0 rfl) ?_
                refine va_get (D := D) (ci := 6) (v := .ref aM) (C := R_TripleLinesModel) (T := F_TripleLinesModel) (N := 29) xe xb xt i_TripleLinesModel xo xK xP 0 rfl rfl 21 (by decide) (xt _ mw_TripleLinesModel_40) (fun _ h9 => h9) rfl d_TripleLinesModel_note_133 ?_
                refine lv_iload xe xb d_TripleLinesModel_note_136 (lv_at xl 1 rfl) ?_
                refine tk_iald xe xb xK xP 8 0 rfl rfl (by omega) d_TripleLinesModel_note_138 ?_
                have hr_12 := tI_rg MD i
                refine tk_iast xe xb xK xP xD xS 3 0 rfl rfl (by omega) d_TripleLinesModel_note_139 ?_
                clear xP xD xS
                intro H locs xP xD xS
                replace xP : va_P D classes [(mM, .inr (6, [.int (iI tm), .ref aT, .int (iI om), .ref aO, .int (iI tn), .ref aK, .ref aS, .ref aC, .ref aU, .ref aG, .ref aY, .ref aX, .int (iI qn), .ref aP, .int (iI tr), .int (iI rg), .int (iI ll), .int (iI p), .int (iI f), .int (iI ov), .int (iI sz), .ref aM, .int (iI tz), .ref aA, .int (iI dm), .ref aD, .ref aB, .ref aV, .ref aE])), (aK, .inl (cI, 120, .inl (fu K tn kd))), (aS, .inl (cI, 120, .inl (fu Ln tn sz))), (aC, .inl (cI, 4800, .inl (fu Cv ((40 * tn) + i) (tI MD i)))), (aU, .inl (cI, 120, .inl (fu TL tn tz))), (aG, .inl (cI, 1920, .inl TG)), (aY, .inl (cI, 120, .inl (fu TY tn ty))), (aX, .inl (cI, 120, .inl (fu SC tn tr))), (aM, .inl (cI, 40, .inl MD)), (aA, .inl (cI, 16, .inl TA))] H := xP
                replace xD : va_D xA0 [(mM, .inr (6, [.int (iI tm), .ref aT, .int (iI om), .ref aO, .int (iI tn), .ref aK, .ref aS, .ref aC, .ref aU, .ref aG, .ref aY, .ref aX, .int (iI qn), .ref aP, .int (iI tr), .int (iI rg), .int (iI ll), .int (iI p), .int (iI f), .int (iI ov), .int (iI sz), .ref aM, .int (iI tz), .ref aA, .int (iI dm), .ref aD, .ref aB, .ref aV, .ref aE])), (aK, .inl (cI, 120, .inl (fu K tn kd))), (aS, .inl (cI, 120, .inl (fu Ln tn sz))), (aC, .inl (cI, 4800, .inl (fu Cv ((40 * tn) + i) (tI MD i)))), (aU, .inl (cI, 120, .inl (fu TL tn tz))), (aG, .inl (cI, 1920, .inl TG)), (aY, .inl (cI, 120, .inl (fu TY tn ty))), (aX, .inl (cI, 120, .inl (fu SC tn tr))), (aM, .inl (cI, 40, .inl MD)), (aA, .inl (cI, 16, .inl TA))] := xD
                refine tk_iinc (v := (i + 1)) (lv' := [(4, .int (iI (i + 1))), (0, .ref mM)]) xe xb d_TripleLinesModel_note_140 xl (k := 1) rfl rfl (by decide) rfl ?_
                clear xl
                intro ls xl
                refine lv_goto (tgt := 109) xe xb d_TripleLinesModel_note_143 (by decide) ?_
                exact ih_109 (fu Cv ((40 * tn) + i) (tI MD i)) (i + 1) (by omega) (by first | assumption | omega) (fun j j0 j1 => by rw [fu_ne (by omega) j0 (by omega)]; exact h1 j j0 j1) (fun j j0 j1 => by (rcases (show j < i ∨ j = i by omega) with h9 | h9; (rw [fu_ne (by omega) (by omega) (by omega)]; exact h2 j j0 h9); (rw [h9, Int.mul_comm tn 40]; exact fu_eq (tI_rg _ _)))) _ _ xP xD xS ls (lv_sub xl [1, 0] rfl)
          exact loop_109 _ C 0 (Nat.lt_succ_self _) (by first | assumption | omega) (fun j _ _ => rfl) (fun j h0 h1 => by omega) _ _ xP xD xS ls (lv_sub xl [2, 0] rfl)
        · refine lv_aload_n xe xb d_TripleLinesModel_note_40 rfl (lv_at xl 1 rfl) ?_
          refine lv_iconst (v := iI (1)) xe xb d_TripleLinesModel_note_41 rfl ?_
          refine va_put (D := D) (ci := 6) (v := .int (iI 1)) (ty := .boolean) (C := R_TripleLinesModel) (T := F_TripleLinesModel) (N := 29) xe xb xt i_TripleLinesModel t_TripleLinesModel t_TripleLinesModel_ok n_TripleLinesModel xo xK xP xD xS 0 rfl rfl 19 (by decide) (xt _ mw_TripleLinesModel_141) (fun _ h9 => h9) rfl (by decide +kernel) (by decide) (by decide) (Nat.le_of_ble_eq_true rfl) d_TripleLinesModel_note_42 ?_
          clear xP xD xS
          intro H locs xP xD xS
          replace xP : va_P D classes [(mM, .inr (6, [.int (iI tm), .ref aT, .int (iI om), .ref aO, .int (iI tn), .ref aK, .ref aS, .ref aC, .ref aU, .ref aG, .ref aY, .ref aX, .int (iI qn), .ref aP, .int (iI tr), .int (iI rg), .int (iI ll), .int (iI p), .int (iI f), .int (iI 1), .int (iI sz), .ref aM, .int (iI tz), .ref aA, .int (iI dm), .ref aD, .ref aB, .ref aV, .ref aE])), (aK, .inl (cI, 120, .inl K)), (aS, .inl (cI, 120, .inl Ln)), (aC, .inl (cI, 4800, .inl C)), (aU, .inl (cI, 120, .inl TL)), (aG, .inl (cI, 1920, .inl TG)), (aY, .inl (cI, 120, .inl TY)), (aX, .inl (cI, 120, .inl SC)), (aM, .inl (cI, 40, .inl MD)), (aA, .inl (cI, 16, .inl TA))] H := xP
          replace xD : va_D xA0 [(mM, .inr (6, [.int (iI tm), .ref aT, .int (iI om), .ref aO, .int (iI tn), .ref aK, .ref aS, .ref aC, .ref aU, .ref aG, .ref aY, .ref aX, .int (iI qn), .ref aP, .int (iI tr), .int (iI rg), .int (iI ll), .int (iI p), .int (iI f), .int (iI 1), .int (iI sz), .ref aM, .int (iI tz), .ref aA, .int (iI dm), .ref aD, .ref aB, .ref aV, .ref aE])), (aK, .inl (cI, 120, .inl K)), (aS, .inl (cI, 120, .inl Ln)), (aC, .inl (cI, 4800, .inl C)), (aU, .inl (cI, 120, .inl TL)), (aG, .inl (cI, 1920, .inl TG)), (aY, .inl (cI, 120, .inl TY)), (aX, .inl (cI, 120, .inl SC)), (aM, .inl (cI, 40, .inl MD)), (aA, .inl (cI, 16, .inl TA))] := xD
          refine lv_iconst (v := iI (0)) xe xb d_TripleLinesModel_note_45 rfl ?_
          exact xret _ _ _ _ 0 (tn, 1, K, Ln, C, TL, TG, TY, SC) d_TripleLinesModel_note_46 trivial (by omega) (by first | exact (⟨hs, hsc, Or.inl ⟨Hg, by omega, Or.inr (Or.inl (by have h9 := idxF_rg ((lst (tmAt K Ln C TL TG TY) tn).drop a.toNat) (kd, lst (tI MD) sz, lst (tI TA) tz, ty) a (by omega); rw [← HT] at h9 ⊢; exact ⟨by omega, by omega, rfl, rfl, rfl⟩))⟩⟩) | (dsimp only; exact (⟨hs, hsc, Or.inl ⟨Hg, by omega, Or.inr (Or.inl (by have h9 := idxF_rg ((lst (tmAt K Ln C TL TG TY) tn).drop a.toNat) (kd, lst (tI MD) sz, lst (tI TA) tz, ty) a (by omega); rw [← HT] at h9 ⊢; exact ⟨by omega, by omega, rfl, rfl, rfl⟩))⟩⟩))) xP xD xS
      · refine lv_iload_n xe xb d_TripleLinesModel_note_29 rfl (lv_at xl 0 rfl) ?_
        exact xret _ _ _ _ z_6 (tn, ov, K, Ln, C, TL, TG, TY, SC) d_TripleLinesModel_note_30 trivial (by omega) (by first | exact (⟨hs, hsc, Or.inl ⟨Hg, by omega, Or.inl (by rw [← HT]; exact ⟨by omega, rfl, rfl, by omega⟩)⟩⟩) | (dsimp only; exact (⟨hs, hsc, Or.inl ⟨Hg, by omega, Or.inl (by rw [← HT]; exact ⟨by omega, rfl, rfl, by omega⟩)⟩⟩))) xP xD xS
  · refine tk_if_eq (tgt := 23) xe xb d_TripleLinesModel_note_4 (by decide) (by omega) (fun c_13 => ?_) (fun c_13 => absurd c_13 (by omega))
    refine lv_iconst (v := iI (0)) xe xb d_TripleLinesModel_note_23 rfl ?_
    refine lv_istore_n (lv' := [(3, .int (iI 0)), (0, .ref mM), (1, .int (iI kd)), (2, .int (iI ty))]) xe xb d_TripleLinesModel_note_24 rfl xl (by decide) rfl ?_
    clear xl
    intro ls xl
    refine lv_iload_n xe xb d_TripleLinesModel_note_25 rfl (lv_at xl 0 rfl) ?_
    refine tk_if_lt (tgt := 31) xe xb d_TripleLinesModel_note_26 (by decide) (by omega) (fun C26 => absurd C26 (by omega)) (fun C26 => ?_)
    refine lv_iload_n xe xb d_TripleLinesModel_note_29 rfl (lv_at xl 0 rfl) ?_
    exact xret _ _ _ _ 0 (tn, ov, K, Ln, C, TL, TG, TY, SC) d_TripleLinesModel_note_30 trivial (by omega) (by first | exact (⟨hs, hsc, Or.inr ⟨by omega, rfl, rfl, rfl⟩⟩) | (dsimp only; exact (⟨hs, hsc, Or.inr ⟨by omega, rfl, rfl, rfl⟩⟩))) xP xD xS
