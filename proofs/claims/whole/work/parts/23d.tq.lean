theorem d_Quads_indexOf_0 : decode b_Quads_indexOf 0 = .ok (.iconst 0, 1) := by decide +kernel
theorem d_Quads_indexOf_1 : decode b_Quads_indexOf 1 = .ok (.istore 5, 2) := by decide +kernel
theorem d_Quads_indexOf_3 : decode b_Quads_indexOf 3 = .ok (.iload 5, 2) := by decide +kernel
theorem d_Quads_indexOf_5 : decode b_Quads_indexOf 5 = .ok (.aload_n 0, 1) := by decide +kernel
theorem d_Quads_indexOf_6 : decode b_Quads_indexOf 6 = .ok (.getfield 15, 3) := by decide +kernel
theorem d_Quads_indexOf_9 : decode b_Quads_indexOf 9 = .ok (.if_icmp .ge 57, 3) := by decide +kernel
theorem d_Quads_indexOf_12 : decode b_Quads_indexOf 12 = .ok (.aload_n 0, 1) := by decide +kernel
theorem d_Quads_indexOf_13 : decode b_Quads_indexOf 13 = .ok (.iload 5, 2) := by decide +kernel
theorem d_Quads_indexOf_15 : decode b_Quads_indexOf 15 = .ok (.iconst 0, 1) := by decide +kernel
theorem d_Quads_indexOf_16 : decode b_Quads_indexOf 16 = .ok (.invokevirtual 27, 3) := by decide +kernel
theorem d_Quads_indexOf_19 : decode b_Quads_indexOf 19 = .ok (.iload_n 1, 1) := by decide +kernel
theorem d_Quads_indexOf_20 : decode b_Quads_indexOf 20 = .ok (.if_icmp .ne 40, 3) := by decide +kernel
theorem d_Quads_indexOf_23 : decode b_Quads_indexOf 23 = .ok (.aload_n 0, 1) := by decide +kernel
theorem d_Quads_indexOf_24 : decode b_Quads_indexOf 24 = .ok (.iload 5, 2) := by decide +kernel
theorem d_Quads_indexOf_26 : decode b_Quads_indexOf 26 = .ok (.iconst 1, 1) := by decide +kernel
theorem d_Quads_indexOf_27 : decode b_Quads_indexOf 27 = .ok (.invokevirtual 27, 3) := by decide +kernel
theorem d_Quads_indexOf_30 : decode b_Quads_indexOf 30 = .ok (.iload_n 2, 1) := by decide +kernel
theorem d_Quads_indexOf_31 : decode b_Quads_indexOf 31 = .ok (.if_icmp .ne 29, 3) := by decide +kernel
theorem d_Quads_indexOf_34 : decode b_Quads_indexOf 34 = .ok (.aload_n 0, 1) := by decide +kernel
theorem d_Quads_indexOf_35 : decode b_Quads_indexOf 35 = .ok (.iload 5, 2) := by decide +kernel
theorem d_Quads_indexOf_37 : decode b_Quads_indexOf 37 = .ok (.iconst 2, 1) := by decide +kernel
theorem d_Quads_indexOf_38 : decode b_Quads_indexOf 38 = .ok (.invokevirtual 27, 3) := by decide +kernel
theorem d_Quads_indexOf_41 : decode b_Quads_indexOf 41 = .ok (.iload_n 3, 1) := by decide +kernel
theorem d_Quads_indexOf_42 : decode b_Quads_indexOf 42 = .ok (.if_icmp .ne 18, 3) := by decide +kernel
theorem d_Quads_indexOf_45 : decode b_Quads_indexOf 45 = .ok (.aload_n 0, 1) := by decide +kernel
theorem d_Quads_indexOf_46 : decode b_Quads_indexOf 46 = .ok (.iload 5, 2) := by decide +kernel
theorem d_Quads_indexOf_48 : decode b_Quads_indexOf 48 = .ok (.iconst 3, 1) := by decide +kernel
theorem d_Quads_indexOf_49 : decode b_Quads_indexOf 49 = .ok (.invokevirtual 27, 3) := by decide +kernel
theorem d_Quads_indexOf_52 : decode b_Quads_indexOf 52 = .ok (.iload 4, 2) := by decide +kernel
theorem d_Quads_indexOf_54 : decode b_Quads_indexOf 54 = .ok (.if_icmp .ne 6, 3) := by decide +kernel
theorem d_Quads_indexOf_57 : decode b_Quads_indexOf 57 = .ok (.iload 5, 2) := by decide +kernel
theorem d_Quads_indexOf_59 : decode b_Quads_indexOf 59 = .ok (.ireturn, 1) := by decide +kernel
theorem d_Quads_indexOf_60 : decode b_Quads_indexOf 60 = .ok (.iinc 5 1, 3) := by decide +kernel
theorem d_Quads_indexOf_63 : decode b_Quads_indexOf 63 = .ok (.goto (-60), 3) := by decide +kernel
theorem d_Quads_indexOf_66 : decode b_Quads_indexOf 66 = .ok (.iconst (-1), 1) := by decide +kernel
theorem d_Quads_indexOf_67 : decode b_Quads_indexOf 67 = .ok (.ireturn, 1) := by decide +kernel
theorem d_Quads_addNew_0 : decode b_Quads_addNew 0 = .ok (.aload_n 0, 1) := by decide +kernel
theorem d_Quads_addNew_1 : decode b_Quads_addNew 1 = .ok (.iload_n 1, 1) := by decide +kernel
theorem d_Quads_addNew_2 : decode b_Quads_addNew 2 = .ok (.iload_n 2, 1) := by decide +kernel
theorem d_Quads_addNew_3 : decode b_Quads_addNew 3 = .ok (.iload_n 3, 1) := by decide +kernel
theorem d_Quads_addNew_4 : decode b_Quads_addNew 4 = .ok (.iload 4, 2) := by decide +kernel
theorem d_Quads_addNew_6 : decode b_Quads_addNew 6 = .ok (.invokevirtual 31, 3) := by decide +kernel
theorem d_Quads_addNew_9 : decode b_Quads_addNew 9 = .ok (.iconst (-1), 1) := by decide +kernel
theorem d_Quads_addNew_10 : decode b_Quads_addNew 10 = .ok (.if_icmp .eq 4, 3) := by decide +kernel
theorem d_Quads_addNew_13 : decode b_Quads_addNew 13 = .ok (.return_, 1) := by decide +kernel
theorem d_Quads_addNew_14 : decode b_Quads_addNew 14 = .ok (.aload_n 0, 1) := by decide +kernel
theorem d_Quads_addNew_15 : decode b_Quads_addNew 15 = .ok (.getfield 15, 3) := by decide +kernel
theorem d_Quads_addNew_18 : decode b_Quads_addNew 18 = .ok (.ifCond .lt 12, 3) := by decide +kernel
theorem d_Quads_addNew_21 : decode b_Quads_addNew 21 = .ok (.aload_n 0, 1) := by decide +kernel
theorem d_Quads_addNew_22 : decode b_Quads_addNew 22 = .ok (.getfield 15, 3) := by decide +kernel
theorem d_Quads_addNew_25 : decode b_Quads_addNew 25 = .ok (.bipush 80, 2) := by decide +kernel
theorem d_Quads_addNew_27 : decode b_Quads_addNew 27 = .ok (.if_icmp .lt 9, 3) := by decide +kernel
theorem d_Quads_addNew_30 : decode b_Quads_addNew 30 = .ok (.aload_n 0, 1) := by decide +kernel
theorem d_Quads_addNew_31 : decode b_Quads_addNew 31 = .ok (.iconst 1, 1) := by decide +kernel
theorem d_Quads_addNew_32 : decode b_Quads_addNew 32 = .ok (.putfield 19, 3) := by decide +kernel
theorem d_Quads_addNew_35 : decode b_Quads_addNew 35 = .ok (.return_, 1) := by decide +kernel
theorem d_Quads_addNew_36 : decode b_Quads_addNew 36 = .ok (.aload_n 0, 1) := by decide +kernel
theorem d_Quads_addNew_37 : decode b_Quads_addNew 37 = .ok (.getfield 15, 3) := by decide +kernel
theorem d_Quads_addNew_40 : decode b_Quads_addNew 40 = .ok (.iconst 4, 1) := by decide +kernel
theorem d_Quads_addNew_41 : decode b_Quads_addNew 41 = .ok (.imul, 1) := by decide +kernel
theorem d_Quads_addNew_42 : decode b_Quads_addNew 42 = .ok (.istore 5, 2) := by decide +kernel
theorem d_Quads_addNew_44 : decode b_Quads_addNew 44 = .ok (.aload_n 0, 1) := by decide +kernel
theorem d_Quads_addNew_45 : decode b_Quads_addNew 45 = .ok (.getfield 9, 3) := by decide +kernel
theorem d_Quads_addNew_48 : decode b_Quads_addNew 48 = .ok (.iload 5, 2) := by decide +kernel
theorem d_Quads_addNew_50 : decode b_Quads_addNew 50 = .ok (.iload_n 1, 1) := by decide +kernel
theorem d_Quads_addNew_51 : decode b_Quads_addNew 51 = .ok (.iastore, 1) := by decide +kernel
theorem d_Quads_addNew_52 : decode b_Quads_addNew 52 = .ok (.aload_n 0, 1) := by decide +kernel
theorem d_Quads_addNew_53 : decode b_Quads_addNew 53 = .ok (.getfield 9, 3) := by decide +kernel
theorem d_Quads_addNew_56 : decode b_Quads_addNew 56 = .ok (.iload 5, 2) := by decide +kernel
theorem d_Quads_addNew_58 : decode b_Quads_addNew 58 = .ok (.iconst 1, 1) := by decide +kernel
theorem d_Quads_addNew_59 : decode b_Quads_addNew 59 = .ok (.iadd, 1) := by decide +kernel
theorem d_Quads_addNew_60 : decode b_Quads_addNew 60 = .ok (.iload_n 2, 1) := by decide +kernel
theorem d_Quads_addNew_61 : decode b_Quads_addNew 61 = .ok (.iastore, 1) := by decide +kernel
theorem d_Quads_addNew_62 : decode b_Quads_addNew 62 = .ok (.aload_n 0, 1) := by decide +kernel
theorem d_Quads_addNew_63 : decode b_Quads_addNew 63 = .ok (.getfield 9, 3) := by decide +kernel
theorem d_Quads_addNew_66 : decode b_Quads_addNew 66 = .ok (.iload 5, 2) := by decide +kernel
theorem d_Quads_addNew_68 : decode b_Quads_addNew 68 = .ok (.iconst 2, 1) := by decide +kernel
theorem d_Quads_addNew_69 : decode b_Quads_addNew 69 = .ok (.iadd, 1) := by decide +kernel
theorem d_Quads_addNew_70 : decode b_Quads_addNew 70 = .ok (.iload_n 3, 1) := by decide +kernel
theorem d_Quads_addNew_71 : decode b_Quads_addNew 71 = .ok (.iastore, 1) := by decide +kernel
theorem d_Quads_addNew_72 : decode b_Quads_addNew 72 = .ok (.aload_n 0, 1) := by decide +kernel
theorem d_Quads_addNew_73 : decode b_Quads_addNew 73 = .ok (.getfield 9, 3) := by decide +kernel
theorem d_Quads_addNew_76 : decode b_Quads_addNew 76 = .ok (.iload 5, 2) := by decide +kernel
theorem d_Quads_addNew_78 : decode b_Quads_addNew 78 = .ok (.iconst 3, 1) := by decide +kernel
theorem d_Quads_addNew_79 : decode b_Quads_addNew 79 = .ok (.iadd, 1) := by decide +kernel
theorem d_Quads_addNew_80 : decode b_Quads_addNew 80 = .ok (.iload 4, 2) := by decide +kernel
theorem d_Quads_addNew_82 : decode b_Quads_addNew 82 = .ok (.iastore, 1) := by decide +kernel
theorem d_Quads_addNew_83 : decode b_Quads_addNew 83 = .ok (.aload_n 0, 1) := by decide +kernel
theorem d_Quads_addNew_84 : decode b_Quads_addNew 84 = .ok (.dup, 1) := by decide +kernel
theorem d_Quads_addNew_85 : decode b_Quads_addNew 85 = .ok (.getfield 15, 3) := by decide +kernel
theorem d_Quads_addNew_88 : decode b_Quads_addNew 88 = .ok (.iconst 1, 1) := by decide +kernel
theorem d_Quads_addNew_89 : decode b_Quads_addNew 89 = .ok (.iadd, 1) := by decide +kernel
theorem d_Quads_addNew_90 : decode b_Quads_addNew 90 = .ok (.putfield 15, 3) := by decide +kernel
theorem d_Quads_addNew_93 : decode b_Quads_addNew 93 = .ok (.return_, 1) := by decide +kernel
set_option maxHeartbeats 4000000 in
set_option maxRecDepth 100000 in
theorem c_Quads_indexOf (l : Launch) (D : va_G) (cI : ClassId) (hQ : Nat) (qp : Nat) (P : Nat → Int32) (qz : Int) (qf : Int) (a : Int) (b : Int) (c : Int) (d : Int) (hz : 0 ≤ qz ∧ qz ≤ 80) (ha : -2147483648 ≤ a ∧ a < 2147483648) (hb0 : -2147483648 ≤ b ∧ b < 2147483648) (hc : -2147483648 ≤ c ∧ c < 2147483648) (hd : -2147483648 ≤ d ∧ d < 2147483648) : CtI l D [(cI, .int)] y_Quads_indexOf b_Quads_indexOf 6 (some .int) 2 [.ref hQ, .int (iI a), .int (iI b), .int (iI c), .int (iI d)] [(hQ, .inr (2, [.ref qp, .int (iI qz), .int (iI qf)])), (qp, .inl (cI, 320, .inl P))] (S := Unit) (fun z u => z = idxF (lst (qdAt P) qz) 0 (a, b, c, d)) (fun u => [(hQ, .inr (2, [.ref qp, .int (iI qz), .int (iI qf)])), (qp, .inl (cI, 320, .inl P))]) := by
  refine CtI.walk (fun _ => True) (fun z _ => vp_nar_int _) (by decide) (Nat.le_of_ble_eq_true rfl) ?_
  intro xp xe0 xs xm xar xbelow xmeth xc xA0 xQ xe xb xml xo xt xP xK xD xA xret ls xl xS
  have xl : lv_has ls 6 [(0, .ref hQ), (1, .int (iI a)), (2, .int (iI b)), (3, .int (iI c)), (4, .int (iI d))] := xl
  have xo : xs.vm.findClass R_Quads = some xm.cls := xo
  refine lv_iconst (v := iI (0)) xe xb d_Quads_indexOf_0 rfl ?_
  refine lv_istore (lv' := [(5, .int (iI 0)), (0, .ref hQ), (1, .int (iI a)), (2, .int (iI b)), (3, .int (iI c)), (4, .int (iI d))]) xe xb d_Quads_indexOf_1 xl (by decide) rfl (fun ls xl => ?_)
  have loop_3 : ∀ (n9 : Nat) (i : Int), (qz - i).toNat < n9 → (0 ≤ i ∧ i ≤ qz) → (idxF ((lst (qdAt P) qz).drop i.toNat) i (a, b, c, d) = idxF (lst (qdAt P) qz) 0 (a, b, c, d)) → ∀ (H : Heap) (locs : List Loc), va_P D classes [(hQ, .inr (2, [.ref qp, .int (iI qz), .int (iI qf)])), (qp, .inl (cI, 320, .inl P))] H → va_D xA0 [(hQ, .inr (2, [.ref qp, .int (iI qz), .int (iI qf)])), (qp, .inl (cI, 320, .inl P))] → va_S xA0 xs.heap H locs → ∀ ls : Array Slot, lv_has ls 6 [(0, .ref hQ), (1, .int (iI a)), (2, .int (iI b)), (3, .int (iI c)), (4, .int (iI d)), (5, .int (iI i))] → W xp l xe0 (tk_rm 2) xs xm xar xbelow xmeth xc H locs 0 0 xQ (F0 xm 3 ls []) := by
    intro n9
    induction n9 with
    | zero => intro i h9; exact absurd h9 (Nat.not_lt_zero _)
    | succ n9 ih9 =>
      intro i hm9 hi h1 H locs xP xD xS ls xl
      have ih_3 := ih9
      have hm_3 := hm9
      refine lv_iload xe xb d_Quads_indexOf_3 (lv_at xl 5 rfl) ?_
      refine lv_aload_n xe xb d_Quads_indexOf_5 rfl (lv_at xl 0 rfl) ?_
      refine va_get (D := D) (ci := 2) (v := .int (iI qz)) (C := R_Quads) (T := F_Quads) (N := 3) xe xb xt i_Quads xo xK xP 0 rfl rfl 1 (by decide) (xt _ mw_Quads_15) (fun _ h9 => h9) rfl d_Quads_indexOf_6 ?_
      refine tk_icmp_ge (tgt := 66) xe xb d_Quads_indexOf_9 (by decide) (by omega) (fun c_1 => ?_) (fun c_1 => ?_)
      · refine lv_iconst (v := iI (-1)) xe xb d_Quads_indexOf_66 rfl ?_
        exact xret _ _ _ _ (-1) () d_Quads_indexOf_67 trivial (by omega) (by rw [← h1]; exact (idx_end (by omega)).symm) xP xD xS
      · refine lv_aload_n xe xb d_Quads_indexOf_12 rfl (lv_at xl 0 rfl) ?_
        refine lv_iload xe xb d_Quads_indexOf_13 (lv_at xl 5 rfl) ?_
        refine lv_iconst (v := iI (0)) xe xb d_Quads_indexOf_15 rfl ?_
        refine tk_callVi (As := [.int (iI i), .int (iI 0)]) (rest := []) (wr := []) (wn := fun u => [(hQ, .inr (2, [.ref qp, .int (iI qz), .int (iI qf)])), (qp, .inl (cI, 320, .inl P))]) ⟨xe, xb, xml, xo, xt⟩ (c_Quads_part l D cI hQ qp P qz qf i 0 (by first | assumption | omega) (by first | assumption | omega) (by first | assumption | omega)) k_Quads_part mw_Quads_27 ⟨Nat.le_of_ble_eq_true rfl, Nat.le_of_ble_eq_true rfl⟩ xK xP xD xS xA rfl xl.1 rfl (Nat.le_of_ble_eq_true rfl) d_Quads_indexOf_16 ⟨Nat.zero_le _, Nat.zero_le _⟩ [0, 1] [] [0, 1] rfl rfl (by decide) (by decide) (by decide) (by decide) (fun _ => rfl) rfl rfl rfl (fun z_3 u H locs hr_4 hw_2 xP xD xS => ?_)
        try dsimp only at hw_2
        have xP : va_P D classes [(hQ, .inr (2, [.ref qp, .int (iI qz), .int (iI qf)])), (qp, .inl (cI, 320, .inl P))] H := xP
        have xD : va_D xA0 [(hQ, .inr (2, [.ref qp, .int (iI qz), .int (iI qf)])), (qp, .inl (cI, 320, .inl P))] := xD
        have H0 := hw_2
        refine lv_iload_n xe xb d_Quads_indexOf_19 rfl (lv_at xl 1 rfl) ?_
        refine tk_icmp_ne (tgt := 60) xe xb d_Quads_indexOf_20 (by decide) (by omega) (fun c_5 => ?_) (fun c_5 => ?_)
        · refine tk_iinc (v := (i + 1)) (lv' := [(5, .int (iI (i + 1))), (0, .ref hQ), (1, .int (iI a)), (2, .int (iI b)), (3, .int (iI c)), (4, .int (iI d))]) xe xb d_Quads_indexOf_60 xl (k := 5) rfl rfl (by decide) rfl (fun ls xl => ?_)
          refine lv_goto (tgt := 3) xe xb d_Quads_indexOf_63 (by decide) ?_
          exact ih_3 (i + 1) (by omega) (by first | assumption | omega) (by rw [← h1, idx_miss hi.1 (by omega) (fun h9 => by (simp only [qdAt, Prod.mk.injEq] at h9; rw [if_pos (by omega), Int.add_zero] at H0; first | omega | (rw [if_pos (by omega)] at H1; first | omega | (rw [if_pos (by omega)] at H2; first | omega | (rw [if_pos (by omega)] at H3; omega)))))]) _ _ xP xD xS ls (lv_sub xl [1, 2, 3, 4, 5, 0] rfl)
        · refine lv_aload_n xe xb d_Quads_indexOf_23 rfl (lv_at xl 0 rfl) ?_
          refine lv_iload xe xb d_Quads_indexOf_24 (lv_at xl 5 rfl) ?_
          refine lv_iconst (v := iI (1)) xe xb d_Quads_indexOf_26 rfl ?_
          refine tk_callVi (As := [.int (iI i), .int (iI 1)]) (rest := []) (wr := []) (wn := fun u => [(hQ, .inr (2, [.ref qp, .int (iI qz), .int (iI qf)])), (qp, .inl (cI, 320, .inl P))]) ⟨xe, xb, xml, xo, xt⟩ (c_Quads_part l D cI hQ qp P qz qf i 1 (by first | assumption | omega) (by first | assumption | omega) (by first | assumption | omega)) k_Quads_part mw_Quads_27 ⟨Nat.le_of_ble_eq_true rfl, Nat.le_of_ble_eq_true rfl⟩ xK xP xD xS xA rfl xl.1 rfl (Nat.le_of_ble_eq_true rfl) d_Quads_indexOf_27 ⟨Nat.zero_le _, Nat.zero_le _⟩ [0, 1] [] [0, 1] rfl rfl (by decide) (by decide) (by decide) (by decide) (fun _ => rfl) rfl rfl rfl (fun z_7 u H locs hr_8 hw_6 xP xD xS => ?_)
          try dsimp only at hw_6
          have xP : va_P D classes [(hQ, .inr (2, [.ref qp, .int (iI qz), .int (iI qf)])), (qp, .inl (cI, 320, .inl P))] H := xP
          have xD : va_D xA0 [(hQ, .inr (2, [.ref qp, .int (iI qz), .int (iI qf)])), (qp, .inl (cI, 320, .inl P))] := xD
          have H1 := hw_6
          refine lv_iload_n xe xb d_Quads_indexOf_30 rfl (lv_at xl 2 rfl) ?_
          refine tk_icmp_ne (tgt := 60) xe xb d_Quads_indexOf_31 (by decide) (by omega) (fun c_9 => ?_) (fun c_9 => ?_)
          · refine tk_iinc (v := (i + 1)) (lv' := [(5, .int (iI (i + 1))), (0, .ref hQ), (1, .int (iI a)), (2, .int (iI b)), (3, .int (iI c)), (4, .int (iI d))]) xe xb d_Quads_indexOf_60 xl (k := 5) rfl rfl (by decide) rfl (fun ls xl => ?_)
            refine lv_goto (tgt := 3) xe xb d_Quads_indexOf_63 (by decide) ?_
            exact ih_3 (i + 1) (by omega) (by first | assumption | omega) (by rw [← h1, idx_miss hi.1 (by omega) (fun h9 => by (simp only [qdAt, Prod.mk.injEq] at h9; rw [if_pos (by omega), Int.add_zero] at H0; first | omega | (rw [if_pos (by omega)] at H1; first | omega | (rw [if_pos (by omega)] at H2; first | omega | (rw [if_pos (by omega)] at H3; omega)))))]) _ _ xP xD xS ls (lv_sub xl [1, 2, 3, 4, 5, 0] rfl)
          · refine lv_aload_n xe xb d_Quads_indexOf_34 rfl (lv_at xl 0 rfl) ?_
            refine lv_iload xe xb d_Quads_indexOf_35 (lv_at xl 5 rfl) ?_
            refine lv_iconst (v := iI (2)) xe xb d_Quads_indexOf_37 rfl ?_
            refine tk_callVi (As := [.int (iI i), .int (iI 2)]) (rest := []) (wr := []) (wn := fun u => [(hQ, .inr (2, [.ref qp, .int (iI qz), .int (iI qf)])), (qp, .inl (cI, 320, .inl P))]) ⟨xe, xb, xml, xo, xt⟩ (c_Quads_part l D cI hQ qp P qz qf i 2 (by first | assumption | omega) (by first | assumption | omega) (by first | assumption | omega)) k_Quads_part mw_Quads_27 ⟨Nat.le_of_ble_eq_true rfl, Nat.le_of_ble_eq_true rfl⟩ xK xP xD xS xA rfl xl.1 rfl (Nat.le_of_ble_eq_true rfl) d_Quads_indexOf_38 ⟨Nat.zero_le _, Nat.zero_le _⟩ [0, 1] [] [0, 1] rfl rfl (by decide) (by decide) (by decide) (by decide) (fun _ => rfl) rfl rfl rfl (fun z_11 u H locs hr_12 hw_10 xP xD xS => ?_)
            try dsimp only at hw_10
            have xP : va_P D classes [(hQ, .inr (2, [.ref qp, .int (iI qz), .int (iI qf)])), (qp, .inl (cI, 320, .inl P))] H := xP
            have xD : va_D xA0 [(hQ, .inr (2, [.ref qp, .int (iI qz), .int (iI qf)])), (qp, .inl (cI, 320, .inl P))] := xD
            have H2 := hw_10
            refine lv_iload_n xe xb d_Quads_indexOf_41 rfl (lv_at xl 3 rfl) ?_
            refine tk_icmp_ne (tgt := 60) xe xb d_Quads_indexOf_42 (by decide) (by omega) (fun c_13 => ?_) (fun c_13 => ?_)
            · refine tk_iinc (v := (i + 1)) (lv' := [(5, .int (iI (i + 1))), (0, .ref hQ), (1, .int (iI a)), (2, .int (iI b)), (3, .int (iI c)), (4, .int (iI d))]) xe xb d_Quads_indexOf_60 xl (k := 5) rfl rfl (by decide) rfl (fun ls xl => ?_)
              refine lv_goto (tgt := 3) xe xb d_Quads_indexOf_63 (by decide) ?_
              exact ih_3 (i + 1) (by omega) (by first | assumption | omega) (by rw [← h1, idx_miss hi.1 (by omega) (fun h9 => by (simp only [qdAt, Prod.mk.injEq] at h9; rw [if_pos (by omega), Int.add_zero] at H0; first | omega | (rw [if_pos (by omega)] at H1; first | omega | (rw [if_pos (by omega)] at H2; first | omega | (rw [if_pos (by omega)] at H3; omega)))))]) _ _ xP xD xS ls (lv_sub xl [1, 2, 3, 4, 5, 0] rfl)
            · refine lv_aload_n xe xb d_Quads_indexOf_45 rfl (lv_at xl 0 rfl) ?_
              refine lv_iload xe xb d_Quads_indexOf_46 (lv_at xl 5 rfl) ?_
              refine lv_iconst (v := iI (3)) xe xb d_Quads_indexOf_48 rfl ?_
              refine tk_callVi (As := [.int (iI i), .int (iI 3)]) (rest := []) (wr := []) (wn := fun u => [(hQ, .inr (2, [.ref qp, .int (iI qz), .int (iI qf)])), (qp, .inl (cI, 320, .inl P))]) ⟨xe, xb, xml, xo, xt⟩ (c_Quads_part l D cI hQ qp P qz qf i 3 (by first | assumption | omega) (by first | assumption | omega) (by first | assumption | omega)) k_Quads_part mw_Quads_27 ⟨Nat.le_of_ble_eq_true rfl, Nat.le_of_ble_eq_true rfl⟩ xK xP xD xS xA rfl xl.1 rfl (Nat.le_of_ble_eq_true rfl) d_Quads_indexOf_49 ⟨Nat.zero_le _, Nat.zero_le _⟩ [0, 1] [] [0, 1] rfl rfl (by decide) (by decide) (by decide) (by decide) (fun _ => rfl) rfl rfl rfl (fun z_15 u H locs hr_16 hw_14 xP xD xS => ?_)
              try dsimp only at hw_14
              have xP : va_P D classes [(hQ, .inr (2, [.ref qp, .int (iI qz), .int (iI qf)])), (qp, .inl (cI, 320, .inl P))] H := xP
              have xD : va_D xA0 [(hQ, .inr (2, [.ref qp, .int (iI qz), .int (iI qf)])), (qp, .inl (cI, 320, .inl P))] := xD
              have H3 := hw_14
              refine lv_iload xe xb d_Quads_indexOf_52 (lv_at xl 4 rfl) ?_
              refine tk_icmp_ne (tgt := 60) xe xb d_Quads_indexOf_54 (by decide) (by omega) (fun c_17 => ?_) (fun c_17 => ?_)
              · refine tk_iinc (v := (i + 1)) (lv' := [(5, .int (iI (i + 1))), (0, .ref hQ), (1, .int (iI a)), (2, .int (iI b)), (3, .int (iI c)), (4, .int (iI d))]) xe xb d_Quads_indexOf_60 xl (k := 5) rfl rfl (by decide) rfl (fun ls xl => ?_)
                refine lv_goto (tgt := 3) xe xb d_Quads_indexOf_63 (by decide) ?_
                exact ih_3 (i + 1) (by omega) (by first | assumption | omega) (by rw [← h1, idx_miss hi.1 (by omega) (fun h9 => by (simp only [qdAt, Prod.mk.injEq] at h9; rw [if_pos (by omega), Int.add_zero] at H0; first | omega | (rw [if_pos (by omega)] at H1; first | omega | (rw [if_pos (by omega)] at H2; first | omega | (rw [if_pos (by omega)] at H3; omega)))))]) _ _ xP xD xS ls (lv_sub xl [1, 2, 3, 4, 5, 0] rfl)
              · refine lv_iload xe xb d_Quads_indexOf_57 (lv_at xl 5 rfl) ?_
                exact xret _ _ _ _ i () d_Quads_indexOf_59 trivial (by omega) (by rw [← h1]; refine (idx_hit hi.1 (by omega) ?_).symm; rw [if_pos (by omega)] at H0 H1 H2 H3; unfold qdAt; rw [Int.add_zero] at H0; rw [← H0, ← H1, ← H2, ← H3]; simp only [Prod.mk.injEq]; omega) xP xD xS
  exact loop_3 _ 0 (Nat.lt_succ_self _) (by first | assumption | omega) rfl _ _ xP xD xS ls (lv_sub xl [1, 2, 3, 4, 5, 0] rfl)
set_option maxHeartbeats 4000000 in
set_option maxRecDepth 100000 in
theorem c_Quads_addNew (l : Launch) (D : va_G) (cI : ClassId) (hQ : Nat) (qp : Nat) (P : Nat → Int32) (qz : Int) (qf : Int) (a : Int) (b : Int) (c : Int) (d : Int) (hz : 0 ≤ qz ∧ qz ≤ 80) (ha : -2147483648 ≤ a ∧ a < 2147483648) (hb0 : -2147483648 ≤ b ∧ b < 2147483648) (hc : -2147483648 ≤ c ∧ c < 2147483648) (hd : -2147483648 ≤ d ∧ d < 2147483648) : CtV l D [(cI, .int)] y_Quads_addNew b_Quads_addNew 6 3 [.ref hQ, .int (iI a), .int (iI b), .int (iI c), .int (iI d)] [(hQ, .inr (2, [.ref qp, .int (iI qz), .int (iI qf)])), (qp, .inl (cI, 320, .inl P))] (S := (Nat → Int32) × Int × Int) (fun u => 0 ≤ u.2.1 ∧ u.2.1 ≤ 80 ∧ qOut (lst (qdAt u.1) u.2.1) u.2.2 (lst (qdAt P) qz) qf (a, b, c, d)) (fun u => [(hQ, .inr (2, [.ref qp, .int (iI u.2.1), .int (iI u.2.2)])), (qp, .inl (cI, 320, .inl u.1))]) := by
  refine CtV.walk (by decide) (Nat.le_of_ble_eq_true rfl) ?_
  intro xp xe0 xs xm xar xbelow xmeth xc xA0 xQ xe xb xml xo xt xP xK xD xA xret ls xl xS
  have xl : lv_has ls 6 [(0, .ref hQ), (1, .int (iI a)), (2, .int (iI b)), (3, .int (iI c)), (4, .int (iI d))] := xl
  have xo : xs.vm.findClass R_Quads = some xm.cls := xo
  have hL : ((lst (qdAt P) qz).length : Int) = qz := by rw [lst_length]; omega
  refine lv_aload_n xe xb d_Quads_addNew_0 rfl (lv_at xl 0 rfl) ?_
  refine lv_iload_n xe xb d_Quads_addNew_1 rfl (lv_at xl 1 rfl) ?_
  refine lv_iload_n xe xb d_Quads_addNew_2 rfl (lv_at xl 2 rfl) ?_
  refine lv_iload_n xe xb d_Quads_addNew_3 rfl (lv_at xl 3 rfl) ?_
  refine lv_iload xe xb d_Quads_addNew_4 (lv_at xl 4 rfl) ?_
  refine tk_callVi (As := [.int (iI a), .int (iI b), .int (iI c), .int (iI d)]) (rest := []) (wr := []) (wn := fun u => [(hQ, .inr (2, [.ref qp, .int (iI qz), .int (iI qf)])), (qp, .inl (cI, 320, .inl P))]) ⟨xe, xb, xml, xo, xt⟩ (c_Quads_indexOf l D cI hQ qp P qz qf a b c d (by first | assumption | omega) (by first | assumption | omega) (by first | assumption | omega) (by first | assumption | omega) (by first | assumption | omega)) k_Quads_indexOf mw_Quads_31 ⟨Nat.le_of_ble_eq_true rfl, Nat.le_of_ble_eq_true rfl⟩ xK xP xD xS xA rfl xl.1 rfl (Nat.le_of_ble_eq_true rfl) d_Quads_addNew_6 ⟨Nat.zero_le _, Nat.zero_le _⟩ [0, 1] [] [0, 1] rfl rfl (by decide) (by decide) (by decide) (by decide) (fun _ => rfl) rfl rfl rfl (fun z_2 u H locs hr_3 hw_1 xP xD xS => ?_)
  try dsimp only at hw_1
  have xP : va_P D classes [(hQ, .inr (2, [.ref qp, .int (iI qz), .int (iI qf)])), (qp, .inl (cI, 320, .inl P))] H := xP
  have xD : va_D xA0 [(hQ, .inr (2, [.ref qp, .int (iI qz), .int (iI qf)])), (qp, .inl (cI, 320, .inl P))] := xD
  have HI := hw_1
  refine lv_iconst (v := iI (-1)) xe xb d_Quads_addNew_9 rfl ?_
  refine tk_icmp_eq (tgt := 14) xe xb d_Quads_addNew_10 (by decide) (by omega) (fun c_4 => ?_) (fun c_4 => ?_)
  · refine lv_aload_n xe xb d_Quads_addNew_14 rfl (lv_at xl 0 rfl) ?_
    refine va_get (D := D) (ci := 2) (v := .int (iI qz)) (C := R_Quads) (T := F_Quads) (N := 3) xe xb xt i_Quads xo xK xP 0 rfl rfl 1 (by decide) (xt _ mw_Quads_15) (fun _ h9 => h9) rfl d_Quads_addNew_15 ?_
    refine tk_if_lt (tgt := 30) xe xb d_Quads_addNew_18 (by decide) (by omega) (fun c_5 => absurd c_5 (by omega)) (fun c_5 => ?_)
    refine lv_aload_n xe xb d_Quads_addNew_21 rfl (lv_at xl 0 rfl) ?_
    refine va_get (D := D) (ci := 2) (v := .int (iI qz)) (C := R_Quads) (T := F_Quads) (N := 3) xe xb xt i_Quads xo xK xP 0 rfl rfl 1 (by decide) (xt _ mw_Quads_15) (fun _ h9 => h9) rfl d_Quads_addNew_22 ?_
    refine lv_bipush (v := iI (80)) xe xb d_Quads_addNew_25 (by decide) ?_
    refine tk_icmp_lt (tgt := 36) xe xb d_Quads_addNew_27 (by decide) (by omega) (fun c_6 => ?_) (fun c_6 => ?_)
    · refine lv_aload_n xe xb d_Quads_addNew_36 rfl (lv_at xl 0 rfl) ?_
      refine va_get (D := D) (ci := 2) (v := .int (iI qz)) (C := R_Quads) (T := F_Quads) (N := 3) xe xb xt i_Quads xo xK xP 0 rfl rfl 1 (by decide) (xt _ mw_Quads_15) (fun _ h9 => h9) rfl d_Quads_addNew_37 ?_
      refine lv_iconst (v := iI (4)) xe xb d_Quads_addNew_40 rfl ?_
      refine tk_imul xe xb d_Quads_addNew_41 ?_
      refine lv_istore (lv' := [(5, .int (iI (qz * 4))), (0, .ref hQ), (1, .int (iI a)), (2, .int (iI b)), (3, .int (iI c)), (4, .int (iI d))]) xe xb d_Quads_addNew_42 xl (by decide) rfl (fun ls xl => ?_)
      refine lv_aload_n xe xb d_Quads_addNew_44 rfl (lv_at xl 1 rfl) ?_
      refine va_get (D := D) (ci := 2) (v := .ref qp) (C := R_Quads) (T := F_Quads) (N := 3) xe xb xt i_Quads xo xK xP 0 rfl rfl 0 (by decide) (xt _ mw_Quads_9) (fun _ h9 => h9) rfl d_Quads_addNew_45 ?_
      refine lv_iload xe xb d_Quads_addNew_48 (lv_at xl 0 rfl) ?_
      refine lv_iload_n xe xb d_Quads_addNew_50 rfl (lv_at xl 2 rfl) ?_
      refine tk_iast xe xb xK xP xD xS 1 0 rfl rfl (by omega) d_Quads_addNew_51 (fun H locs xP xD xS => ?_)
      have xP : va_P D classes [(hQ, .inr (2, [.ref qp, .int (iI qz), .int (iI qf)])), (qp, .inl (cI, 320, .inl (fu P (qz * 4) a)))] H := xP
      have xD : va_D xA0 [(hQ, .inr (2, [.ref qp, .int (iI qz), .int (iI qf)])), (qp, .inl (cI, 320, .inl (fu P (qz * 4) a)))] := xD
      refine lv_aload_n xe xb d_Quads_addNew_52 rfl (lv_at xl 1 rfl) ?_
      refine va_get (D := D) (ci := 2) (v := .ref qp) (C := R_Quads) (T := F_Quads) (N := 3) xe xb xt i_Quads xo xK xP 0 rfl rfl 0 (by decide) (xt _ mw_Quads_9) (fun _ h9 => h9) rfl d_Quads_addNew_53 ?_
      refine lv_iload xe xb d_Quads_addNew_56 (lv_at xl 0 rfl) ?_
      refine lv_iconst (v := iI (1)) xe xb d_Quads_addNew_58 rfl ?_
      refine tk_iadd xe xb d_Quads_addNew_59 ?_
      refine lv_iload_n xe xb d_Quads_addNew_60 rfl (lv_at xl 3 rfl) ?_
      refine tk_iast xe xb xK xP xD xS 1 0 rfl rfl (by omega) d_Quads_addNew_61 (fun H locs xP xD xS => ?_)
      have xP : va_P D classes [(hQ, .inr (2, [.ref qp, .int (iI qz), .int (iI qf)])), (qp, .inl (cI, 320, .inl (fu (fu P (qz * 4) a) ((qz * 4) + 1) b)))] H := xP
      have xD : va_D xA0 [(hQ, .inr (2, [.ref qp, .int (iI qz), .int (iI qf)])), (qp, .inl (cI, 320, .inl (fu (fu P (qz * 4) a) ((qz * 4) + 1) b)))] := xD
      refine lv_aload_n xe xb d_Quads_addNew_62 rfl (lv_at xl 1 rfl) ?_
      refine va_get (D := D) (ci := 2) (v := .ref qp) (C := R_Quads) (T := F_Quads) (N := 3) xe xb xt i_Quads xo xK xP 0 rfl rfl 0 (by decide) (xt _ mw_Quads_9) (fun _ h9 => h9) rfl d_Quads_addNew_63 ?_
      refine lv_iload xe xb d_Quads_addNew_66 (lv_at xl 0 rfl) ?_
      refine lv_iconst (v := iI (2)) xe xb d_Quads_addNew_68 rfl ?_
      refine tk_iadd xe xb d_Quads_addNew_69 ?_
      refine lv_iload_n xe xb d_Quads_addNew_70 rfl (lv_at xl 4 rfl) ?_
      refine tk_iast xe xb xK xP xD xS 1 0 rfl rfl (by omega) d_Quads_addNew_71 (fun H locs xP xD xS => ?_)
      have xP : va_P D classes [(hQ, .inr (2, [.ref qp, .int (iI qz), .int (iI qf)])), (qp, .inl (cI, 320, .inl (fu (fu (fu P (qz * 4) a) ((qz * 4) + 1) b) ((qz * 4) + 2) c)))] H := xP
      have xD : va_D xA0 [(hQ, .inr (2, [.ref qp, .int (iI qz), .int (iI qf)])), (qp, .inl (cI, 320, .inl (fu (fu (fu P (qz * 4) a) ((qz * 4) + 1) b) ((qz * 4) + 2) c)))] := xD
      refine lv_aload_n xe xb d_Quads_addNew_72 rfl (lv_at xl 1 rfl) ?_
      refine va_get (D := D) (ci := 2) (v := .ref qp) (C := R_Quads) (T := F_Quads) (N := 3) xe xb xt i_Quads xo xK xP 0 rfl rfl 0 (by decide) (xt _ mw_Quads_9) (fun _ h9 => h9) rfl d_Quads_addNew_73 ?_
      refine lv_iload xe xb d_Quads_addNew_76 (lv_at xl 0 rfl) ?_
      refine lv_iconst (v := iI (3)) xe xb d_Quads_addNew_78 rfl ?_
      refine tk_iadd xe xb d_Quads_addNew_79 ?_
      refine lv_iload xe xb d_Quads_addNew_80 (lv_at xl 5 rfl) ?_
      refine tk_iast xe xb xK xP xD xS 1 0 rfl rfl (by omega) d_Quads_addNew_82 (fun H locs xP xD xS => ?_)
      have xP : va_P D classes [(hQ, .inr (2, [.ref qp, .int (iI qz), .int (iI qf)])), (qp, .inl (cI, 320, .inl (fu (fu (fu (fu P (qz * 4) a) ((qz * 4) + 1) b) ((qz * 4) + 2) c) ((qz * 4) + 3) d)))] H := xP
      have xD : va_D xA0 [(hQ, .inr (2, [.ref qp, .int (iI qz), .int (iI qf)])), (qp, .inl (cI, 320, .inl (fu (fu (fu (fu P (qz * 4) a) ((qz * 4) + 1) b) ((qz * 4) + 2) c) ((qz * 4) + 3) d)))] := xD
      refine lv_aload_n xe xb d_Quads_addNew_83 rfl (lv_at xl 1 rfl) ?_
      refine lv_dup xe xb d_Quads_addNew_84 rfl ?_
      refine va_get (D := D) (ci := 2) (v := .int (iI qz)) (C := R_Quads) (T := F_Quads) (N := 3) xe xb xt i_Quads xo xK xP 0 rfl rfl 1 (by decide) (xt _ mw_Quads_15) (fun _ h9 => h9) rfl d_Quads_addNew_85 ?_
      refine lv_iconst (v := iI (1)) xe xb d_Quads_addNew_88 rfl ?_
      refine tk_iadd xe xb d_Quads_addNew_89 ?_
      refine va_put (D := D) (ci := 2) (v := .int (iI (qz + 1))) (ty := .int) (C := R_Quads) (T := F_Quads) (N := 3) xe xb xt i_Quads t_Quads t_Quads_ok n_Quads xo xK xP xD xS 0 rfl rfl 1 (by decide) (xt _ mw_Quads_15) (fun _ h9 => h9) rfl (by decide +kernel) rfl rfl (Nat.le_of_ble_eq_true rfl) d_Quads_addNew_90 (fun H locs xP xD xS => ?_)
      have xP : va_P D classes [(hQ, .inr (2, [.ref qp, .int (iI (qz + 1)), .int (iI qf)])), (qp, .inl (cI, 320, .inl (fu (fu (fu (fu P (qz * 4) a) ((qz * 4) + 1) b) ((qz * 4) + 2) c) ((qz * 4) + 3) d)))] H := xP
      have xD : va_D xA0 [(hQ, .inr (2, [.ref qp, .int (iI (qz + 1)), .int (iI qf)])), (qp, .inl (cI, 320, .inl (fu (fu (fu (fu P (qz * 4) a) ((qz * 4) + 1) b) ((qz * 4) + 2) c) ((qz * 4) + 3) d)))] := xD
      exact xret _ _ _ _ ((fu (fu (fu (fu P (qz * 4) a) ((qz * 4) + 1) b) ((qz * 4) + 2) c) ((qz * 4) + 3) d), (qz + 1), qf) d_Quads_addNew_93 (by first | exact (⟨by omega, by omega, Or.inr (Or.inr ⟨by omega, by omega, qd_push hz.1 ha hb0 hc hd, rfl⟩)⟩) | (dsimp only; exact (⟨by omega, by omega, Or.inr (Or.inr ⟨by omega, by omega, qd_push hz.1 ha hb0 hc hd, rfl⟩)⟩))) xP xD xS
    · refine lv_aload_n xe xb d_Quads_addNew_30 rfl (lv_at xl 0 rfl) ?_
      refine lv_iconst (v := iI (1)) xe xb d_Quads_addNew_31 rfl ?_
      refine va_put (D := D) (ci := 2) (v := .int (iI 1)) (ty := .boolean) (C := R_Quads) (T := F_Quads) (N := 3) xe xb xt i_Quads t_Quads t_Quads_ok n_Quads xo xK xP xD xS 0 rfl rfl 2 (by decide) (xt _ mw_Quads_19) (fun _ h9 => h9) rfl (by decide +kernel) (by decide) (by decide) (Nat.le_of_ble_eq_true rfl) d_Quads_addNew_32 (fun H locs xP xD xS => ?_)
      have xP : va_P D classes [(hQ, .inr (2, [.ref qp, .int (iI qz), .int (iI 1)])), (qp, .inl (cI, 320, .inl P))] H := xP
      have xD : va_D xA0 [(hQ, .inr (2, [.ref qp, .int (iI qz), .int (iI 1)])), (qp, .inl (cI, 320, .inl P))] := xD
      exact xret _ _ _ _ (P, qz, 1) d_Quads_addNew_35 (by first | exact (⟨by omega, by omega, Or.inr (Or.inl ⟨by omega, by omega, rfl, rfl⟩)⟩) | (dsimp only; exact (⟨by omega, by omega, Or.inr (Or.inl ⟨by omega, by omega, rfl, rfl⟩)⟩))) xP xD xS
  · exact xret _ _ _ _ (P, qz, qf) d_Quads_addNew_13 (by first | exact (⟨by omega, by omega, Or.inl ⟨by omega, rfl, rfl⟩⟩) | (dsimp only; exact (⟨by omega, by omega, Or.inl ⟨by omega, rfl, rfl⟩⟩))) xP xD xS
